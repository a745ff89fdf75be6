def t_X5_mustRest_0 (a1 a7 a8 : Int32) : Int32 := if a7 = (-1 : Int32) then (if a8 = (-1 : Int32) then (if (10 : Int32) ≤ a1 then (1 : Int32) else (if (0 : Int32) = 0 then (if a1 ≤ 0 then (0 : Int32) else (1 : Int32)) else (0 : Int32))) else (if (10 : Int32) ≤ a1 then (1 : Int32) else (if (1 : Int32) = 0 then (if a1 ≤ 0 then (0 : Int32) else (1 : Int32)) else (0 : Int32)))) else (if (10 : Int32) ≤ a1 then (1 : Int32) else (if (1 : Int32) = 0 then (if a1 ≤ 0 then (0 : Int32) else (1 : Int32)) else (0 : Int32)))
theorem t_X5_mustRest_0_01 {a1 a7 a8 : Int32} : (t_X5_mustRest_0 a1 a7 a8) = 0 ∨ (t_X5_mustRest_0 a1 a7 a8) = 1 := by unfold t_X5_mustRest_0; (repeat' split) <;> first | exact Or.inl rfl | exact Or.inr rfl | assumption
set_option maxHeartbeats 4000000 in
set_option maxRecDepth 100000 in
theorem c_X5_mustRest (l : Launch) (G : GG) (M : HM) (h0 r0 : Nat) (a0 a1 a2 a3 a4 a5 a6 a7 a8 a9 : Int32) (ha_h0 : M h0 = some (r0, (.inr (6, [.int a0, .int a1, .int a2, .int a3, .int a4, .int a5, .int a6, .int a7, .int a8, .int a9])))) : Mi l yX5_mustRest (.code yX5_mustRest cX5_mustRest 2 (some .boolean) :: AL) 0 0 0 0 [.ref h0] G M (fun r M' => r = (t_X5_mustRest_0 a1 a7 a8) ∧ M' = M) := by
  refine Mi.go (by decide) (Nat.le_of_ble_eq_true rfl) ?_
  intro p e s m below meth c ls hx hb hr hml hown hlocks hname hts hK hM hl
  have hown : s.vm.findClass RX5 = some m.cls := hown
  have hl : lv_has ls 2 [(0, .ref h0)] := hl
  refine lv_aload_n hx hb dX5_mustRest_0 rfl (lv_at hl 0 rfl) ?_
  refine fg_X5_15 hx hb hts hown hK hM ha_h0 dX5_mustRest_1 ?_
  refine lv_iconst (v := (-1 : Int32)) hx hb dX5_mustRest_4 (by decide) ?_
  refine lv_icmp_ne (tgt := 16) hx hb dX5_mustRest_5 (by decide) (fun c1 => ?_) (fun c1 => ?_)
  · refine lv_iconst (v := (1 : Int32)) hx hb dX5_mustRest_16 (by decide) ?_
    refine lv_goto (tgt := 21) hx hb dX5_mustRest_17 (by decide) ?_
    refine lv_istore_n (lv' := [(1, .int (1 : Int32)), (0, .ref h0)]) hx hb dX5_mustRest_21 rfl hl (by decide) rfl (fun ls hl => ?_)
    refine lv_aload_n hx hb dX5_mustRest_22 rfl (lv_at hl 1 rfl) ?_
    refine fg_X5_24 hx hb hts hown hK hM ha_h0 dX5_mustRest_23 ?_
    refine lv_bipush (v := (10 : Int32)) hx hb dX5_mustRest_26 (by decide) ?_
    refine lv_icmp_ge (tgt := 42) hx hb dX5_mustRest_28 (by decide) (fun c2 => ?_) (fun c2 => ?_)
    · refine lv_iconst (v := (1 : Int32)) hx hb dX5_mustRest_42 (by decide) ?_
      refine lv_goto (tgt := 47) hx hb dX5_mustRest_43 (by decide) ?_
      exact g_zret hx hb hr hlocks hM (Nat.zero_le _) (Nat.zero_le _) (nz01 (Or.inr rfl)) ⟨(show (1 : Int32) = (t_X5_mustRest_0 a1 a7 a8) from Eq.symm (by unfold t_X5_mustRest_0; rw [if_neg c1, if_pos c2])), rfl⟩ dX5_mustRest_47
    · refine lv_iload_n hx hb dX5_mustRest_31 rfl (lv_at hl 0 rfl) ?_
      refine lv_if_ne (tgt := 46) hx hb dX5_mustRest_32 (by decide) (fun c3 => ?_) (fun c3 => ?_)
      · refine lv_iconst (v := (0 : Int32)) hx hb dX5_mustRest_46 (by decide) ?_
        exact g_zret hx hb hr hlocks hM (Nat.zero_le _) (Nat.zero_le _) (nz01 (Or.inl rfl)) ⟨(show (0 : Int32) = (t_X5_mustRest_0 a1 a7 a8) from Eq.symm (by unfold t_X5_mustRest_0; rw [if_neg c1, if_neg c2, if_neg c3])), rfl⟩ dX5_mustRest_47
      · refine lv_aload_n hx hb dX5_mustRest_35 rfl (lv_at hl 1 rfl) ?_
        refine fg_X5_24 hx hb hts hown hK hM ha_h0 dX5_mustRest_36 ?_
        refine lv_if_le (tgt := 46) hx hb dX5_mustRest_39 (by decide) (fun c4 => ?_) (fun c4 => ?_)
        · refine lv_iconst (v := (0 : Int32)) hx hb dX5_mustRest_46 (by decide) ?_
          exact g_zret hx hb hr hlocks hM (Nat.zero_le _) (Nat.zero_le _) (nz01 (Or.inl rfl)) ⟨(show (0 : Int32) = (t_X5_mustRest_0 a1 a7 a8) from Eq.symm (by unfold t_X5_mustRest_0; rw [if_neg c1, if_neg c2, if_pos c3, if_pos c4])), rfl⟩ dX5_mustRest_47
        · refine lv_iconst (v := (1 : Int32)) hx hb dX5_mustRest_42 (by decide) ?_
          refine lv_goto (tgt := 47) hx hb dX5_mustRest_43 (by decide) ?_
          exact g_zret hx hb hr hlocks hM (Nat.zero_le _) (Nat.zero_le _) (nz01 (Or.inr rfl)) ⟨(show (1 : Int32) = (t_X5_mustRest_0 a1 a7 a8) from Eq.symm (by unfold t_X5_mustRest_0; rw [if_neg c1, if_neg c2, if_pos c3, if_neg c4])), rfl⟩ dX5_mustRest_47
  · refine lv_aload_n hx hb dX5_mustRest_8 rfl (lv_at hl 0 rfl) ?_
    refine fg_X5_18 hx hb hts hown hK hM ha_h0 dX5_mustRest_9 ?_
    refine lv_iconst (v := (-1 : Int32)) hx hb dX5_mustRest_12 (by decide) ?_
    refine lv_icmp_eq (tgt := 20) hx hb dX5_mustRest_13 (by decide) (fun c5 => ?_) (fun c5 => ?_)
    · refine lv_iconst (v := (0 : Int32)) hx hb dX5_mustRest_20 (by decide) ?_
      refine lv_istore_n (lv' := [(1, .int (0 : Int32)), (0, .ref h0)]) hx hb dX5_mustRest_21 rfl hl (by decide) rfl (fun ls hl => ?_)
      refine lv_aload_n hx hb dX5_mustRest_22 rfl (lv_at hl 1 rfl) ?_
      refine fg_X5_24 hx hb hts hown hK hM ha_h0 dX5_mustRest_23 ?_
      refine lv_bipush (v := (10 : Int32)) hx hb dX5_mustRest_26 (by decide) ?_
      refine lv_icmp_ge (tgt := 42) hx hb dX5_mustRest_28 (by decide) (fun c6 => ?_) (fun c6 => ?_)
      · refine lv_iconst (v := (1 : Int32)) hx hb dX5_mustRest_42 (by decide) ?_
        refine lv_goto (tgt := 47) hx hb dX5_mustRest_43 (by decide) ?_
        exact g_zret hx hb hr hlocks hM (Nat.zero_le _) (Nat.zero_le _) (nz01 (Or.inr rfl)) ⟨(show (1 : Int32) = (t_X5_mustRest_0 a1 a7 a8) from Eq.symm (by unfold t_X5_mustRest_0; rw [if_pos c1, if_pos c5, if_pos c6])), rfl⟩ dX5_mustRest_47
      · refine lv_iload_n hx hb dX5_mustRest_31 rfl (lv_at hl 0 rfl) ?_
        refine lv_if_ne (tgt := 46) hx hb dX5_mustRest_32 (by decide) (fun c7 => ?_) (fun c7 => ?_)
        · refine lv_iconst (v := (0 : Int32)) hx hb dX5_mustRest_46 (by decide) ?_
          exact g_zret hx hb hr hlocks hM (Nat.zero_le _) (Nat.zero_le _) (nz01 (Or.inl rfl)) ⟨(show (0 : Int32) = (t_X5_mustRest_0 a1 a7 a8) from Eq.symm (by unfold t_X5_mustRest_0; rw [if_pos c1, if_pos c5, if_neg c6, if_neg c7])), rfl⟩ dX5_mustRest_47
        · refine lv_aload_n hx hb dX5_mustRest_35 rfl (lv_at hl 1 rfl) ?_
          refine fg_X5_24 hx hb hts hown hK hM ha_h0 dX5_mustRest_36 ?_
          refine lv_if_le (tgt := 46) hx hb dX5_mustRest_39 (by decide) (fun c8 => ?_) (fun c8 => ?_)
          · refine lv_iconst (v := (0 : Int32)) hx hb dX5_mustRest_46 (by decide) ?_
            exact g_zret hx hb hr hlocks hM (Nat.zero_le _) (Nat.zero_le _) (nz01 (Or.inl rfl)) ⟨(show (0 : Int32) = (t_X5_mustRest_0 a1 a7 a8) from Eq.symm (by unfold t_X5_mustRest_0; rw [if_pos c1, if_pos c5, if_neg c6, if_pos c7, if_pos c8])), rfl⟩ dX5_mustRest_47
          · refine lv_iconst (v := (1 : Int32)) hx hb dX5_mustRest_42 (by decide) ?_
            refine lv_goto (tgt := 47) hx hb dX5_mustRest_43 (by decide) ?_
            exact g_zret hx hb hr hlocks hM (Nat.zero_le _) (Nat.zero_le _) (nz01 (Or.inr rfl)) ⟨(show (1 : Int32) = (t_X5_mustRest_0 a1 a7 a8) from Eq.symm (by unfold t_X5_mustRest_0; rw [if_pos c1, if_pos c5, if_neg c6, if_pos c7, if_neg c8])), rfl⟩ dX5_mustRest_47
    · refine lv_iconst (v := (1 : Int32)) hx hb dX5_mustRest_16 (by decide) ?_
      refine lv_goto (tgt := 21) hx hb dX5_mustRest_17 (by decide) ?_
      refine lv_istore_n (lv' := [(1, .int (1 : Int32)), (0, .ref h0)]) hx hb dX5_mustRest_21 rfl hl (by decide) rfl (fun ls hl => ?_)
      refine lv_aload_n hx hb dX5_mustRest_22 rfl (lv_at hl 1 rfl) ?_
      refine fg_X5_24 hx hb hts hown hK hM ha_h0 dX5_mustRest_23 ?_
      refine lv_bipush (v := (10 : Int32)) hx hb dX5_mustRest_26 (by decide) ?_
      refine lv_icmp_ge (tgt := 42) hx hb dX5_mustRest_28 (by decide) (fun c9 => ?_) (fun c9 => ?_)
      · refine lv_iconst (v := (1 : Int32)) hx hb dX5_mustRest_42 (by decide) ?_
        refine lv_goto (tgt := 47) hx hb dX5_mustRest_43 (by decide) ?_
        exact g_zret hx hb hr hlocks hM (Nat.zero_le _) (Nat.zero_le _) (nz01 (Or.inr rfl)) ⟨(show (1 : Int32) = (t_X5_mustRest_0 a1 a7 a8) from Eq.symm (by unfold t_X5_mustRest_0; rw [if_pos c1, if_neg c5, if_pos c9])), rfl⟩ dX5_mustRest_47
      · refine lv_iload_n hx hb dX5_mustRest_31 rfl (lv_at hl 0 rfl) ?_
        refine lv_if_ne (tgt := 46) hx hb dX5_mustRest_32 (by decide) (fun c10 => ?_) (fun c10 => ?_)
        · refine lv_iconst (v := (0 : Int32)) hx hb dX5_mustRest_46 (by decide) ?_
          exact g_zret hx hb hr hlocks hM (Nat.zero_le _) (Nat.zero_le _) (nz01 (Or.inl rfl)) ⟨(show (0 : Int32) = (t_X5_mustRest_0 a1 a7 a8) from Eq.symm (by unfold t_X5_mustRest_0; rw [if_pos c1, if_neg c5, if_neg c9, if_neg c10])), rfl⟩ dX5_mustRest_47
        · refine lv_aload_n hx hb dX5_mustRest_35 rfl (lv_at hl 1 rfl) ?_
          refine fg_X5_24 hx hb hts hown hK hM ha_h0 dX5_mustRest_36 ?_
          refine lv_if_le (tgt := 46) hx hb dX5_mustRest_39 (by decide) (fun c11 => ?_) (fun c11 => ?_)
          · refine lv_iconst (v := (0 : Int32)) hx hb dX5_mustRest_46 (by decide) ?_
            exact g_zret hx hb hr hlocks hM (Nat.zero_le _) (Nat.zero_le _) (nz01 (Or.inl rfl)) ⟨(show (0 : Int32) = (t_X5_mustRest_0 a1 a7 a8) from Eq.symm (by unfold t_X5_mustRest_0; rw [if_pos c1, if_neg c5, if_neg c9, if_pos c10, if_pos c11])), rfl⟩ dX5_mustRest_47
          · refine lv_iconst (v := (1 : Int32)) hx hb dX5_mustRest_42 (by decide) ?_
            refine lv_goto (tgt := 47) hx hb dX5_mustRest_43 (by decide) ?_
            exact g_zret hx hb hr hlocks hM (Nat.zero_le _) (Nat.zero_le _) (nz01 (Or.inr rfl)) ⟨(show (1 : Int32) = (t_X5_mustRest_0 a1 a7 a8) from Eq.symm (by unfold t_X5_mustRest_0; rw [if_pos c1, if_neg c5, if_neg c9, if_pos c10, if_neg c11])), rfl⟩ dX5_mustRest_47
def t_X5_sleepHour_0 (a1 a5 : Int32) : Int32 := if (a5 + (1 : Int32)) < (8 : Int32) then a1 else (0 : Int32)
def t_X5_sleepHour_1 (a5 : Int32) : Int32 := if (a5 + (1 : Int32)) < (8 : Int32) then (a5 + (1 : Int32)) else (0 : Int32)
set_option maxHeartbeats 4000000 in
set_option maxRecDepth 100000 in
theorem c_X5_sleepHour (l : Launch) (G : GG) (M : HM) (h0 r0 : Nat) (a0 a1 a2 a3 a4 a5 a6 a7 a8 a9 : Int32) (ha_h0 : M h0 = some (r0, (.inr (6, [.int a0, .int a1, .int a2, .int a3, .int a4, .int a5, .int a6, .int a7, .int a8, .int a9])))) : Mv l yX5_sleepHour (.code yX5_sleepHour cX5_sleepHour 1 none :: AL) 0 0 0 0 [.ref h0] G M (fun M' => M' = (hu M h0 r0 (.inr (6, [.int a0, .int (t_X5_sleepHour_0 a1 a5), .int a2, .int a3, .int a4, .int (t_X5_sleepHour_1 a5), .int a6, .int a7, .int a8, .int a9])))) := by
  refine Mv.go (by decide) (Nat.le_of_ble_eq_true rfl) ?_
  intro p e s m below meth c ls hx hb hr hml hown hlocks hname hts hK hM hl
  have hown : s.vm.findClass RX5 = some m.cls := hown
  have hl : lv_has ls 1 [(0, .ref h0)] := hl
  refine lv_aload_n hx hb dX5_sleepHour_0 rfl (lv_at hl 0 rfl) ?_
  refine lv_dup hx hb dX5_sleepHour_1 rfl ?_
  refine fg_X5_33 hx hb hts hown hK hM ha_h0 dX5_sleepHour_2 ?_
  refine lv_iconst (v := (1 : Int32)) hx hb dX5_sleepHour_5 (by decide) ?_
  refine lv_iadd hx hb dX5_sleepHour_6 ?_
  refine fp_X5_33 hx hb hts hown hK hM ha_h0 dX5_sleepHour_7 (fun H locs hM => ?_)
  refine lv_aload_n hx hb dX5_sleepHour_10 rfl (lv_at hl 0 rfl) ?_
  refine fg_X5_33 hx hb hts hown hK hM hu_s dX5_sleepHour_11 ?_
  refine lv_bipush (v := (8 : Int32)) hx hb dX5_sleepHour_14 (by decide) ?_
  refine lv_icmp_lt (tgt := 29) hx hb dX5_sleepHour_16 (by decide) (fun c1 => ?_) (fun c1 => ?_)
  · have e_t_X5_sleepHour_0 : (t_X5_sleepHour_0 a1 a5) = a1 := by unfold t_X5_sleepHour_0; rw [if_pos c1]
    have e_t_X5_sleepHour_1 : (t_X5_sleepHour_1 a5) = (a5 + (1 : Int32)) := by unfold t_X5_sleepHour_1; rw [if_pos c1]
    exact g_vret hx hb hr hlocks hM (Nat.zero_le _) (Nat.zero_le _) (by rw [e_t_X5_sleepHour_0, e_t_X5_sleepHour_1]) dX5_sleepHour_29
  · refine lv_aload_n hx hb dX5_sleepHour_19 rfl (lv_at hl 0 rfl) ?_
    refine lv_iconst (v := (0 : Int32)) hx hb dX5_sleepHour_20 (by decide) ?_
    refine fp_X5_33 hx hb hts hown hK hM hu_s dX5_sleepHour_21 (fun H locs hM => ?_)
    replace hM := hM.eq (hu_u _ _ _ _ _ _)
    refine lv_aload_n hx hb dX5_sleepHour_24 rfl (lv_at hl 0 rfl) ?_
    refine lv_iconst (v := (0 : Int32)) hx hb dX5_sleepHour_25 (by decide) ?_
    refine fp_X5_24 hx hb hts hown hK hM hu_s dX5_sleepHour_26 (fun H locs hM => ?_)
    replace hM := hM.eq (hu_u _ _ _ _ _ _)
    have e_t_X5_sleepHour_0 : (t_X5_sleepHour_0 a1 a5) = (0 : Int32) := by unfold t_X5_sleepHour_0; rw [if_neg c1]
    have e_t_X5_sleepHour_1 : (t_X5_sleepHour_1 a5) = (0 : Int32) := by unfold t_X5_sleepHour_1; rw [if_neg c1]
    exact g_vret hx hb hr hlocks hM (Nat.zero_le _) (Nat.zero_le _) (by rw [e_t_X5_sleepHour_0, e_t_X5_sleepHour_1]) dX5_sleepHour_29
set_option maxHeartbeats 4000000 in
set_option maxRecDepth 100000 in
theorem c_X5_drive (l : Launch) (G : GG) (M : HM) (h0 r0 : Nat) (a0 a1 a2 a3 a4 a5 a6 a7 a8 a9 : Int32) (p0 : Int32) (ha_h0 : M h0 = some (r0, (.inr (6, [.int a0, .int a1, .int a2, .int a3, .int a4, .int a5, .int a6, .int a7, .int a8, .int a9])))) : Mv l yX5_drive (.code yX5_drive cX5_drive 3 none :: AL) 2 43 0 0 [.ref h0, .int p0] G M (fun M' => M' = (hu M h0 r0 (.inr (6, [.int (t_X6_towards_0 a0 p0 (50 : Int32)), .int (a1 + (1 : Int32)), .int a2, .int a3, .int a4, .int (0 : Int32), .int a6, .int a7, .int a8, .int (a9 + (ab ((t_X6_towards_0 a0 p0 (50 : Int32)) - a0)))])))) := by
  refine Mv.go (by decide) (Nat.le_of_ble_eq_true rfl) ?_
  intro p e s m below meth c ls hx hb hr hml hown hlocks hname hts hK hM hl
  have hown : s.vm.findClass RX5 = some m.cls := hown
  have hl : lv_has ls 3 [(0, .ref h0), (1, .int p0)] := hl
  refine lv_aload_n hx hb dX5_drive_0 rfl (lv_at hl 0 rfl) ?_
  refine fg_X5_21 hx hb hts hown hK hM ha_h0 dX5_drive_1 ?_
  refine lv_iload_n hx hb dX5_drive_4 rfl (lv_at hl 1 rfl) ?_
  refine lv_bipush (v := (50 : Int32)) hx hb dX5_drive_5 (by decide) ?_
  refine g_callSNi (n9 := 3) (As := [.int a0, .int p0, .int (50 : Int32)]) (rest := []) hx hb hml hl.1 hown hts hK hM (c_X6_towards l G _ a0 p0 (50 : Int32) ) hK.2.1.2.1 wt_X6_towards wn_X6 wc_X6_towards (by decide +kernel) ⟨Nat.le_of_ble_eq_true rfl, Nat.le_of_ble_eq_true rfl⟩ ⟨Nat.le_of_ble_eq_true rfl, Nat.le_of_ble_eq_true rfl⟩ rfl (Nat.le_of_ble_eq_true rfl) rfl dX5_drive_7 (fun r_7 M1 H locs hq hM => ?_)
  have hq1 := hq.1.symm
  have hq2 := hq.2.symm
  subst hq1 hq2
  refine lv_istore_n (lv' := [(2, .int (t_X6_towards_0 a0 p0 (50 : Int32))), (0, .ref h0), (1, .int p0)]) hx hb dX5_drive_10 rfl hl (by decide) rfl (fun ls hl => ?_)
  refine lv_aload_n hx hb dX5_drive_11 rfl (lv_at hl 1 rfl) ?_
  refine lv_dup hx hb dX5_drive_12 rfl ?_
  refine fg_X5_39 hx hb hts hown hK hM ha_h0 dX5_drive_13 ?_
  refine lv_iload_n hx hb dX5_drive_16 rfl (lv_at hl 0 rfl) ?_
  refine lv_aload_n hx hb dX5_drive_17 rfl (lv_at hl 1 rfl) ?_
  refine fg_X5_21 hx hb hts hown hK hM ha_h0 dX5_drive_18 ?_
  refine lv_isub hx hb dX5_drive_21 ?_
  refine va_mabs hx hb (hml.trans hl.1.symm) hown (hts _ wm_X5_46) (hts _ wt_mabs) (hts _ wn_java_lang_Math) (hts _ wc_mabs) (Nat.le_of_ble_eq_true rfl) (Nat.le_of_ble_eq_true rfl) (Nat.zero_le _) (Nat.zero_le _) dX5_drive_22 ?_
  refine lv_iadd hx hb dX5_drive_25 ?_
  refine fp_X5_39 hx hb hts hown hK hM ha_h0 dX5_drive_26 (fun H locs hM => ?_)
  refine lv_aload_n hx hb dX5_drive_29 rfl (lv_at hl 1 rfl) ?_
  refine lv_iload_n hx hb dX5_drive_30 rfl (lv_at hl 0 rfl) ?_
  refine fp_X5_21 hx hb hts hown hK hM hu_s dX5_drive_31 (fun H locs hM => ?_)
  replace hM := hM.eq (hu_u _ _ _ _ _ _)
  refine lv_aload_n hx hb dX5_drive_34 rfl (lv_at hl 1 rfl) ?_
  refine lv_dup hx hb dX5_drive_35 rfl ?_
  refine fg_X5_24 hx hb hts hown hK hM hu_s dX5_drive_36 ?_
  refine lv_iconst (v := (1 : Int32)) hx hb dX5_drive_39 (by decide) ?_
  refine lv_iadd hx hb dX5_drive_40 ?_
  refine fp_X5_24 hx hb hts hown hK hM hu_s dX5_drive_41 (fun H locs hM => ?_)
  replace hM := hM.eq (hu_u _ _ _ _ _ _)
  refine lv_aload_n hx hb dX5_drive_44 rfl (lv_at hl 1 rfl) ?_
  refine lv_iconst (v := (0 : Int32)) hx hb dX5_drive_45 (by decide) ?_
  refine fp_X5_33 hx hb hts hown hK hM hu_s dX5_drive_46 (fun H locs hM => ?_)
  replace hM := hM.eq (hu_u _ _ _ _ _ _)
  exact g_vret hx hb hr hlocks hM (Nat.zero_le _) (Nat.zero_le _) rfl dX5_drive_49
def t_X5_takeFrom_0 (a2 a3 b3 b4 : Int32) : Int32 := if a2 ≤ 0 then (if (mn b3 ((800 : Int32) - a2)) ≤ 0 then a2 else (a2 + (mn b3 ((800 : Int32) - a2)))) else (if a3 = b4 then (if (mn b3 ((800 : Int32) - a2)) ≤ 0 then a2 else (a2 + (mn b3 ((800 : Int32) - a2)))) else a2)
def t_X5_takeFrom_1 (a2 a3 b3 b4 : Int32) : Int32 := if a2 ≤ 0 then (if (mn b3 ((800 : Int32) - a2)) ≤ 0 then a3 else b4) else (if a3 = b4 then (if (mn b3 ((800 : Int32) - a2)) ≤ 0 then a3 else b4) else a3)
def t_X5_takeFrom_2 (a2 a3 a4 b3 b4 b5 : Int32) : Int32 := if a2 ≤ 0 then (if (mn b3 ((800 : Int32) - a2)) ≤ 0 then a4 else b5) else (if a3 = b4 then (if (mn b3 ((800 : Int32) - a2)) ≤ 0 then a4 else (mx a4 b5)) else a4)
def t_X5_takeFrom_3 (a2 a3 b3 b4 : Int32) : Int32 := if a2 ≤ 0 then (if (mn b3 ((800 : Int32) - a2)) ≤ 0 then b3 else (b3 - (mn b3 ((800 : Int32) - a2)))) else (if a3 = b4 then (if (mn b3 ((800 : Int32) - a2)) ≤ 0 then b3 else (b3 - (mn b3 ((800 : Int32) - a2)))) else b3)
set_option maxHeartbeats 4000000 in
set_option maxRecDepth 100000 in
theorem c_X5_takeFrom (l : Launch) (G : GG) (M : HM) (h0 r0 : Nat) (h1 r1 : Nat) (a0 a1 a2 a3 a4 a5 a6 a7 a8 a9 : Int32) (b0 b1 b2 b3 b4 b5 b6 b7 b8 b9 b10 b11 : Int32) (ha_h0 : M h0 = some (r0, (.inr (6, [.int a0, .int a1, .int a2, .int a3, .int a4, .int a5, .int a6, .int a7, .int a8, .int a9])))) (ha_h1 : M h1 = some (r1, (.inr (1, [.int b0, .int b1, .int b2, .int b3, .int b4, .int b5, .int b6, .int b7, .int b8, .int b9, .int b10, .int b11])))) (ne_h0_h1 : h0 ≠ h1) : Mv l yX5_takeFrom (.code yX5_takeFrom cX5_takeFrom 3 none :: AL) 1 21 0 0 [.ref h0, .ref h1] G M (fun M' => M' = (hu (hu M h0 r0 (.inr (6, [.int a0, .int a1, .int (t_X5_takeFrom_0 a2 a3 b3 b4), .int (t_X5_takeFrom_1 a2 a3 b3 b4), .int (t_X5_takeFrom_2 a2 a3 a4 b3 b4 b5), .int a5, .int a6, .int a7, .int a8, .int a9]))) h1 r1 (.inr (1, [.int b0, .int b1, .int b2, .int (t_X5_takeFrom_3 a2 a3 b3 b4), .int b4, .int b5, .int b6, .int b7, .int b8, .int b9, .int b10, .int b11])))) := by
  refine Mv.go (by decide) (Nat.le_of_ble_eq_true rfl) ?_
  intro p e s m below meth c ls hx hb hr hml hown hlocks hname hts hK hM hl
  have hown : s.vm.findClass RX5 = some m.cls := hown
  have hl : lv_has ls 3 [(0, .ref h0), (1, .ref h1)] := hl
  have ne_h1_h0 : h1 ≠ h0 := Ne.symm ne_h0_h1
  refine lv_aload_n hx hb dX5_takeFrom_0 rfl (lv_at hl 0 rfl) ?_
  refine fg_X5_27 hx hb hts hown hK hM ha_h0 dX5_takeFrom_1 ?_
  refine lv_if_le (tgt := 19) hx hb dX5_takeFrom_4 (by decide) (fun c1 => ?_) (fun c1 => ?_)
  · refine lv_aload_n hx hb dX5_takeFrom_19 rfl (lv_at hl 1 rfl) ?_
    refine fg_X5_57 hx hb hts hown hK hM ha_h1 dX5_takeFrom_20 ?_
    refine lv_sipush (v := (800 : Int32)) hx hb dX5_takeFrom_23 (by decide) ?_
    refine lv_aload_n hx hb dX5_takeFrom_26 rfl (lv_at hl 0 rfl) ?_
    refine fg_X5_27 hx hb hts hown hK hM ha_h0 dX5_takeFrom_27 ?_
    refine lv_isub hx hb dX5_takeFrom_30 ?_
    refine va_mmin hx hb (hml.trans hl.1.symm) hown (hts _ wm_X5_60) (hts _ wt_mmin) (hts _ wn_java_lang_Math) (hts _ wc_mmin) (Nat.le_of_ble_eq_true rfl) (Nat.le_of_ble_eq_true rfl) (Nat.zero_le _) (Nat.zero_le _) dX5_takeFrom_31 ?_
    refine lv_istore_n (lv' := [(2, .int (mn b3 ((800 : Int32) - a2))), (0, .ref h0), (1, .ref h1)]) hx hb dX5_takeFrom_34 rfl hl (by decide) rfl (fun ls hl => ?_)
    refine lv_iload_n hx hb dX5_takeFrom_35 rfl (lv_at hl 0 rfl) ?_
    refine lv_if_le (tgt := 96) hx hb dX5_takeFrom_36 (by decide) (fun c2 => ?_) (fun c2 => ?_)
    · have e_t_X5_takeFrom_0 : (t_X5_takeFrom_0 a2 a3 b3 b4) = a2 := by unfold t_X5_takeFrom_0; rw [if_pos c1, if_pos c2]
      have e_t_X5_takeFrom_1 : (t_X5_takeFrom_1 a2 a3 b3 b4) = a3 := by unfold t_X5_takeFrom_1; rw [if_pos c1, if_pos c2]
      have e_t_X5_takeFrom_2 : (t_X5_takeFrom_2 a2 a3 a4 b3 b4 b5) = a4 := by unfold t_X5_takeFrom_2; rw [if_pos c1, if_pos c2]
      have e_t_X5_takeFrom_3 : (t_X5_takeFrom_3 a2 a3 b3 b4) = b3 := by unfold t_X5_takeFrom_3; rw [if_pos c1, if_pos c2]
      replace hM := hM.eq (hu_i ha_h0).symm
      replace hM := hM.eq (hu_i (hu_n ne_h1_h0 ha_h1)).symm
      exact g_vret hx hb hr hlocks hM (Nat.zero_le _) (Nat.zero_le _) (by rw [e_t_X5_takeFrom_0, e_t_X5_takeFrom_1, e_t_X5_takeFrom_2, e_t_X5_takeFrom_3]) dX5_takeFrom_96
    · refine lv_aload_n hx hb dX5_takeFrom_39 rfl (lv_at hl 1 rfl) ?_
      refine lv_aload_n hx hb dX5_takeFrom_40 rfl (lv_at hl 1 rfl) ?_
      refine fg_X5_27 hx hb hts hown hK hM ha_h0 dX5_takeFrom_41 ?_
      refine lv_if_le (tgt := 61) hx hb dX5_takeFrom_44 (by decide) (fun c3 => ?_) (fun c3 => ?_)
      rotate_left
      · exact absurd c1 c3
      refine lv_aload_n hx hb dX5_takeFrom_61 rfl (lv_at hl 2 rfl) ?_
      refine fg_X5_64 hx hb hts hown hK hM ha_h1 dX5_takeFrom_62 ?_
      refine fp_X5_30 hx hb hts hown hK hM ha_h0 dX5_takeFrom_65 (fun H locs hM => ?_)
      refine lv_aload_n hx hb dX5_takeFrom_68 rfl (lv_at hl 1 rfl) ?_
      refine lv_aload_n hx hb dX5_takeFrom_69 rfl (lv_at hl 2 rfl) ?_
      refine fg_X5_52 hx hb hts hown hK hM (hu_n ne_h1_h0 ha_h1) dX5_takeFrom_70 ?_
      refine fp_X5_9 hx hb hts hown hK hM hu_s dX5_takeFrom_73 (fun H locs hM => ?_)
      replace hM := hM.eq (hu_u _ _ _ _ _ _)
      refine lv_aload_n hx hb dX5_takeFrom_76 rfl (lv_at hl 1 rfl) ?_
      refine lv_dup hx hb dX5_takeFrom_77 rfl ?_
      refine fg_X5_27 hx hb hts hown hK hM hu_s dX5_takeFrom_78 ?_
      refine lv_iload_n hx hb dX5_takeFrom_81 rfl (lv_at hl 0 rfl) ?_
      refine lv_iadd hx hb dX5_takeFrom_82 ?_
      refine fp_X5_27 hx hb hts hown hK hM hu_s dX5_takeFrom_83 (fun H locs hM => ?_)
      replace hM := hM.eq (hu_u _ _ _ _ _ _)
      refine lv_aload_n hx hb dX5_takeFrom_86 rfl (lv_at hl 2 rfl) ?_
      refine lv_dup hx hb dX5_takeFrom_87 rfl ?_
      refine fg_X5_57 hx hb hts hown hK hM (hu_n ne_h1_h0 ha_h1) dX5_takeFrom_88 ?_
      refine lv_iload_n hx hb dX5_takeFrom_91 rfl (lv_at hl 0 rfl) ?_
      refine lv_isub hx hb dX5_takeFrom_92 ?_
      refine fp_X5_57 hx hb hts hown hK hM (hu_n ne_h1_h0 ha_h1) dX5_takeFrom_93 (fun H locs hM => ?_)
      have e_t_X5_takeFrom_0 : (t_X5_takeFrom_0 a2 a3 b3 b4) = (a2 + (mn b3 ((800 : Int32) - a2))) := by unfold t_X5_takeFrom_0; rw [if_pos c1, if_neg c2]
      have e_t_X5_takeFrom_1 : (t_X5_takeFrom_1 a2 a3 b3 b4) = b4 := by unfold t_X5_takeFrom_1; rw [if_pos c1, if_neg c2]
      have e_t_X5_takeFrom_2 : (t_X5_takeFrom_2 a2 a3 a4 b3 b4 b5) = b5 := by unfold t_X5_takeFrom_2; rw [if_pos c1, if_neg c2]
      have e_t_X5_takeFrom_3 : (t_X5_takeFrom_3 a2 a3 b3 b4) = (b3 - (mn b3 ((800 : Int32) - a2))) := by unfold t_X5_takeFrom_3; rw [if_pos c1, if_neg c2]
      exact g_vret hx hb hr hlocks hM (Nat.zero_le _) (Nat.zero_le _) (by rw [e_t_X5_takeFrom_0, e_t_X5_takeFrom_1, e_t_X5_takeFrom_2, e_t_X5_takeFrom_3]) dX5_takeFrom_96
  · refine lv_aload_n hx hb dX5_takeFrom_7 rfl (lv_at hl 0 rfl) ?_
    refine fg_X5_9 hx hb hts hown hK hM ha_h0 dX5_takeFrom_8 ?_
    refine lv_aload_n hx hb dX5_takeFrom_11 rfl (lv_at hl 1 rfl) ?_
    refine fg_X5_52 hx hb hts hown hK hM ha_h1 dX5_takeFrom_12 ?_
    refine lv_icmp_eq (tgt := 19) hx hb dX5_takeFrom_15 (by decide) (fun c4 => ?_) (fun c4 => ?_)
    · refine lv_aload_n hx hb dX5_takeFrom_19 rfl (lv_at hl 1 rfl) ?_
      refine fg_X5_57 hx hb hts hown hK hM ha_h1 dX5_takeFrom_20 ?_
      refine lv_sipush (v := (800 : Int32)) hx hb dX5_takeFrom_23 (by decide) ?_
      refine lv_aload_n hx hb dX5_takeFrom_26 rfl (lv_at hl 0 rfl) ?_
      refine fg_X5_27 hx hb hts hown hK hM ha_h0 dX5_takeFrom_27 ?_
      refine lv_isub hx hb dX5_takeFrom_30 ?_
      refine va_mmin hx hb (hml.trans hl.1.symm) hown (hts _ wm_X5_60) (hts _ wt_mmin) (hts _ wn_java_lang_Math) (hts _ wc_mmin) (Nat.le_of_ble_eq_true rfl) (Nat.le_of_ble_eq_true rfl) (Nat.zero_le _) (Nat.zero_le _) dX5_takeFrom_31 ?_
      refine lv_istore_n (lv' := [(2, .int (mn b3 ((800 : Int32) - a2))), (0, .ref h0), (1, .ref h1)]) hx hb dX5_takeFrom_34 rfl hl (by decide) rfl (fun ls hl => ?_)
      refine lv_iload_n hx hb dX5_takeFrom_35 rfl (lv_at hl 0 rfl) ?_
      refine lv_if_le (tgt := 96) hx hb dX5_takeFrom_36 (by decide) (fun c5 => ?_) (fun c5 => ?_)
      · have e_t_X5_takeFrom_0 : (t_X5_takeFrom_0 a2 a3 b3 b4) = a2 := by unfold t_X5_takeFrom_0; rw [if_neg c1, if_pos c4, if_pos c5]
        have e_t_X5_takeFrom_1 : (t_X5_takeFrom_1 a2 a3 b3 b4) = a3 := by unfold t_X5_takeFrom_1; rw [if_neg c1, if_pos c4, if_pos c5]
        have e_t_X5_takeFrom_2 : (t_X5_takeFrom_2 a2 a3 a4 b3 b4 b5) = a4 := by unfold t_X5_takeFrom_2; rw [if_neg c1, if_pos c4, if_pos c5]
        have e_t_X5_takeFrom_3 : (t_X5_takeFrom_3 a2 a3 b3 b4) = b3 := by unfold t_X5_takeFrom_3; rw [if_neg c1, if_pos c4, if_pos c5]
        replace hM := hM.eq (hu_i ha_h0).symm
        replace hM := hM.eq (hu_i (hu_n ne_h1_h0 ha_h1)).symm
        exact g_vret hx hb hr hlocks hM (Nat.zero_le _) (Nat.zero_le _) (by rw [e_t_X5_takeFrom_0, e_t_X5_takeFrom_1, e_t_X5_takeFrom_2, e_t_X5_takeFrom_3]) dX5_takeFrom_96
      · refine lv_aload_n hx hb dX5_takeFrom_39 rfl (lv_at hl 1 rfl) ?_
        refine lv_aload_n hx hb dX5_takeFrom_40 rfl (lv_at hl 1 rfl) ?_
        refine fg_X5_27 hx hb hts hown hK hM ha_h0 dX5_takeFrom_41 ?_
        refine lv_if_le (tgt := 61) hx hb dX5_takeFrom_44 (by decide) (fun c6 => ?_) (fun c6 => ?_)
        · exact absurd c6 c1
        refine lv_aload_n hx hb dX5_takeFrom_47 rfl (lv_at hl 1 rfl) ?_
        refine fg_X5_30 hx hb hts hown hK hM ha_h0 dX5_takeFrom_48 ?_
        refine lv_aload_n hx hb dX5_takeFrom_51 rfl (lv_at hl 2 rfl) ?_
        refine fg_X5_64 hx hb hts hown hK hM ha_h1 dX5_takeFrom_52 ?_
        refine va_mmax hx hb (hml.trans hl.1.symm) hown (hts _ wm_X5_67) (hts _ wt_mmax) (hts _ wn_java_lang_Math) (hts _ wc_mmax) (Nat.le_of_ble_eq_true rfl) (Nat.le_of_ble_eq_true rfl) (Nat.zero_le _) (Nat.zero_le _) dX5_takeFrom_55 ?_
        refine lv_goto (tgt := 65) hx hb dX5_takeFrom_58 (by decide) ?_
        refine fp_X5_30 hx hb hts hown hK hM ha_h0 dX5_takeFrom_65 (fun H locs hM => ?_)
        refine lv_aload_n hx hb dX5_takeFrom_68 rfl (lv_at hl 1 rfl) ?_
        refine lv_aload_n hx hb dX5_takeFrom_69 rfl (lv_at hl 2 rfl) ?_
        refine fg_X5_52 hx hb hts hown hK hM (hu_n ne_h1_h0 ha_h1) dX5_takeFrom_70 ?_
        refine fp_X5_9 hx hb hts hown hK hM hu_s dX5_takeFrom_73 (fun H locs hM => ?_)
        replace hM := hM.eq (hu_u _ _ _ _ _ _)
        refine lv_aload_n hx hb dX5_takeFrom_76 rfl (lv_at hl 1 rfl) ?_
        refine lv_dup hx hb dX5_takeFrom_77 rfl ?_
        refine fg_X5_27 hx hb hts hown hK hM hu_s dX5_takeFrom_78 ?_
        refine lv_iload_n hx hb dX5_takeFrom_81 rfl (lv_at hl 0 rfl) ?_
        refine lv_iadd hx hb dX5_takeFrom_82 ?_
        refine fp_X5_27 hx hb hts hown hK hM hu_s dX5_takeFrom_83 (fun H locs hM => ?_)
        replace hM := hM.eq (hu_u _ _ _ _ _ _)
        refine lv_aload_n hx hb dX5_takeFrom_86 rfl (lv_at hl 2 rfl) ?_
        refine lv_dup hx hb dX5_takeFrom_87 rfl ?_
        refine fg_X5_57 hx hb hts hown hK hM (hu_n ne_h1_h0 ha_h1) dX5_takeFrom_88 ?_
        refine lv_iload_n hx hb dX5_takeFrom_91 rfl (lv_at hl 0 rfl) ?_
        refine lv_isub hx hb dX5_takeFrom_92 ?_
        refine fp_X5_57 hx hb hts hown hK hM (hu_n ne_h1_h0 ha_h1) dX5_takeFrom_93 (fun H locs hM => ?_)
        have e_t_X5_takeFrom_0 : (t_X5_takeFrom_0 a2 a3 b3 b4) = (a2 + (mn b3 ((800 : Int32) - a2))) := by unfold t_X5_takeFrom_0; rw [if_neg c1, if_pos c4, if_neg c5]
        have e_t_X5_takeFrom_1 : (t_X5_takeFrom_1 a2 a3 b3 b4) = b4 := by unfold t_X5_takeFrom_1; rw [if_neg c1, if_pos c4, if_neg c5]
        have e_t_X5_takeFrom_2 : (t_X5_takeFrom_2 a2 a3 a4 b3 b4 b5) = (mx a4 b5) := by unfold t_X5_takeFrom_2; rw [if_neg c1, if_pos c4, if_neg c5]
        have e_t_X5_takeFrom_3 : (t_X5_takeFrom_3 a2 a3 b3 b4) = (b3 - (mn b3 ((800 : Int32) - a2))) := by unfold t_X5_takeFrom_3; rw [if_neg c1, if_pos c4, if_neg c5]
        exact g_vret hx hb hr hlocks hM (Nat.zero_le _) (Nat.zero_le _) (by rw [e_t_X5_takeFrom_0, e_t_X5_takeFrom_1, e_t_X5_takeFrom_2, e_t_X5_takeFrom_3]) dX5_takeFrom_96
    · have e_t_X5_takeFrom_0 : (t_X5_takeFrom_0 a2 a3 b3 b4) = a2 := by unfold t_X5_takeFrom_0; rw [if_neg c1, if_neg c4]
      have e_t_X5_takeFrom_1 : (t_X5_takeFrom_1 a2 a3 b3 b4) = a3 := by unfold t_X5_takeFrom_1; rw [if_neg c1, if_neg c4]
      have e_t_X5_takeFrom_2 : (t_X5_takeFrom_2 a2 a3 a4 b3 b4 b5) = a4 := by unfold t_X5_takeFrom_2; rw [if_neg c1, if_neg c4]
      have e_t_X5_takeFrom_3 : (t_X5_takeFrom_3 a2 a3 b3 b4) = b3 := by unfold t_X5_takeFrom_3; rw [if_neg c1, if_neg c4]
      replace hM := hM.eq (hu_i ha_h0).symm
      replace hM := hM.eq (hu_i (hu_n ne_h1_h0 ha_h1)).symm
      exact g_vret hx hb hr hlocks hM (Nat.zero_le _) (Nat.zero_le _) (by rw [e_t_X5_takeFrom_0, e_t_X5_takeFrom_1, e_t_X5_takeFrom_2, e_t_X5_takeFrom_3]) dX5_takeFrom_18
set_option maxHeartbeats 4000000 in
set_option maxRecDepth 100000 in
theorem c_X5_init (l : Launch) (G : GG) (M : HM) (h0 r0 : Nat) (a0 a1 a2 a3 a4 a5 a6 a7 a8 a9 : Int32) (p0 : Int32) (ha_h0 : M h0 = some (r0, (.inr (6, [.int a0, .int a1, .int a2, .int a3, .int a4, .int a5, .int a6, .int a7, .int a8, .int a9])))) : Mv l yX5_init (.code yX5_init cX5_init 2 none :: AL) 1 20 0 0 [.ref h0, .int p0] G M (fun M' => M' = (hu M h0 r0 (.inr (6, [.int p0, .int a1, .int a2, .int (-1 : Int32), .int a4, .int a5, .int a6, .int (-1 : Int32), .int (-1 : Int32), .int a9])))) := by
  refine Mv.go (by decide) (Nat.le_of_ble_eq_true rfl) ?_
  intro p e s m below meth c ls hx hb hr hml hown hlocks hname hts hK hM hl
  have hown : s.vm.findClass RX5 = some m.cls := hown
  have hl : lv_has ls 2 [(0, .ref h0), (1, .int p0)] := hl
  refine lv_aload_n hx hb dX5_init_0 rfl (lv_at hl 0 rfl) ?_
  refine W.objInit hx hb hown (hts _ wm_X5_3) (hts _ wi_objinit) (hts _ wc_objinit) rfl (hl.1.trans hml.symm) rfl dX5_init_1 (Nat.le_of_ble_eq_true rfl) (Nat.le_of_ble_eq_true rfl) ?_
  refine W.eq (g2 := F0 m 4 ls []) rfl ?_
  refine lv_aload_n hx hb dX5_init_4 rfl (lv_at hl 0 rfl) ?_
  refine lv_iconst (v := (-1 : Int32)) hx hb dX5_init_5 (by decide) ?_
  refine fp_X5_9 hx hb hts hown hK hM ha_h0 dX5_init_6 (fun H locs hM => ?_)
  refine lv_aload_n hx hb dX5_init_9 rfl (lv_at hl 0 rfl) ?_
  refine lv_iconst (v := (-1 : Int32)) hx hb dX5_init_10 (by decide) ?_
  refine fp_X5_15 hx hb hts hown hK hM hu_s dX5_init_11 (fun H locs hM => ?_)
  replace hM := hM.eq (hu_u _ _ _ _ _ _)
  refine lv_aload_n hx hb dX5_init_14 rfl (lv_at hl 0 rfl) ?_
  refine lv_iconst (v := (-1 : Int32)) hx hb dX5_init_15 (by decide) ?_
  refine fp_X5_18 hx hb hts hown hK hM hu_s dX5_init_16 (fun H locs hM => ?_)
  replace hM := hM.eq (hu_u _ _ _ _ _ _)
  refine lv_aload_n hx hb dX5_init_19 rfl (lv_at hl 0 rfl) ?_
  refine lv_iload_n hx hb dX5_init_20 rfl (lv_at hl 1 rfl) ?_
  refine fp_X5_21 hx hb hts hown hK hM hu_s dX5_init_21 (fun H locs hM => ?_)
  replace hM := hM.eq (hu_u _ _ _ _ _ _)
  exact g_vret hx hb hr hlocks hM (Nat.zero_le _) (Nat.zero_le _) rfl dX5_init_24
set_option maxHeartbeats 4000000 in
set_option maxRecDepth 100000 in
theorem c_X5_copyFrom (l : Launch) (G : GG) (M : HM) (h0 r0 : Nat) (h1 r1 : Nat) (a0 a1 a2 a3 a4 a5 a6 a7 a8 a9 : Int32) (b0 b1 b2 b3 b4 b5 b6 b7 b8 b9 : Int32) (ha_h0 : M h0 = some (r0, (.inr (6, [.int a0, .int a1, .int a2, .int a3, .int a4, .int a5, .int a6, .int a7, .int a8, .int a9])))) (ha_h1 : M h1 = some (r1, (.inr (6, [.int b0, .int b1, .int b2, .int b3, .int b4, .int b5, .int b6, .int b7, .int b8, .int b9])))) (ne_h0_h1 : h0 ≠ h1) : Mv l yX5_copyFrom (.code yX5_copyFrom cX5_copyFrom 2 none :: AL) 0 0 0 0 [.ref h0, .ref h1] G M (fun M' => M' = (hu M h0 r0 (.inr (6, [.int b0, .int b1, .int b2, .int b3, .int b4, .int b5, .int b6, .int b7, .int b8, .int b9])))) := by
  refine Mv.go (by decide) (Nat.le_of_ble_eq_true rfl) ?_
  intro p e s m below meth c ls hx hb hr hml hown hlocks hname hts hK hM hl
  have hown : s.vm.findClass RX5 = some m.cls := hown
  have hl : lv_has ls 2 [(0, .ref h0), (1, .ref h1)] := hl
  have ne_h1_h0 : h1 ≠ h0 := Ne.symm ne_h0_h1
  refine lv_aload_n hx hb dX5_copyFrom_0 rfl (lv_at hl 0 rfl) ?_
  refine lv_aload_n hx hb dX5_copyFrom_1 rfl (lv_at hl 1 rfl) ?_
  refine fg_X5_21 hx hb hts hown hK hM ha_h1 dX5_copyFrom_2 ?_
  refine fp_X5_21 hx hb hts hown hK hM ha_h0 dX5_copyFrom_5 (fun H locs hM => ?_)
  refine lv_aload_n hx hb dX5_copyFrom_8 rfl (lv_at hl 0 rfl) ?_
  refine lv_aload_n hx hb dX5_copyFrom_9 rfl (lv_at hl 1 rfl) ?_
  refine fg_X5_24 hx hb hts hown hK hM (hu_n ne_h1_h0 ha_h1) dX5_copyFrom_10 ?_
  refine fp_X5_24 hx hb hts hown hK hM hu_s dX5_copyFrom_13 (fun H locs hM => ?_)
  replace hM := hM.eq (hu_u _ _ _ _ _ _)
  refine lv_aload_n hx hb dX5_copyFrom_16 rfl (lv_at hl 0 rfl) ?_
  refine lv_aload_n hx hb dX5_copyFrom_17 rfl (lv_at hl 1 rfl) ?_
  refine fg_X5_27 hx hb hts hown hK hM (hu_n ne_h1_h0 ha_h1) dX5_copyFrom_18 ?_
  refine fp_X5_27 hx hb hts hown hK hM hu_s dX5_copyFrom_21 (fun H locs hM => ?_)
  replace hM := hM.eq (hu_u _ _ _ _ _ _)
  refine lv_aload_n hx hb dX5_copyFrom_24 rfl (lv_at hl 0 rfl) ?_
  refine lv_aload_n hx hb dX5_copyFrom_25 rfl (lv_at hl 1 rfl) ?_
  refine fg_X5_9 hx hb hts hown hK hM (hu_n ne_h1_h0 ha_h1) dX5_copyFrom_26 ?_
  refine fp_X5_9 hx hb hts hown hK hM hu_s dX5_copyFrom_29 (fun H locs hM => ?_)
  replace hM := hM.eq (hu_u _ _ _ _ _ _)
  refine lv_aload_n hx hb dX5_copyFrom_32 rfl (lv_at hl 0 rfl) ?_
  refine lv_aload_n hx hb dX5_copyFrom_33 rfl (lv_at hl 1 rfl) ?_
  refine fg_X5_30 hx hb hts hown hK hM (hu_n ne_h1_h0 ha_h1) dX5_copyFrom_34 ?_
  refine fp_X5_30 hx hb hts hown hK hM hu_s dX5_copyFrom_37 (fun H locs hM => ?_)
  replace hM := hM.eq (hu_u _ _ _ _ _ _)
  refine lv_aload_n hx hb dX5_copyFrom_40 rfl (lv_at hl 0 rfl) ?_
  refine lv_aload_n hx hb dX5_copyFrom_41 rfl (lv_at hl 1 rfl) ?_
  refine fg_X5_33 hx hb hts hown hK hM (hu_n ne_h1_h0 ha_h1) dX5_copyFrom_42 ?_
  refine fp_X5_33 hx hb hts hown hK hM hu_s dX5_copyFrom_45 (fun H locs hM => ?_)
  replace hM := hM.eq (hu_u _ _ _ _ _ _)
  refine lv_aload_n hx hb dX5_copyFrom_48 rfl (lv_at hl 0 rfl) ?_
  refine lv_aload_n hx hb dX5_copyFrom_49 rfl (lv_at hl 1 rfl) ?_
  refine fg_X5_36 hx hb hts hown hK hM (hu_n ne_h1_h0 ha_h1) dX5_copyFrom_50 ?_
  refine fp_X5_36 hx hb hts hown hK hM hu_s dX5_copyFrom_53 (fun H locs hM => ?_)
  replace hM := hM.eq (hu_u _ _ _ _ _ _)
  refine lv_aload_n hx hb dX5_copyFrom_56 rfl (lv_at hl 0 rfl) ?_
  refine lv_aload_n hx hb dX5_copyFrom_57 rfl (lv_at hl 1 rfl) ?_
  refine fg_X5_15 hx hb hts hown hK hM (hu_n ne_h1_h0 ha_h1) dX5_copyFrom_58 ?_
  refine fp_X5_15 hx hb hts hown hK hM hu_s dX5_copyFrom_61 (fun H locs hM => ?_)
  replace hM := hM.eq (hu_u _ _ _ _ _ _)
  refine lv_aload_n hx hb dX5_copyFrom_64 rfl (lv_at hl 0 rfl) ?_
  refine lv_aload_n hx hb dX5_copyFrom_65 rfl (lv_at hl 1 rfl) ?_
  refine fg_X5_18 hx hb hts hown hK hM (hu_n ne_h1_h0 ha_h1) dX5_copyFrom_66 ?_
  refine fp_X5_18 hx hb hts hown hK hM hu_s dX5_copyFrom_69 (fun H locs hM => ?_)
  replace hM := hM.eq (hu_u _ _ _ _ _ _)
  refine lv_aload_n hx hb dX5_copyFrom_72 rfl (lv_at hl 0 rfl) ?_
  refine lv_aload_n hx hb dX5_copyFrom_73 rfl (lv_at hl 1 rfl) ?_
  refine fg_X5_39 hx hb hts hown hK hM (hu_n ne_h1_h0 ha_h1) dX5_copyFrom_74 ?_
  refine fp_X5_39 hx hb hts hown hK hM hu_s dX5_copyFrom_77 (fun H locs hM => ?_)
  replace hM := hM.eq (hu_u _ _ _ _ _ _)
  exact g_vret hx hb hr hlocks hM (Nat.zero_le _) (Nat.zero_le _) rfl dX5_copyFrom_80
set_option maxHeartbeats 4000000 in
set_option maxRecDepth 100000 in
theorem c_X4_init (l : Launch) (G : GG) (M : HM) (h0 r0 : Nat) (h1 r1 : Nat) (a0 a1 a2 a3 a4 a5 a6 : Int32) (b0 b1 b2 b3 b4 b5 b6 b7 b8 b9 : Int32) (p0 : Int32) (p1 : Int32) (p2 : Int32) (ha_h0 : M h0 = some (r0, (.inr (5, [.int a0, .int a1, .int a2, .int a3, .int a4, .int a5, .int a6])))) (ha_h1 : M h1 = some (r1, (.inr (6, [.int b0, .int b1, .int b2, .int b3, .int b4, .int b5, .int b6, .int b7, .int b8, .int b9])))) (ne_h0_h1 : h0 ≠ h1) : Mv l yX4_init (.code yX4_init cX4_init 5 none :: AL) 1 20 0 0 [.ref h0, .ref h1, .int p0, .int p1, .int p2] G M (fun M' => M' = (hu M h0 r0 (.inr (5, [.int b3, .int b2, .int b4, .int p0, .int b8, .int p1, .int (((b2 * p2) * ((100 : Int32) - p0)) / (10000 : Int32))])))) := by
  refine Mv.go (by decide) (Nat.le_of_ble_eq_true rfl) ?_
  intro p e s m below meth c ls hx hb hr hml hown hlocks hname hts hK hM hl
  have hown : s.vm.findClass RX4 = some m.cls := hown
  have hl : lv_has ls 5 [(0, .ref h0), (1, .ref h1), (2, .int p0), (3, .int p1), (4, .int p2)] := hl
  have ne_h1_h0 : h1 ≠ h0 := Ne.symm ne_h0_h1
  refine lv_aload_n hx hb dX4_init_0 rfl (lv_at hl 0 rfl) ?_
  refine W.objInit hx hb hown (hts _ wm_X4_1) (hts _ wi_objinit) (hts _ wc_objinit) rfl (hl.1.trans hml.symm) rfl dX4_init_1 (Nat.le_of_ble_eq_true rfl) (Nat.le_of_ble_eq_true rfl) ?_
  refine W.eq (g2 := F0 m 4 ls []) rfl ?_
  refine lv_aload_n hx hb dX4_init_4 rfl (lv_at hl 0 rfl) ?_
  refine lv_aload_n hx hb dX4_init_5 rfl (lv_at hl 1 rfl) ?_
  refine fg_X4_7 hx hb hts hown hK hM ha_h1 dX4_init_6 ?_
  refine fp_X4_13 hx hb hts hown hK hM hname ha_h0 dX4_init_9 (fun H locs hM => ?_)
  refine lv_aload_n hx hb dX4_init_12 rfl (lv_at hl 0 rfl) ?_
  refine lv_aload_n hx hb dX4_init_13 rfl (lv_at hl 1 rfl) ?_
  refine fg_X4_18 hx hb hts hown hK hM (hu_n ne_h1_h0 ha_h1) dX4_init_14 ?_
  refine fp_X4_21 hx hb hts hown hK hM hname hu_s dX4_init_17 (fun H locs hM => ?_)
  replace hM := hM.eq (hu_u _ _ _ _ _ _)
  refine lv_aload_n hx hb dX4_init_20 rfl (lv_at hl 0 rfl) ?_
  refine lv_aload_n hx hb dX4_init_21 rfl (lv_at hl 1 rfl) ?_
  refine fg_X4_24 hx hb hts hown hK hM (hu_n ne_h1_h0 ha_h1) dX4_init_22 ?_
  refine fp_X4_27 hx hb hts hown hK hM hname hu_s dX4_init_25 (fun H locs hM => ?_)
  replace hM := hM.eq (hu_u _ _ _ _ _ _)
  refine lv_aload_n hx hb dX4_init_28 rfl (lv_at hl 0 rfl) ?_
  refine lv_iload_n hx hb dX4_init_29 rfl (lv_at hl 2 rfl) ?_
  refine fp_X4_28 hx hb hts hown hK hM hname hu_s dX4_init_30 (fun H locs hM => ?_)
  replace hM := hM.eq (hu_u _ _ _ _ _ _)
  refine lv_aload_n hx hb dX4_init_33 rfl (lv_at hl 0 rfl) ?_
  refine lv_aload_n hx hb dX4_init_34 rfl (lv_at hl 1 rfl) ?_
  refine fg_X4_31 hx hb hts hown hK hM (hu_n ne_h1_h0 ha_h1) dX4_init_35 ?_
  refine fp_X4_34 hx hb hts hown hK hM hname hu_s dX4_init_38 (fun H locs hM => ?_)
  replace hM := hM.eq (hu_u _ _ _ _ _ _)
  refine lv_aload_n hx hb dX4_init_41 rfl (lv_at hl 0 rfl) ?_
  refine lv_iload_n hx hb dX4_init_42 rfl (lv_at hl 3 rfl) ?_
  refine fp_X4_37 hx hb hts hown hK hM hname hu_s dX4_init_43 (fun H locs hM => ?_)
  replace hM := hM.eq (hu_u _ _ _ _ _ _)
  refine lv_aload_n hx hb dX4_init_46 rfl (lv_at hl 0 rfl) ?_
  refine lv_aload_n hx hb dX4_init_47 rfl (lv_at hl 1 rfl) ?_
  refine fg_X4_18 hx hb hts hown hK hM (hu_n ne_h1_h0 ha_h1) dX4_init_48 ?_
  refine lv_iload hx hb dX4_init_51 (lv_at hl 4 rfl) ?_
  refine lv_imul hx hb dX4_init_53 ?_
  refine lv_bipush (v := (100 : Int32)) hx hb dX4_init_54 (by decide) ?_
  refine lv_iload_n hx hb dX4_init_56 rfl (lv_at hl 2 rfl) ?_
  refine lv_isub hx hb dX4_init_57 ?_
  refine lv_imul hx hb dX4_init_58 ?_
  refine lv_sipush (v := (10000 : Int32)) hx hb dX4_init_59 (by decide) ?_
  refine lv_idiv hx hb dX4_init_62 (by decide) ?_
  refine fp_X4_40 hx hb hts hown hK hM hname hu_s dX4_init_63 (fun H locs hM => ?_)
  replace hM := hM.eq (hu_u _ _ _ _ _ _)
  exact g_vret hx hb hr hlocks hM (Nat.zero_le _) (Nat.zero_le _) rfl dX4_init_66

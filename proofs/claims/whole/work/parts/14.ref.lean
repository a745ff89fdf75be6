def t_X8_in_0 (p0 p1 p2 : Int32) : Int32 := if p0 < p1 then (0 : Int32) else (if p2 < p0 then (0 : Int32) else (1 : Int32))
theorem t_X8_in_0_01 {p0 p1 p2 : Int32} : (t_X8_in_0 p0 p1 p2) = 0 ∨ (t_X8_in_0 p0 p1 p2) = 1 := by unfold t_X8_in_0; (repeat' split) <;> first | exact Or.inl rfl | exact Or.inr rfl | assumption
set_option maxHeartbeats 4000000 in
set_option maxRecDepth 100000 in
theorem c_X8_in (l : Launch) (G : GG) (M : HM)  (p0 : Int32) (p1 : Int32) (p2 : Int32)  : Mi l yX8_in (.code yX8_in cX8_in 3 (some .boolean) :: AL) 0 0 0 0 [.int p0, .int p1, .int p2] G M (fun r M' => r = (t_X8_in_0 p0 p1 p2) ∧ M' = M) := by
  refine Mi.go (by decide) (Nat.le_of_ble_eq_true rfl) ?_
  intro p e s m below meth c ls hx hb hr hml hown hlocks hname hts hK hM hl
  have hown : s.vm.findClass RX8 = some m.cls := hown
  have hl : lv_has ls 3 [(0, .int p0), (1, .int p1), (2, .int p2)] := hl
  refine lv_iload_n hx hb dX8_in_0 rfl (lv_at hl 0 rfl) ?_
  refine lv_iload_n hx hb dX8_in_1 rfl (lv_at hl 1 rfl) ?_
  refine lv_icmp_lt (tgt := 14) hx hb dX8_in_2 (by decide) (fun c1 => ?_) (fun c1 => ?_)
  · refine lv_iconst (v := (0 : Int32)) hx hb dX8_in_14 (by decide) ?_
    exact g_zret hx hb hr hlocks hM (Nat.zero_le _) (Nat.zero_le _) (nz01 (Or.inl rfl)) ⟨(show (0 : Int32) = (t_X8_in_0 p0 p1 p2) from Eq.symm (by unfold t_X8_in_0; rw [if_pos c1])), rfl⟩ dX8_in_15
  · refine lv_iload_n hx hb dX8_in_5 rfl (lv_at hl 0 rfl) ?_
    refine lv_iload_n hx hb dX8_in_6 rfl (lv_at hl 2 rfl) ?_
    refine lv_icmp_gt (tgt := 14) hx hb dX8_in_7 (by decide) (fun c2 => ?_) (fun c2 => ?_)
    · refine lv_iconst (v := (0 : Int32)) hx hb dX8_in_14 (by decide) ?_
      exact g_zret hx hb hr hlocks hM (Nat.zero_le _) (Nat.zero_le _) (nz01 (Or.inl rfl)) ⟨(show (0 : Int32) = (t_X8_in_0 p0 p1 p2) from Eq.symm (by unfold t_X8_in_0; rw [if_neg c1, if_pos c2])), rfl⟩ dX8_in_15
    · refine lv_iconst (v := (1 : Int32)) hx hb dX8_in_10 (by decide) ?_
      refine lv_goto (tgt := 15) hx hb dX8_in_11 (by decide) ?_
      exact g_zret hx hb hr hlocks hM (Nat.zero_le _) (Nat.zero_le _) (nz01 (Or.inr rfl)) ⟨(show (1 : Int32) = (t_X8_in_0 p0 p1 p2) from Eq.symm (by unfold t_X8_in_0; rw [if_neg c1, if_neg c2])), rfl⟩ dX8_in_15
def t_X8_isMile_0 (p0 : Int32) : Int32 := (t_X8_in_0 p0 (0 : Int32) (300 : Int32))
theorem t_X8_isMile_0_01 {p0 : Int32} : (t_X8_isMile_0 p0) = 0 ∨ (t_X8_isMile_0 p0) = 1 := by unfold t_X8_isMile_0; (repeat' split) <;> first | exact Or.inl rfl | exact Or.inr rfl | assumption | exact t_X8_in_0_01
set_option maxHeartbeats 4000000 in
set_option maxRecDepth 100000 in
theorem c_X8_isMile (l : Launch) (G : GG) (M : HM)  (p0 : Int32)  : Mi l yX8_isMile (.code yX8_isMile cX8_isMile 1 (some .boolean) :: AL) 1 22 0 0 [.int p0] G M (fun r M' => r = (t_X8_isMile_0 p0) ∧ M' = M) := by
  refine Mi.go (by decide) (Nat.le_of_ble_eq_true rfl) ?_
  intro p e s m below meth c ls hx hb hr hml hown hlocks hname hts hK hM hl
  have hown : s.vm.findClass RX8 = some m.cls := hown
  have hl : lv_has ls 1 [(0, .int p0)] := hl
  refine lv_iload_n hx hb dX8_isMile_0 rfl (lv_at hl 0 rfl) ?_
  refine lv_iconst (v := (0 : Int32)) hx hb dX8_isMile_1 (by decide) ?_
  refine lv_sipush (v := (300 : Int32)) hx hb dX8_isMile_2 (by decide) ?_
  refine g_callSi (n9 := 3) (As := [.int p0, .int (0 : Int32), .int (300 : Int32)]) (rest := []) hx hb hml hl.1 hown hts hK hM (c_X8_in l G _ p0 (0 : Int32) (300 : Int32) ) wm_X8_36 wt_X8_in wn_X8 wc_X8_in (by decide +kernel) ⟨Nat.le_of_ble_eq_true rfl, Nat.le_of_ble_eq_true rfl⟩ ⟨Nat.le_of_ble_eq_true rfl, Nat.le_of_ble_eq_true rfl⟩ rfl (Nat.le_of_ble_eq_true rfl) rfl dX8_isMile_5 (fun r_5 M1 H locs hq hM => ?_)
  have hq1 := hq.1.symm
  have hq2 := hq.2.symm
  subst hq1 hq2
  exact g_zret hx hb hr hlocks hM (Nat.zero_le _) (Nat.zero_le _) (nz01 t_X8_in_0_01) ⟨rfl, rfl⟩ dX8_isMile_8
def t_X8_isWeather_0 (p0 p1 p2 : Int32) : Int32 := if (t_X8_in_0 p0 (0 : Int32) (45 : Int32)) = 0 then (0 : Int32) else (if (t_X8_in_0 p1 (0 : Int32) (100 : Int32)) = 0 then (0 : Int32) else (if (t_X8_in_0 p2 (0 : Int32) (20 : Int32)) = 0 then (0 : Int32) else (1 : Int32)))
theorem t_X8_isWeather_0_01 {p0 p1 p2 : Int32} : (t_X8_isWeather_0 p0 p1 p2) = 0 ∨ (t_X8_isWeather_0 p0 p1 p2) = 1 := by unfold t_X8_isWeather_0; (repeat' split) <;> first | exact Or.inl rfl | exact Or.inr rfl | assumption | exact t_X8_in_0_01
set_option maxHeartbeats 4000000 in
set_option maxRecDepth 100000 in
theorem c_X8_isWeather (l : Launch) (G : GG) (M : HM)  (p0 : Int32) (p1 : Int32) (p2 : Int32)  : Mi l yX8_isWeather (.code yX8_isWeather cX8_isWeather 3 (some .boolean) :: AL) 1 22 0 0 [.int p0, .int p1, .int p2] G M (fun r M' => r = (t_X8_isWeather_0 p0 p1 p2) ∧ M' = M) := by
  refine Mi.go (by decide) (Nat.le_of_ble_eq_true rfl) ?_
  intro p e s m below meth c ls hx hb hr hml hown hlocks hname hts hK hM hl
  have hown : s.vm.findClass RX8 = some m.cls := hown
  have hl : lv_has ls 3 [(0, .int p0), (1, .int p1), (2, .int p2)] := hl
  refine lv_iload_n hx hb dX8_isWeather_0 rfl (lv_at hl 0 rfl) ?_
  refine lv_iconst (v := (0 : Int32)) hx hb dX8_isWeather_1 (by decide) ?_
  refine lv_bipush (v := (45 : Int32)) hx hb dX8_isWeather_2 (by decide) ?_
  refine g_callSi (n9 := 3) (As := [.int p0, .int (0 : Int32), .int (45 : Int32)]) (rest := []) hx hb hml hl.1 hown hts hK hM (c_X8_in l G _ p0 (0 : Int32) (45 : Int32) ) wm_X8_36 wt_X8_in wn_X8 wc_X8_in (by decide +kernel) ⟨Nat.le_of_ble_eq_true rfl, Nat.le_of_ble_eq_true rfl⟩ ⟨Nat.le_of_ble_eq_true rfl, Nat.le_of_ble_eq_true rfl⟩ rfl (Nat.le_of_ble_eq_true rfl) rfl dX8_isWeather_4 (fun r_4 M1 H locs hq hM => ?_)
  have hq1 := hq.1.symm
  have hq2 := hq.2.symm
  subst hq1 hq2
  refine lv_if_eq (tgt := 34) hx hb dX8_isWeather_7 (by decide) (fun c1 => ?_) (fun c1 => ?_)
  · refine lv_iconst (v := (0 : Int32)) hx hb dX8_isWeather_34 (by decide) ?_
    exact g_zret hx hb hr hlocks hM (Nat.zero_le _) (Nat.zero_le _) (nz01 (Or.inl rfl)) ⟨(show (0 : Int32) = (t_X8_isWeather_0 p0 p1 p2) from Eq.symm (by unfold t_X8_isWeather_0; rw [if_pos c1])), rfl⟩ dX8_isWeather_35
  · refine lv_iload_n hx hb dX8_isWeather_10 rfl (lv_at hl 1 rfl) ?_
    refine lv_iconst (v := (0 : Int32)) hx hb dX8_isWeather_11 (by decide) ?_
    refine lv_bipush (v := (100 : Int32)) hx hb dX8_isWeather_12 (by decide) ?_
    refine g_callSi (n9 := 3) (As := [.int p1, .int (0 : Int32), .int (100 : Int32)]) (rest := []) hx hb hml hl.1 hown hts hK hM (c_X8_in l G _ p1 (0 : Int32) (100 : Int32) ) wm_X8_36 wt_X8_in wn_X8 wc_X8_in (by decide +kernel) ⟨Nat.le_of_ble_eq_true rfl, Nat.le_of_ble_eq_true rfl⟩ ⟨Nat.le_of_ble_eq_true rfl, Nat.le_of_ble_eq_true rfl⟩ rfl (Nat.le_of_ble_eq_true rfl) rfl dX8_isWeather_14 (fun r_14 M1 H locs hq hM => ?_)
    have hq1 := hq.1.symm
    have hq2 := hq.2.symm
    subst hq1 hq2
    refine lv_if_eq (tgt := 34) hx hb dX8_isWeather_17 (by decide) (fun c2 => ?_) (fun c2 => ?_)
    · refine lv_iconst (v := (0 : Int32)) hx hb dX8_isWeather_34 (by decide) ?_
      exact g_zret hx hb hr hlocks hM (Nat.zero_le _) (Nat.zero_le _) (nz01 (Or.inl rfl)) ⟨(show (0 : Int32) = (t_X8_isWeather_0 p0 p1 p2) from Eq.symm (by unfold t_X8_isWeather_0; rw [if_neg c1, if_pos c2])), rfl⟩ dX8_isWeather_35
    · refine lv_iload_n hx hb dX8_isWeather_20 rfl (lv_at hl 2 rfl) ?_
      refine lv_iconst (v := (0 : Int32)) hx hb dX8_isWeather_21 (by decide) ?_
      refine lv_bipush (v := (20 : Int32)) hx hb dX8_isWeather_22 (by decide) ?_
      refine g_callSi (n9 := 3) (As := [.int p2, .int (0 : Int32), .int (20 : Int32)]) (rest := []) hx hb hml hl.1 hown hts hK hM (c_X8_in l G _ p2 (0 : Int32) (20 : Int32) ) wm_X8_36 wt_X8_in wn_X8 wc_X8_in (by decide +kernel) ⟨Nat.le_of_ble_eq_true rfl, Nat.le_of_ble_eq_true rfl⟩ ⟨Nat.le_of_ble_eq_true rfl, Nat.le_of_ble_eq_true rfl⟩ rfl (Nat.le_of_ble_eq_true rfl) rfl dX8_isWeather_24 (fun r_24 M1 H locs hq hM => ?_)
      have hq1 := hq.1.symm
      have hq2 := hq.2.symm
      subst hq1 hq2
      refine lv_if_eq (tgt := 34) hx hb dX8_isWeather_27 (by decide) (fun c3 => ?_) (fun c3 => ?_)
      · refine lv_iconst (v := (0 : Int32)) hx hb dX8_isWeather_34 (by decide) ?_
        exact g_zret hx hb hr hlocks hM (Nat.zero_le _) (Nat.zero_le _) (nz01 (Or.inl rfl)) ⟨(show (0 : Int32) = (t_X8_isWeather_0 p0 p1 p2) from Eq.symm (by unfold t_X8_isWeather_0; rw [if_neg c1, if_neg c2, if_pos c3])), rfl⟩ dX8_isWeather_35
      · refine lv_iconst (v := (1 : Int32)) hx hb dX8_isWeather_30 (by decide) ?_
        refine lv_goto (tgt := 35) hx hb dX8_isWeather_31 (by decide) ?_
        exact g_zret hx hb hr hlocks hM (Nat.zero_le _) (Nat.zero_le _) (nz01 (Or.inr rfl)) ⟨(show (1 : Int32) = (t_X8_isWeather_0 p0 p1 p2) from Eq.symm (by unfold t_X8_isWeather_0; rw [if_neg c1, if_neg c2, if_neg c3])), rfl⟩ dX8_isWeather_35
def t_X7_brings_0 (a6 a9 : Int32) : Int32 := ((a9 * ((100 : Int32) - a6)) / (100 : Int32))
set_option maxHeartbeats 4000000 in
set_option maxRecDepth 100000 in
theorem c_X7_brings (l : Launch) (G : GG) (M : HM) (h0 r0 : Nat) (a0 a1 a2 a3 a4 a5 a6 a7 a8 a9 a10 : Int32) (ha_h0 : M h0 = some (r0, (.inl (G.2.1 0, 11, .inl (rw11 a0 a1 a2 a3 a4 a5 a6 a7 a8 a9 a10))))) : Mi l yX7_brings (.code yX7_brings cX7_brings 1 (some .int) :: AL) 0 0 0 0 [.ref h0] G M (fun r M' => r = (t_X7_brings_0 a6 a9) ∧ M' = M) := by
  refine Mi.go (by decide) (Nat.le_of_ble_eq_true rfl) ?_
  intro p e s m below meth c ls hx hb hr hml hown hlocks hname hts hK hM hl
  have hown : s.vm.findClass RX7 = some m.cls := hown
  have hl : lv_has ls 1 [(0, .ref h0)] := hl
  refine lv_aload_n hx hb dX7_brings_0 rfl (lv_at hl 0 rfl) ?_
  refine lv_bipush (v := (9 : Int32)) hx hb dX7_brings_1 (by decide) ?_
  refine ia11_9 hx hb hK hM ha_h0 dX7_brings_3 ?_
  refine lv_bipush (v := (100 : Int32)) hx hb dX7_brings_4 (by decide) ?_
  refine lv_aload_n hx hb dX7_brings_6 rfl (lv_at hl 0 rfl) ?_
  refine lv_bipush (v := (6 : Int32)) hx hb dX7_brings_7 (by decide) ?_
  refine ia11_6 hx hb hK hM ha_h0 dX7_brings_9 ?_
  refine lv_isub hx hb dX7_brings_10 ?_
  refine lv_imul hx hb dX7_brings_11 ?_
  refine lv_bipush (v := (100 : Int32)) hx hb dX7_brings_12 (by decide) ?_
  refine lv_idiv hx hb dX7_brings_14 (by decide) ?_
  exact g_iret hx hb hr hlocks hM (Nat.zero_le _) (Nat.zero_le _) ⟨rfl, rfl⟩ dX7_brings_15
def t_X7_towards_0 (a1 p0 p1 : Int32) : Int32 := if p0 ≤ a1 then (mx p0 (a1 - p1)) else (mn p0 (a1 + p1))
set_option maxHeartbeats 4000000 in
set_option maxRecDepth 100000 in
theorem c_X7_towards (l : Launch) (G : GG) (M : HM) (h0 r0 : Nat) (a0 a1 a2 a3 a4 a5 a6 a7 a8 a9 a10 : Int32) (p0 : Int32) (p1 : Int32) (ha_h0 : M h0 = some (r0, (.inl (G.2.1 0, 11, .inl (rw11 a0 a1 a2 a3 a4 a5 a6 a7 a8 a9 a10))))) : Mv l yX7_towards (.code yX7_towards cX7_towards 3 none :: AL) 1 21 0 0 [.ref h0, .int p0, .int p1] G M (fun M' => M' = (hu M h0 r0 (.inl (G.2.1 0, 11, .inl (rw11 a0 (t_X7_towards_0 a1 p0 p1) a2 a3 a4 a5 a6 a7 a8 a9 a10))))) := by
  refine Mv.go (by decide) (Nat.le_of_ble_eq_true rfl) ?_
  intro p e s m below meth c ls hx hb hr hml hown hlocks hname hts hK hM hl
  have hown : s.vm.findClass RX7 = some m.cls := hown
  have hl : lv_has ls 3 [(0, .ref h0), (1, .int p0), (2, .int p1)] := hl
  refine lv_aload_n hx hb dX7_towards_0 rfl (lv_at hl 0 rfl) ?_
  refine lv_iconst (v := (1 : Int32)) hx hb dX7_towards_1 (by decide) ?_
  refine lv_aload_n hx hb dX7_towards_2 rfl (lv_at hl 0 rfl) ?_
  refine lv_iconst (v := (1 : Int32)) hx hb dX7_towards_3 (by decide) ?_
  refine ia11_1 hx hb hK hM ha_h0 dX7_towards_4 ?_
  refine lv_iload_n hx hb dX7_towards_5 rfl (lv_at hl 1 rfl) ?_
  refine lv_icmp_ge (tgt := 21) hx hb dX7_towards_6 (by decide) (fun c1 => ?_) (fun c1 => ?_)
  · refine lv_iload_n hx hb dX7_towards_21 rfl (lv_at hl 1 rfl) ?_
    refine lv_aload_n hx hb dX7_towards_22 rfl (lv_at hl 0 rfl) ?_
    refine lv_iconst (v := (1 : Int32)) hx hb dX7_towards_23 (by decide) ?_
    refine ia11_1 hx hb hK hM ha_h0 dX7_towards_24 ?_
    refine lv_iload_n hx hb dX7_towards_25 rfl (lv_at hl 2 rfl) ?_
    refine lv_isub hx hb dX7_towards_26 ?_
    refine va_mmax hx hb (hml.trans hl.1.symm) hown (hts _ wm_X7_61) (hts _ wt_mmax) (hts _ wn_java_lang_Math) (hts _ wc_mmax) (Nat.le_of_ble_eq_true rfl) (Nat.le_of_ble_eq_true rfl) (Nat.zero_le _) (Nat.zero_le _) dX7_towards_27 ?_
    refine is11_1 hx hb hK hM ha_h0 dX7_towards_30 (fun H locs hM => ?_)
    have e_t_X7_towards_0 : (t_X7_towards_0 a1 p0 p1) = (mx p0 (a1 - p1)) := by unfold t_X7_towards_0; rw [if_pos c1]
    exact g_vret hx hb hr hlocks hM (Nat.zero_le _) (Nat.zero_le _) (by rw [e_t_X7_towards_0]) dX7_towards_31
  · refine lv_iload_n hx hb dX7_towards_9 rfl (lv_at hl 1 rfl) ?_
    refine lv_aload_n hx hb dX7_towards_10 rfl (lv_at hl 0 rfl) ?_
    refine lv_iconst (v := (1 : Int32)) hx hb dX7_towards_11 (by decide) ?_
    refine ia11_1 hx hb hK hM ha_h0 dX7_towards_12 ?_
    refine lv_iload_n hx hb dX7_towards_13 rfl (lv_at hl 2 rfl) ?_
    refine lv_iadd hx hb dX7_towards_14 ?_
    refine va_mmin hx hb (hml.trans hl.1.symm) hown (hts _ wm_X7_55) (hts _ wt_mmin) (hts _ wn_java_lang_Math) (hts _ wc_mmin) (Nat.le_of_ble_eq_true rfl) (Nat.le_of_ble_eq_true rfl) (Nat.zero_le _) (Nat.zero_le _) dX7_towards_15 ?_
    refine lv_goto (tgt := 30) hx hb dX7_towards_18 (by decide) ?_
    refine is11_1 hx hb hK hM ha_h0 dX7_towards_30 (fun H locs hM => ?_)
    have e_t_X7_towards_0 : (t_X7_towards_0 a1 p0 p1) = (mn p0 (a1 + p1)) := by unfold t_X7_towards_0; rw [if_neg c1]
    exact g_vret hx hb hr hlocks hM (Nat.zero_le _) (Nat.zero_le _) (by rw [e_t_X7_towards_0]) dX7_towards_31
def t_X7_towardsT_0 (a1 p0 p1 : Int32) : Int32 := if p0 ≤ a1 then (mx p0 (a1 - p1)) else (mn p0 (a1 + p1))
set_option maxHeartbeats 4000000 in
set_option maxRecDepth 100000 in
theorem c_X7_towardsT (l : Launch) (G : GG) (M : HM) (h0 r0 : Nat) (a0 a1 a2 a3 a4 a5 a6 a7 a8 a9 : Int32) (p0 : Int32) (p1 : Int32) (ha_h0 : M h0 = some (r0, (.inl (G.2.1 0, 10, .inl (rw10 a0 a1 a2 a3 a4 a5 a6 a7 a8 a9))))) : Mv l yX7_towards (.code yX7_towards cX7_towards 3 none :: AL) 1 21 0 0 [.ref h0, .int p0, .int p1] G M (fun M' => M' = (hu M h0 r0 (.inl (G.2.1 0, 10, .inl (rw10 a0 (t_X7_towardsT_0 a1 p0 p1) a2 a3 a4 a5 a6 a7 a8 a9))))) := by
  refine Mv.go (by decide) (Nat.le_of_ble_eq_true rfl) ?_
  intro p e s m below meth c ls hx hb hr hml hown hlocks hname hts hK hM hl
  have hown : s.vm.findClass RX7 = some m.cls := hown
  have hl : lv_has ls 3 [(0, .ref h0), (1, .int p0), (2, .int p1)] := hl
  refine lv_aload_n hx hb dX7_towards_0 rfl (lv_at hl 0 rfl) ?_
  refine lv_iconst (v := (1 : Int32)) hx hb dX7_towards_1 (by decide) ?_
  refine lv_aload_n hx hb dX7_towards_2 rfl (lv_at hl 0 rfl) ?_
  refine lv_iconst (v := (1 : Int32)) hx hb dX7_towards_3 (by decide) ?_
  refine ia10_1 hx hb hK hM ha_h0 dX7_towards_4 ?_
  refine lv_iload_n hx hb dX7_towards_5 rfl (lv_at hl 1 rfl) ?_
  refine lv_icmp_ge (tgt := 21) hx hb dX7_towards_6 (by decide) (fun c1 => ?_) (fun c1 => ?_)
  · refine lv_iload_n hx hb dX7_towards_21 rfl (lv_at hl 1 rfl) ?_
    refine lv_aload_n hx hb dX7_towards_22 rfl (lv_at hl 0 rfl) ?_
    refine lv_iconst (v := (1 : Int32)) hx hb dX7_towards_23 (by decide) ?_
    refine ia10_1 hx hb hK hM ha_h0 dX7_towards_24 ?_
    refine lv_iload_n hx hb dX7_towards_25 rfl (lv_at hl 2 rfl) ?_
    refine lv_isub hx hb dX7_towards_26 ?_
    refine va_mmax hx hb (hml.trans hl.1.symm) hown (hts _ wm_X7_61) (hts _ wt_mmax) (hts _ wn_java_lang_Math) (hts _ wc_mmax) (Nat.le_of_ble_eq_true rfl) (Nat.le_of_ble_eq_true rfl) (Nat.zero_le _) (Nat.zero_le _) dX7_towards_27 ?_
    refine is10_1 hx hb hK hM ha_h0 dX7_towards_30 (fun H locs hM => ?_)
    have e_t_X7_towardsT_0 : (t_X7_towardsT_0 a1 p0 p1) = (mx p0 (a1 - p1)) := by unfold t_X7_towardsT_0; rw [if_pos c1]
    exact g_vret hx hb hr hlocks hM (Nat.zero_le _) (Nat.zero_le _) (by rw [e_t_X7_towardsT_0]) dX7_towards_31
  · refine lv_iload_n hx hb dX7_towards_9 rfl (lv_at hl 1 rfl) ?_
    refine lv_aload_n hx hb dX7_towards_10 rfl (lv_at hl 0 rfl) ?_
    refine lv_iconst (v := (1 : Int32)) hx hb dX7_towards_11 (by decide) ?_
    refine ia10_1 hx hb hK hM ha_h0 dX7_towards_12 ?_
    refine lv_iload_n hx hb dX7_towards_13 rfl (lv_at hl 2 rfl) ?_
    refine lv_iadd hx hb dX7_towards_14 ?_
    refine va_mmin hx hb (hml.trans hl.1.symm) hown (hts _ wm_X7_55) (hts _ wt_mmin) (hts _ wn_java_lang_Math) (hts _ wc_mmin) (Nat.le_of_ble_eq_true rfl) (Nat.le_of_ble_eq_true rfl) (Nat.zero_le _) (Nat.zero_le _) dX7_towards_15 ?_
    refine lv_goto (tgt := 30) hx hb dX7_towards_18 (by decide) ?_
    refine is10_1 hx hb hK hM ha_h0 dX7_towards_30 (fun H locs hM => ?_)
    have e_t_X7_towardsT_0 : (t_X7_towardsT_0 a1 p0 p1) = (mn p0 (a1 + p1)) := by unfold t_X7_towardsT_0; rw [if_neg c1]
    exact g_vret hx hb hr hlocks hM (Nat.zero_le _) (Nat.zero_le _) (by rw [e_t_X7_towardsT_0]) dX7_towards_31
def t_X7_load_0 (a2 a3 b2 b3 : Int32) : Int32 := if (mn ((800 : Int32) - a2) b2) = 0 then a2 else (if a2 ≤ 0 then (a2 + (mn ((800 : Int32) - a2) b2)) else (if a3 = b3 then (a2 + (mn ((800 : Int32) - a2) b2)) else a2))
def t_X7_load_1 (a2 a3 b2 b3 : Int32) : Int32 := if (mn ((800 : Int32) - a2) b2) = 0 then a3 else (if a2 ≤ 0 then b3 else (if a3 = b3 then b3 else a3))
def t_X7_load_2 (a2 a3 a4 b2 b3 b4 : Int32) : Int32 := if (mn ((800 : Int32) - a2) b2) = 0 then a4 else (if a2 ≤ 0 then (if a2 = 0 then b4 else (mx a4 b4)) else (if a3 = b3 then (if a2 = 0 then b4 else (mx a4 b4)) else a4))
def t_X7_load_3 (a2 a3 b2 b3 : Int32) : Int32 := if (mn ((800 : Int32) - a2) b2) = 0 then b2 else (if a2 ≤ 0 then (b2 - (mn ((800 : Int32) - a2) b2)) else (if a3 = b3 then (b2 - (mn ((800 : Int32) - a2) b2)) else b2))
set_option maxHeartbeats 4000000 in
set_option maxRecDepth 100000 in
theorem c_X7_load (l : Launch) (G : GG) (M : HM) (h0 r0 : Nat) (h1 r1 : Nat) (a0 a1 a2 a3 a4 a5 a6 a7 a8 a9 : Int32) (b0 b1 b2 b3 b4 b5 b6 b7 b8 b9 b10 : Int32) (ha_h0 : M h0 = some (r0, (.inl (G.2.1 0, 10, .inl (rw10 a0 a1 a2 a3 a4 a5 a6 a7 a8 a9))))) (ha_h1 : M h1 = some (r1, (.inl (G.2.1 0, 11, .inl (rw11 b0 b1 b2 b3 b4 b5 b6 b7 b8 b9 b10))))) (ne_h0_h1 : h0 ≠ h1) : Mv l yX7_load (.code yX7_load cX7_load 3 none :: AL) 1 21 0 0 [.ref h0, .ref h1] G M (fun M' => M' = (hu (hu M h0 r0 (.inl (G.2.1 0, 10, .inl (rw10 a0 a1 (t_X7_load_0 a2 a3 b2 b3) (t_X7_load_1 a2 a3 b2 b3) (t_X7_load_2 a2 a3 a4 b2 b3 b4) a5 a6 a7 a8 a9)))) h1 r1 (.inl (G.2.1 0, 11, .inl (rw11 b0 b1 (t_X7_load_3 a2 a3 b2 b3) b3 b4 b5 b6 b7 b8 b9 b10))))) := by
  refine Mv.go (by decide) (Nat.le_of_ble_eq_true rfl) ?_
  intro p e s m below meth c ls hx hb hr hml hown hlocks hname hts hK hM hl
  have hown : s.vm.findClass RX7 = some m.cls := hown
  have hl : lv_has ls 3 [(0, .ref h0), (1, .ref h1)] := hl
  have ne_h1_h0 : h1 ≠ h0 := Ne.symm ne_h0_h1
  refine lv_sipush (v := (800 : Int32)) hx hb dX7_load_0 (by decide) ?_
  refine lv_aload_n hx hb dX7_load_3 rfl (lv_at hl 0 rfl) ?_
  refine lv_iconst (v := (2 : Int32)) hx hb dX7_load_4 (by decide) ?_
  refine ia10_2 hx hb hK hM ha_h0 dX7_load_5 ?_
  refine lv_isub hx hb dX7_load_6 ?_
  refine lv_aload_n hx hb dX7_load_7 rfl (lv_at hl 1 rfl) ?_
  refine lv_iconst (v := (2 : Int32)) hx hb dX7_load_8 (by decide) ?_
  refine ia11_2 hx hb hK hM ha_h1 dX7_load_9 ?_
  refine va_mmin hx hb (hml.trans hl.1.symm) hown (hts _ wm_X7_55) (hts _ wt_mmin) (hts _ wn_java_lang_Math) (hts _ wc_mmin) (Nat.le_of_ble_eq_true rfl) (Nat.le_of_ble_eq_true rfl) (Nat.zero_le _) (Nat.zero_le _) dX7_load_10 ?_
  refine lv_istore_n (lv' := [(2, .int (mn ((800 : Int32) - a2) b2)), (0, .ref h0), (1, .ref h1)]) hx hb dX7_load_13 rfl hl (by decide) rfl (fun ls hl => ?_)
  refine lv_iload_n hx hb dX7_load_14 rfl (lv_at hl 0 rfl) ?_
  refine lv_if_eq (tgt := 33) hx hb dX7_load_15 (by decide) (fun c1 => ?_) (fun c1 => ?_)
  · have e_t_X7_load_0 : (t_X7_load_0 a2 a3 b2 b3) = a2 := by unfold t_X7_load_0; rw [if_pos c1]
    have e_t_X7_load_1 : (t_X7_load_1 a2 a3 b2 b3) = a3 := by unfold t_X7_load_1; rw [if_pos c1]
    have e_t_X7_load_2 : (t_X7_load_2 a2 a3 a4 b2 b3 b4) = a4 := by unfold t_X7_load_2; rw [if_pos c1]
    have e_t_X7_load_3 : (t_X7_load_3 a2 a3 b2 b3) = b2 := by unfold t_X7_load_3; rw [if_pos c1]
    replace hM := hM.eq (hu_i ha_h0).symm
    replace hM := hM.eq (hu_i (hu_n ne_h1_h0 ha_h1)).symm
    exact g_vret hx hb hr hlocks hM (Nat.zero_le _) (Nat.zero_le _) (by rw [e_t_X7_load_0, e_t_X7_load_1, e_t_X7_load_2, e_t_X7_load_3]) dX7_load_33
  · refine lv_aload_n hx hb dX7_load_18 rfl (lv_at hl 1 rfl) ?_
    refine lv_iconst (v := (2 : Int32)) hx hb dX7_load_19 (by decide) ?_
    refine ia10_2 hx hb hK hM ha_h0 dX7_load_20 ?_
    refine lv_if_le (tgt := 34) hx hb dX7_load_21 (by decide) (fun c2 => ?_) (fun c2 => ?_)
    · refine lv_aload_n hx hb dX7_load_34 rfl (lv_at hl 1 rfl) ?_
      refine lv_iconst (v := (4 : Int32)) hx hb dX7_load_35 (by decide) ?_
      refine lv_aload_n hx hb dX7_load_36 rfl (lv_at hl 1 rfl) ?_
      refine lv_iconst (v := (2 : Int32)) hx hb dX7_load_37 (by decide) ?_
      refine ia10_2 hx hb hK hM ha_h0 dX7_load_38 ?_
      refine lv_if_ne (tgt := 48) hx hb dX7_load_39 (by decide) (fun c3 => ?_) (fun c3 => ?_)
      · refine lv_aload_n hx hb dX7_load_48 rfl (lv_at hl 1 rfl) ?_
        refine lv_iconst (v := (4 : Int32)) hx hb dX7_load_49 (by decide) ?_
        refine ia10_4 hx hb hK hM ha_h0 dX7_load_50 ?_
        refine lv_aload_n hx hb dX7_load_51 rfl (lv_at hl 2 rfl) ?_
        refine lv_iconst (v := (4 : Int32)) hx hb dX7_load_52 (by decide) ?_
        refine ia11_4 hx hb hK hM ha_h1 dX7_load_53 ?_
        refine va_mmax hx hb (hml.trans hl.1.symm) hown (hts _ wm_X7_61) (hts _ wt_mmax) (hts _ wn_java_lang_Math) (hts _ wc_mmax) (Nat.le_of_ble_eq_true rfl) (Nat.le_of_ble_eq_true rfl) (Nat.zero_le _) (Nat.zero_le _) dX7_load_54 ?_
        refine is10_4 hx hb hK hM ha_h0 dX7_load_57 (fun H locs hM => ?_)
        refine lv_aload_n hx hb dX7_load_58 rfl (lv_at hl 1 rfl) ?_
        refine lv_iconst (v := (3 : Int32)) hx hb dX7_load_59 (by decide) ?_
        refine lv_aload_n hx hb dX7_load_60 rfl (lv_at hl 2 rfl) ?_
        refine lv_iconst (v := (3 : Int32)) hx hb dX7_load_61 (by decide) ?_
        refine ia11_3 hx hb hK hM (hu_n ne_h1_h0 ha_h1) dX7_load_62 ?_
        refine is10_3 hx hb hK hM hu_s dX7_load_63 (fun H locs hM => ?_)
        replace hM := hM.eq (hu_u _ _ _ _ _ _)
        refine lv_aload_n hx hb dX7_load_64 rfl (lv_at hl 1 rfl) ?_
        refine lv_iconst (v := (2 : Int32)) hx hb dX7_load_65 (by decide) ?_
        refine lv_dup2_11 hx hb dX7_load_66 rfl rfl ?_
        refine ia10_2 hx hb hK hM hu_s dX7_load_67 ?_
        refine lv_iload_n hx hb dX7_load_68 rfl (lv_at hl 0 rfl) ?_
        refine lv_iadd hx hb dX7_load_69 ?_
        refine is10_2 hx hb hK hM hu_s dX7_load_70 (fun H locs hM => ?_)
        replace hM := hM.eq (hu_u _ _ _ _ _ _)
        refine lv_aload_n hx hb dX7_load_71 rfl (lv_at hl 2 rfl) ?_
        refine lv_iconst (v := (2 : Int32)) hx hb dX7_load_72 (by decide) ?_
        refine lv_dup2_11 hx hb dX7_load_73 rfl rfl ?_
        refine ia11_2 hx hb hK hM (hu_n ne_h1_h0 ha_h1) dX7_load_74 ?_
        refine lv_iload_n hx hb dX7_load_75 rfl (lv_at hl 0 rfl) ?_
        refine lv_isub hx hb dX7_load_76 ?_
        refine is11_2 hx hb hK hM (hu_n ne_h1_h0 ha_h1) dX7_load_77 (fun H locs hM => ?_)
        have e_t_X7_load_0 : (t_X7_load_0 a2 a3 b2 b3) = (a2 + (mn ((800 : Int32) - a2) b2)) := by unfold t_X7_load_0; rw [if_neg c1, if_pos c2]
        have e_t_X7_load_1 : (t_X7_load_1 a2 a3 b2 b3) = b3 := by unfold t_X7_load_1; rw [if_neg c1, if_pos c2]
        have e_t_X7_load_2 : (t_X7_load_2 a2 a3 a4 b2 b3 b4) = (mx a4 b4) := by unfold t_X7_load_2; rw [if_neg c1, if_pos c2, if_neg c3]
        have e_t_X7_load_3 : (t_X7_load_3 a2 a3 b2 b3) = (b2 - (mn ((800 : Int32) - a2) b2)) := by unfold t_X7_load_3; rw [if_neg c1, if_pos c2]
        exact g_vret hx hb hr hlocks hM (Nat.zero_le _) (Nat.zero_le _) (by rw [e_t_X7_load_0, e_t_X7_load_1, e_t_X7_load_2, e_t_X7_load_3]) dX7_load_78
      · refine lv_aload_n hx hb dX7_load_42 rfl (lv_at hl 2 rfl) ?_
        refine lv_iconst (v := (4 : Int32)) hx hb dX7_load_43 (by decide) ?_
        refine ia11_4 hx hb hK hM ha_h1 dX7_load_44 ?_
        refine lv_goto (tgt := 57) hx hb dX7_load_45 (by decide) ?_
        refine is10_4 hx hb hK hM ha_h0 dX7_load_57 (fun H locs hM => ?_)
        refine lv_aload_n hx hb dX7_load_58 rfl (lv_at hl 1 rfl) ?_
        refine lv_iconst (v := (3 : Int32)) hx hb dX7_load_59 (by decide) ?_
        refine lv_aload_n hx hb dX7_load_60 rfl (lv_at hl 2 rfl) ?_
        refine lv_iconst (v := (3 : Int32)) hx hb dX7_load_61 (by decide) ?_
        refine ia11_3 hx hb hK hM (hu_n ne_h1_h0 ha_h1) dX7_load_62 ?_
        refine is10_3 hx hb hK hM hu_s dX7_load_63 (fun H locs hM => ?_)
        replace hM := hM.eq (hu_u _ _ _ _ _ _)
        refine lv_aload_n hx hb dX7_load_64 rfl (lv_at hl 1 rfl) ?_
        refine lv_iconst (v := (2 : Int32)) hx hb dX7_load_65 (by decide) ?_
        refine lv_dup2_11 hx hb dX7_load_66 rfl rfl ?_
        refine ia10_2 hx hb hK hM hu_s dX7_load_67 ?_
        refine lv_iload_n hx hb dX7_load_68 rfl (lv_at hl 0 rfl) ?_
        refine lv_iadd hx hb dX7_load_69 ?_
        refine is10_2 hx hb hK hM hu_s dX7_load_70 (fun H locs hM => ?_)
        replace hM := hM.eq (hu_u _ _ _ _ _ _)
        refine lv_aload_n hx hb dX7_load_71 rfl (lv_at hl 2 rfl) ?_
        refine lv_iconst (v := (2 : Int32)) hx hb dX7_load_72 (by decide) ?_
        refine lv_dup2_11 hx hb dX7_load_73 rfl rfl ?_
        refine ia11_2 hx hb hK hM (hu_n ne_h1_h0 ha_h1) dX7_load_74 ?_
        refine lv_iload_n hx hb dX7_load_75 rfl (lv_at hl 0 rfl) ?_
        refine lv_isub hx hb dX7_load_76 ?_
        refine is11_2 hx hb hK hM (hu_n ne_h1_h0 ha_h1) dX7_load_77 (fun H locs hM => ?_)
        have e_t_X7_load_0 : (t_X7_load_0 a2 a3 b2 b3) = (a2 + (mn ((800 : Int32) - a2) b2)) := by unfold t_X7_load_0; rw [if_neg c1, if_pos c2]
        have e_t_X7_load_1 : (t_X7_load_1 a2 a3 b2 b3) = b3 := by unfold t_X7_load_1; rw [if_neg c1, if_pos c2]
        have e_t_X7_load_2 : (t_X7_load_2 a2 a3 a4 b2 b3 b4) = b4 := by unfold t_X7_load_2; rw [if_neg c1, if_pos c2, if_pos c3]
        have e_t_X7_load_3 : (t_X7_load_3 a2 a3 b2 b3) = (b2 - (mn ((800 : Int32) - a2) b2)) := by unfold t_X7_load_3; rw [if_neg c1, if_pos c2]
        exact g_vret hx hb hr hlocks hM (Nat.zero_le _) (Nat.zero_le _) (by rw [e_t_X7_load_0, e_t_X7_load_1, e_t_X7_load_2, e_t_X7_load_3]) dX7_load_78
    · refine lv_aload_n hx hb dX7_load_24 rfl (lv_at hl 1 rfl) ?_
      refine lv_iconst (v := (3 : Int32)) hx hb dX7_load_25 (by decide) ?_
      refine ia10_3 hx hb hK hM ha_h0 dX7_load_26 ?_
      refine lv_aload_n hx hb dX7_load_27 rfl (lv_at hl 2 rfl) ?_
      refine lv_iconst (v := (3 : Int32)) hx hb dX7_load_28 (by decide) ?_
      refine ia11_3 hx hb hK hM ha_h1 dX7_load_29 ?_
      refine lv_icmp_eq (tgt := 34) hx hb dX7_load_30 (by decide) (fun c4 => ?_) (fun c4 => ?_)
      · refine lv_aload_n hx hb dX7_load_34 rfl (lv_at hl 1 rfl) ?_
        refine lv_iconst (v := (4 : Int32)) hx hb dX7_load_35 (by decide) ?_
        refine lv_aload_n hx hb dX7_load_36 rfl (lv_at hl 1 rfl) ?_
        refine lv_iconst (v := (2 : Int32)) hx hb dX7_load_37 (by decide) ?_
        refine ia10_2 hx hb hK hM ha_h0 dX7_load_38 ?_
        refine lv_if_ne (tgt := 48) hx hb dX7_load_39 (by decide) (fun c5 => ?_) (fun c5 => ?_)
        · refine lv_aload_n hx hb dX7_load_48 rfl (lv_at hl 1 rfl) ?_
          refine lv_iconst (v := (4 : Int32)) hx hb dX7_load_49 (by decide) ?_
          refine ia10_4 hx hb hK hM ha_h0 dX7_load_50 ?_
          refine lv_aload_n hx hb dX7_load_51 rfl (lv_at hl 2 rfl) ?_
          refine lv_iconst (v := (4 : Int32)) hx hb dX7_load_52 (by decide) ?_
          refine ia11_4 hx hb hK hM ha_h1 dX7_load_53 ?_
          refine va_mmax hx hb (hml.trans hl.1.symm) hown (hts _ wm_X7_61) (hts _ wt_mmax) (hts _ wn_java_lang_Math) (hts _ wc_mmax) (Nat.le_of_ble_eq_true rfl) (Nat.le_of_ble_eq_true rfl) (Nat.zero_le _) (Nat.zero_le _) dX7_load_54 ?_
          refine is10_4 hx hb hK hM ha_h0 dX7_load_57 (fun H locs hM => ?_)
          refine lv_aload_n hx hb dX7_load_58 rfl (lv_at hl 1 rfl) ?_
          refine lv_iconst (v := (3 : Int32)) hx hb dX7_load_59 (by decide) ?_
          refine lv_aload_n hx hb dX7_load_60 rfl (lv_at hl 2 rfl) ?_
          refine lv_iconst (v := (3 : Int32)) hx hb dX7_load_61 (by decide) ?_
          refine ia11_3 hx hb hK hM (hu_n ne_h1_h0 ha_h1) dX7_load_62 ?_
          refine is10_3 hx hb hK hM hu_s dX7_load_63 (fun H locs hM => ?_)
          replace hM := hM.eq (hu_u _ _ _ _ _ _)
          refine lv_aload_n hx hb dX7_load_64 rfl (lv_at hl 1 rfl) ?_
          refine lv_iconst (v := (2 : Int32)) hx hb dX7_load_65 (by decide) ?_
          refine lv_dup2_11 hx hb dX7_load_66 rfl rfl ?_
          refine ia10_2 hx hb hK hM hu_s dX7_load_67 ?_
          refine lv_iload_n hx hb dX7_load_68 rfl (lv_at hl 0 rfl) ?_
          refine lv_iadd hx hb dX7_load_69 ?_
          refine is10_2 hx hb hK hM hu_s dX7_load_70 (fun H locs hM => ?_)
          replace hM := hM.eq (hu_u _ _ _ _ _ _)
          refine lv_aload_n hx hb dX7_load_71 rfl (lv_at hl 2 rfl) ?_
          refine lv_iconst (v := (2 : Int32)) hx hb dX7_load_72 (by decide) ?_
          refine lv_dup2_11 hx hb dX7_load_73 rfl rfl ?_
          refine ia11_2 hx hb hK hM (hu_n ne_h1_h0 ha_h1) dX7_load_74 ?_
          refine lv_iload_n hx hb dX7_load_75 rfl (lv_at hl 0 rfl) ?_
          refine lv_isub hx hb dX7_load_76 ?_
          refine is11_2 hx hb hK hM (hu_n ne_h1_h0 ha_h1) dX7_load_77 (fun H locs hM => ?_)
          have e_t_X7_load_0 : (t_X7_load_0 a2 a3 b2 b3) = (a2 + (mn ((800 : Int32) - a2) b2)) := by unfold t_X7_load_0; rw [if_neg c1, if_neg c2, if_pos c4]
          have e_t_X7_load_1 : (t_X7_load_1 a2 a3 b2 b3) = b3 := by unfold t_X7_load_1; rw [if_neg c1, if_neg c2, if_pos c4]
          have e_t_X7_load_2 : (t_X7_load_2 a2 a3 a4 b2 b3 b4) = (mx a4 b4) := by unfold t_X7_load_2; rw [if_neg c1, if_neg c2, if_pos c4, if_neg c5]
          have e_t_X7_load_3 : (t_X7_load_3 a2 a3 b2 b3) = (b2 - (mn ((800 : Int32) - a2) b2)) := by unfold t_X7_load_3; rw [if_neg c1, if_neg c2, if_pos c4]
          exact g_vret hx hb hr hlocks hM (Nat.zero_le _) (Nat.zero_le _) (by rw [e_t_X7_load_0, e_t_X7_load_1, e_t_X7_load_2, e_t_X7_load_3]) dX7_load_78
        · refine lv_aload_n hx hb dX7_load_42 rfl (lv_at hl 2 rfl) ?_
          refine lv_iconst (v := (4 : Int32)) hx hb dX7_load_43 (by decide) ?_
          refine ia11_4 hx hb hK hM ha_h1 dX7_load_44 ?_
          refine lv_goto (tgt := 57) hx hb dX7_load_45 (by decide) ?_
          refine is10_4 hx hb hK hM ha_h0 dX7_load_57 (fun H locs hM => ?_)
          refine lv_aload_n hx hb dX7_load_58 rfl (lv_at hl 1 rfl) ?_
          refine lv_iconst (v := (3 : Int32)) hx hb dX7_load_59 (by decide) ?_
          refine lv_aload_n hx hb dX7_load_60 rfl (lv_at hl 2 rfl) ?_
          refine lv_iconst (v := (3 : Int32)) hx hb dX7_load_61 (by decide) ?_
          refine ia11_3 hx hb hK hM (hu_n ne_h1_h0 ha_h1) dX7_load_62 ?_
          refine is10_3 hx hb hK hM hu_s dX7_load_63 (fun H locs hM => ?_)
          replace hM := hM.eq (hu_u _ _ _ _ _ _)
          refine lv_aload_n hx hb dX7_load_64 rfl (lv_at hl 1 rfl) ?_
          refine lv_iconst (v := (2 : Int32)) hx hb dX7_load_65 (by decide) ?_
          refine lv_dup2_11 hx hb dX7_load_66 rfl rfl ?_
          refine ia10_2 hx hb hK hM hu_s dX7_load_67 ?_
          refine lv_iload_n hx hb dX7_load_68 rfl (lv_at hl 0 rfl) ?_
          refine lv_iadd hx hb dX7_load_69 ?_
          refine is10_2 hx hb hK hM hu_s dX7_load_70 (fun H locs hM => ?_)
          replace hM := hM.eq (hu_u _ _ _ _ _ _)
          refine lv_aload_n hx hb dX7_load_71 rfl (lv_at hl 2 rfl) ?_
          refine lv_iconst (v := (2 : Int32)) hx hb dX7_load_72 (by decide) ?_
          refine lv_dup2_11 hx hb dX7_load_73 rfl rfl ?_
          refine ia11_2 hx hb hK hM (hu_n ne_h1_h0 ha_h1) dX7_load_74 ?_
          refine lv_iload_n hx hb dX7_load_75 rfl (lv_at hl 0 rfl) ?_
          refine lv_isub hx hb dX7_load_76 ?_
          refine is11_2 hx hb hK hM (hu_n ne_h1_h0 ha_h1) dX7_load_77 (fun H locs hM => ?_)
          have e_t_X7_load_0 : (t_X7_load_0 a2 a3 b2 b3) = (a2 + (mn ((800 : Int32) - a2) b2)) := by unfold t_X7_load_0; rw [if_neg c1, if_neg c2, if_pos c4]
          have e_t_X7_load_1 : (t_X7_load_1 a2 a3 b2 b3) = b3 := by unfold t_X7_load_1; rw [if_neg c1, if_neg c2, if_pos c4]
          have e_t_X7_load_2 : (t_X7_load_2 a2 a3 a4 b2 b3 b4) = b4 := by unfold t_X7_load_2; rw [if_neg c1, if_neg c2, if_pos c4, if_pos c5]
          have e_t_X7_load_3 : (t_X7_load_3 a2 a3 b2 b3) = (b2 - (mn ((800 : Int32) - a2) b2)) := by unfold t_X7_load_3; rw [if_neg c1, if_neg c2, if_pos c4]
          exact g_vret hx hb hr hlocks hM (Nat.zero_le _) (Nat.zero_le _) (by rw [e_t_X7_load_0, e_t_X7_load_1, e_t_X7_load_2, e_t_X7_load_3]) dX7_load_78
      · have e_t_X7_load_0 : (t_X7_load_0 a2 a3 b2 b3) = a2 := by unfold t_X7_load_0; rw [if_neg c1, if_neg c2, if_neg c4]
        have e_t_X7_load_1 : (t_X7_load_1 a2 a3 b2 b3) = a3 := by unfold t_X7_load_1; rw [if_neg c1, if_neg c2, if_neg c4]
        have e_t_X7_load_2 : (t_X7_load_2 a2 a3 a4 b2 b3 b4) = a4 := by unfold t_X7_load_2; rw [if_neg c1, if_neg c2, if_neg c4]
        have e_t_X7_load_3 : (t_X7_load_3 a2 a3 b2 b3) = b2 := by unfold t_X7_load_3; rw [if_neg c1, if_neg c2, if_neg c4]
        replace hM := hM.eq (hu_i ha_h0).symm
        replace hM := hM.eq (hu_i (hu_n ne_h1_h0 ha_h1)).symm
        exact g_vret hx hb hr hlocks hM (Nat.zero_le _) (Nat.zero_le _) (by rw [e_t_X7_load_0, e_t_X7_load_1, e_t_X7_load_2, e_t_X7_load_3]) dX7_load_33
def t_X7_ripen_0 (p1 : Int32) : Int32 := if p1 < (30 : Int32) then (if p1 < (15 : Int32) then (0 : Int32) else (1 : Int32)) else (2 : Int32)
def t_X7_ripen_1 (a4 a5 p1 p2 p3 : Int32) : Int32 := if p3 ≤ 0 then (if (mn (100 : Int32) (a4 + (t_X7_ripen_0 p1))) < (60 : Int32) then a5 else (if (p2 / (4 : Int32)) ≤ a5 then (if a5 ≤ (p2 / (4 : Int32)) then a5 else (mx (5 : Int32) (a5 - (1 : Int32)))) else (a5 + (1 : Int32)))) else (mn (40 : Int32) (a5 + p3))
def t_X7_ripen_2 (a4 a5 a6 p0 p1 p2 p3 : Int32) : Int32 := if (100 : Int32) ≤ (mn (100 : Int32) (a4 + (t_X7_ripen_0 p1))) then (if p0 < (12 : Int32) then (if p3 < (10 : Int32) then (mn (100 : Int32) (a6 + ((0 : Int32) + (0 : Int32)))) else (mn (100 : Int32) (a6 + ((0 : Int32) + (5 : Int32))))) else (if (17 : Int32) < p0 then (if p3 < (10 : Int32) then (mn (100 : Int32) (a6 + ((0 : Int32) + (0 : Int32)))) else (mn (100 : Int32) (a6 + ((0 : Int32) + (5 : Int32))))) else (if (14 : Int32) ≤ (t_X7_ripen_1 a4 a5 p1 p2 p3) then (if p3 < (10 : Int32) then (mn (100 : Int32) (a6 + ((0 : Int32) + (0 : Int32)))) else (mn (100 : Int32) (a6 + ((0 : Int32) + (5 : Int32))))) else (if p3 < (10 : Int32) then (mn (100 : Int32) (a6 + ((1 : Int32) + (0 : Int32)))) else (mn (100 : Int32) (a6 + ((1 : Int32) + (5 : Int32)))))))) else a6
set_option maxHeartbeats 4000000 in
set_option maxRecDepth 100000 in
theorem c_X7_ripen (l : Launch) (G : GG) (M : HM) (h0 r0 : Nat) (a0 a1 a2 a3 a4 a5 a6 a7 a8 a9 a10 : Int32) (p0 : Int32) (p1 : Int32) (p2 : Int32) (p3 : Int32) (ha_h0 : M h0 = some (r0, (.inl (G.2.1 0, 11, .inl (rw11 a0 a1 a2 a3 a4 a5 a6 a7 a8 a9 a10))))) : Mv l yX7_ripen (.code yX7_ripen cX7_ripen 6 none :: AL) 1 21 0 0 [.ref h0, .int p0, .int p1, .int p2, .int p3] G M (fun M' => M' = (hu M h0 r0 (.inl (G.2.1 0, 11, .inl (rw11 a0 a1 a2 a3 (mn (100 : Int32) (a4 + (t_X7_ripen_0 p1))) (t_X7_ripen_1 a4 a5 p1 p2 p3) (t_X7_ripen_2 a4 a5 a6 p0 p1 p2 p3) a7 a8 a9 a10))))) := by
  refine Mv.go (by decide) (Nat.le_of_ble_eq_true rfl) ?_
  intro p e s m below meth c ls hx hb hr hml hown hlocks hname hts hK hM hl
  have hown : s.vm.findClass RX7 = some m.cls := hown
  have hl : lv_has ls 6 [(0, .ref h0), (1, .int p0), (2, .int p1), (3, .int p2), (4, .int p3)] := hl
  have J28 : ∀ (H : Heap) (locs : List Loc) (ls : Array Slot), Wd G M s H locs → lv_has ls 6 [(0, .ref h0), (1, .int p0), (2, .int p1), (3, .int p2), (4, .int p3)] → W p l e ({ frames := 1, cells := 0, slots := 0, locals := 21 } : Room) s m [.ref h0, .int p0, .int p1, .int p2, .int p3].toArray below meth c H locs 0 0 (MQ below (va_Qv (fun M' => M' = (hu M h0 r0 (.inl (G.2.1 0, 11, .inl (rw11 a0 a1 a2 a3 (mn (100 : Int32) (a4 + (t_X7_ripen_0 p1))) (t_X7_ripen_1 a4 a5 p1 p2 p3) (t_X7_ripen_2 a4 a5 a6 p0 p1 p2 p3) a7 a8 a9 a10))))) (gB G) (gA G)) [.ref h0, .int p0, .int p1, .int p2, .int p3].toArray s 0 0 (gA G)) (F0 m 28 ls [.int (t_X7_ripen_0 p1), .int a4, .int (100 : Int32), .int (4 : Int32), .ref h0]) := by
    intro H locs ls hM hl
    have J111 : ∀ (H : Heap) (locs : List Loc) (ls : Array Slot), Wd G (hu M h0 r0 (.inl (G.2.1 0, 11, .inl (rw11 a0 a1 a2 a3 (mn (100 : Int32) (a4 + (t_X7_ripen_0 p1))) (t_X7_ripen_1 a4 a5 p1 p2 p3) a6 a7 a8 a9 a10)))) s H locs → lv_has ls 6 [(0, .ref h0), (1, .int p0), (2, .int p1), (3, .int p2), (4, .int p3)] → W p l e ({ frames := 1, cells := 0, slots := 0, locals := 21 } : Room) s m [.ref h0, .int p0, .int p1, .int p2, .int p3].toArray below meth c H locs 0 0 (MQ below (va_Qv (fun M' => M' = (hu M h0 r0 (.inl (G.2.1 0, 11, .inl (rw11 a0 a1 a2 a3 (mn (100 : Int32) (a4 + (t_X7_ripen_0 p1))) (t_X7_ripen_1 a4 a5 p1 p2 p3) (t_X7_ripen_2 a4 a5 a6 p0 p1 p2 p3) a7 a8 a9 a10))))) (gB G) (gA G)) [.ref h0, .int p0, .int p1, .int p2, .int p3].toArray s 0 0 (gA G)) (F0 m 111 ls []) := by
      intro H locs ls hM hl
      refine lv_aload_n hx hb dX7_ripen_111 rfl (lv_at hl 0 rfl) ?_
      refine lv_iconst (v := (4 : Int32)) hx hb dX7_ripen_112 (by decide) ?_
      refine ia11_4 hx hb hK hM hu_s dX7_ripen_113 ?_
      refine lv_bipush (v := (100 : Int32)) hx hb dX7_ripen_114 (by decide) ?_
      refine lv_icmp_ge (tgt := 120) hx hb dX7_ripen_116 (by decide) (fun c1 => ?_) (fun c1 => ?_)
      · refine lv_iload_n hx hb dX7_ripen_120 rfl (lv_at hl 1 rfl) ?_
        refine lv_bipush (v := (12 : Int32)) hx hb dX7_ripen_121 (by decide) ?_
        refine lv_icmp_lt (tgt := 144) hx hb dX7_ripen_123 (by decide) (fun c2 => ?_) (fun c2 => ?_)
        · refine lv_iconst (v := (0 : Int32)) hx hb dX7_ripen_144 (by decide) ?_
          refine lv_iload hx hb dX7_ripen_145 (lv_at hl 4 rfl) ?_
          refine lv_bipush (v := (10 : Int32)) hx hb dX7_ripen_147 (by decide) ?_
          refine lv_icmp_lt (tgt := 156) hx hb dX7_ripen_149 (by decide) (fun c3 => ?_) (fun c3 => ?_)
          · refine lv_iconst (v := (0 : Int32)) hx hb dX7_ripen_156 (by decide) ?_
            refine lv_iadd hx hb dX7_ripen_157 ?_
            refine lv_istore (lv' := [(5, .int ((0 : Int32) + (0 : Int32))), (0, .ref h0), (1, .int p0), (2, .int p1), (3, .int p2), (4, .int p3)]) hx hb dX7_ripen_158 hl (by decide) rfl (fun ls hl => ?_)
            refine lv_aload_n hx hb dX7_ripen_160 rfl (lv_at hl 1 rfl) ?_
            refine lv_bipush (v := (6 : Int32)) hx hb dX7_ripen_161 (by decide) ?_
            refine lv_bipush (v := (100 : Int32)) hx hb dX7_ripen_163 (by decide) ?_
            refine lv_aload_n hx hb dX7_ripen_165 rfl (lv_at hl 1 rfl) ?_
            refine lv_bipush (v := (6 : Int32)) hx hb dX7_ripen_166 (by decide) ?_
            refine ia11_6 hx hb hK hM hu_s dX7_ripen_168 ?_
            refine lv_iload hx hb dX7_ripen_169 (lv_at hl 0 rfl) ?_
            refine lv_iadd hx hb dX7_ripen_171 ?_
            refine va_mmin hx hb (hml.trans hl.1.symm) hown (hts _ wm_X7_55) (hts _ wt_mmin) (hts _ wn_java_lang_Math) (hts _ wc_mmin) (Nat.le_of_ble_eq_true rfl) (Nat.le_of_ble_eq_true rfl) (Nat.zero_le _) (Nat.zero_le _) dX7_ripen_172 ?_
            refine is11_6 hx hb hK hM hu_s dX7_ripen_175 (fun H locs hM => ?_)
            replace hM := hM.eq (hu_u _ _ _ _ _ _)
            have e_t_X7_ripen_2 : (t_X7_ripen_2 a4 a5 a6 p0 p1 p2 p3) = (mn (100 : Int32) (a6 + ((0 : Int32) + (0 : Int32)))) := by unfold t_X7_ripen_2; rw [if_pos c1, if_pos c2, if_pos c3]
            exact g_vret hx hb hr hlocks hM (Nat.zero_le _) (Nat.zero_le _) (by rw [e_t_X7_ripen_2]) dX7_ripen_176
          · refine lv_iconst (v := (5 : Int32)) hx hb dX7_ripen_152 (by decide) ?_
            refine lv_goto (tgt := 157) hx hb dX7_ripen_153 (by decide) ?_
            refine lv_iadd hx hb dX7_ripen_157 ?_
            refine lv_istore (lv' := [(5, .int ((0 : Int32) + (5 : Int32))), (0, .ref h0), (1, .int p0), (2, .int p1), (3, .int p2), (4, .int p3)]) hx hb dX7_ripen_158 hl (by decide) rfl (fun ls hl => ?_)
            refine lv_aload_n hx hb dX7_ripen_160 rfl (lv_at hl 1 rfl) ?_
            refine lv_bipush (v := (6 : Int32)) hx hb dX7_ripen_161 (by decide) ?_
            refine lv_bipush (v := (100 : Int32)) hx hb dX7_ripen_163 (by decide) ?_
            refine lv_aload_n hx hb dX7_ripen_165 rfl (lv_at hl 1 rfl) ?_
            refine lv_bipush (v := (6 : Int32)) hx hb dX7_ripen_166 (by decide) ?_
            refine ia11_6 hx hb hK hM hu_s dX7_ripen_168 ?_
            refine lv_iload hx hb dX7_ripen_169 (lv_at hl 0 rfl) ?_
            refine lv_iadd hx hb dX7_ripen_171 ?_
            refine va_mmin hx hb (hml.trans hl.1.symm) hown (hts _ wm_X7_55) (hts _ wt_mmin) (hts _ wn_java_lang_Math) (hts _ wc_mmin) (Nat.le_of_ble_eq_true rfl) (Nat.le_of_ble_eq_true rfl) (Nat.zero_le _) (Nat.zero_le _) dX7_ripen_172 ?_
            refine is11_6 hx hb hK hM hu_s dX7_ripen_175 (fun H locs hM => ?_)
            replace hM := hM.eq (hu_u _ _ _ _ _ _)
            have e_t_X7_ripen_2 : (t_X7_ripen_2 a4 a5 a6 p0 p1 p2 p3) = (mn (100 : Int32) (a6 + ((0 : Int32) + (5 : Int32)))) := by unfold t_X7_ripen_2; rw [if_pos c1, if_pos c2, if_neg c3]
            exact g_vret hx hb hr hlocks hM (Nat.zero_le _) (Nat.zero_le _) (by rw [e_t_X7_ripen_2]) dX7_ripen_176
        · refine lv_iload_n hx hb dX7_ripen_126 rfl (lv_at hl 1 rfl) ?_
          refine lv_bipush (v := (17 : Int32)) hx hb dX7_ripen_127 (by decide) ?_
          refine lv_icmp_gt (tgt := 144) hx hb dX7_ripen_129 (by decide) (fun c4 => ?_) (fun c4 => ?_)
          · refine lv_iconst (v := (0 : Int32)) hx hb dX7_ripen_144 (by decide) ?_
            refine lv_iload hx hb dX7_ripen_145 (lv_at hl 4 rfl) ?_
            refine lv_bipush (v := (10 : Int32)) hx hb dX7_ripen_147 (by decide) ?_
            refine lv_icmp_lt (tgt := 156) hx hb dX7_ripen_149 (by decide) (fun c5 => ?_) (fun c5 => ?_)
            · refine lv_iconst (v := (0 : Int32)) hx hb dX7_ripen_156 (by decide) ?_
              refine lv_iadd hx hb dX7_ripen_157 ?_
              refine lv_istore (lv' := [(5, .int ((0 : Int32) + (0 : Int32))), (0, .ref h0), (1, .int p0), (2, .int p1), (3, .int p2), (4, .int p3)]) hx hb dX7_ripen_158 hl (by decide) rfl (fun ls hl => ?_)
              refine lv_aload_n hx hb dX7_ripen_160 rfl (lv_at hl 1 rfl) ?_
              refine lv_bipush (v := (6 : Int32)) hx hb dX7_ripen_161 (by decide) ?_
              refine lv_bipush (v := (100 : Int32)) hx hb dX7_ripen_163 (by decide) ?_
              refine lv_aload_n hx hb dX7_ripen_165 rfl (lv_at hl 1 rfl) ?_
              refine lv_bipush (v := (6 : Int32)) hx hb dX7_ripen_166 (by decide) ?_
              refine ia11_6 hx hb hK hM hu_s dX7_ripen_168 ?_
              refine lv_iload hx hb dX7_ripen_169 (lv_at hl 0 rfl) ?_
              refine lv_iadd hx hb dX7_ripen_171 ?_
              refine va_mmin hx hb (hml.trans hl.1.symm) hown (hts _ wm_X7_55) (hts _ wt_mmin) (hts _ wn_java_lang_Math) (hts _ wc_mmin) (Nat.le_of_ble_eq_true rfl) (Nat.le_of_ble_eq_true rfl) (Nat.zero_le _) (Nat.zero_le _) dX7_ripen_172 ?_
              refine is11_6 hx hb hK hM hu_s dX7_ripen_175 (fun H locs hM => ?_)
              replace hM := hM.eq (hu_u _ _ _ _ _ _)
              have e_t_X7_ripen_2 : (t_X7_ripen_2 a4 a5 a6 p0 p1 p2 p3) = (mn (100 : Int32) (a6 + ((0 : Int32) + (0 : Int32)))) := by unfold t_X7_ripen_2; rw [if_pos c1, if_neg c2, if_pos c4, if_pos c5]
              exact g_vret hx hb hr hlocks hM (Nat.zero_le _) (Nat.zero_le _) (by rw [e_t_X7_ripen_2]) dX7_ripen_176
            · refine lv_iconst (v := (5 : Int32)) hx hb dX7_ripen_152 (by decide) ?_
              refine lv_goto (tgt := 157) hx hb dX7_ripen_153 (by decide) ?_
              refine lv_iadd hx hb dX7_ripen_157 ?_
              refine lv_istore (lv' := [(5, .int ((0 : Int32) + (5 : Int32))), (0, .ref h0), (1, .int p0), (2, .int p1), (3, .int p2), (4, .int p3)]) hx hb dX7_ripen_158 hl (by decide) rfl (fun ls hl => ?_)
              refine lv_aload_n hx hb dX7_ripen_160 rfl (lv_at hl 1 rfl) ?_
              refine lv_bipush (v := (6 : Int32)) hx hb dX7_ripen_161 (by decide) ?_
              refine lv_bipush (v := (100 : Int32)) hx hb dX7_ripen_163 (by decide) ?_
              refine lv_aload_n hx hb dX7_ripen_165 rfl (lv_at hl 1 rfl) ?_
              refine lv_bipush (v := (6 : Int32)) hx hb dX7_ripen_166 (by decide) ?_
              refine ia11_6 hx hb hK hM hu_s dX7_ripen_168 ?_
              refine lv_iload hx hb dX7_ripen_169 (lv_at hl 0 rfl) ?_
              refine lv_iadd hx hb dX7_ripen_171 ?_
              refine va_mmin hx hb (hml.trans hl.1.symm) hown (hts _ wm_X7_55) (hts _ wt_mmin) (hts _ wn_java_lang_Math) (hts _ wc_mmin) (Nat.le_of_ble_eq_true rfl) (Nat.le_of_ble_eq_true rfl) (Nat.zero_le _) (Nat.zero_le _) dX7_ripen_172 ?_
              refine is11_6 hx hb hK hM hu_s dX7_ripen_175 (fun H locs hM => ?_)
              replace hM := hM.eq (hu_u _ _ _ _ _ _)
              have e_t_X7_ripen_2 : (t_X7_ripen_2 a4 a5 a6 p0 p1 p2 p3) = (mn (100 : Int32) (a6 + ((0 : Int32) + (5 : Int32)))) := by unfold t_X7_ripen_2; rw [if_pos c1, if_neg c2, if_pos c4, if_neg c5]
              exact g_vret hx hb hr hlocks hM (Nat.zero_le _) (Nat.zero_le _) (by rw [e_t_X7_ripen_2]) dX7_ripen_176
          · refine lv_aload_n hx hb dX7_ripen_132 rfl (lv_at hl 0 rfl) ?_
            refine lv_iconst (v := (5 : Int32)) hx hb dX7_ripen_133 (by decide) ?_
            refine ia11_5 hx hb hK hM hu_s dX7_ripen_134 ?_
            refine lv_bipush (v := (14 : Int32)) hx hb dX7_ripen_135 (by decide) ?_
            refine lv_icmp_ge (tgt := 144) hx hb dX7_ripen_137 (by decide) (fun c6 => ?_) (fun c6 => ?_)
            · refine lv_iconst (v := (0 : Int32)) hx hb dX7_ripen_144 (by decide) ?_
              refine lv_iload hx hb dX7_ripen_145 (lv_at hl 4 rfl) ?_
              refine lv_bipush (v := (10 : Int32)) hx hb dX7_ripen_147 (by decide) ?_
              refine lv_icmp_lt (tgt := 156) hx hb dX7_ripen_149 (by decide) (fun c7 => ?_) (fun c7 => ?_)
              · refine lv_iconst (v := (0 : Int32)) hx hb dX7_ripen_156 (by decide) ?_
                refine lv_iadd hx hb dX7_ripen_157 ?_
                refine lv_istore (lv' := [(5, .int ((0 : Int32) + (0 : Int32))), (0, .ref h0), (1, .int p0), (2, .int p1), (3, .int p2), (4, .int p3)]) hx hb dX7_ripen_158 hl (by decide) rfl (fun ls hl => ?_)
                refine lv_aload_n hx hb dX7_ripen_160 rfl (lv_at hl 1 rfl) ?_
                refine lv_bipush (v := (6 : Int32)) hx hb dX7_ripen_161 (by decide) ?_
                refine lv_bipush (v := (100 : Int32)) hx hb dX7_ripen_163 (by decide) ?_
                refine lv_aload_n hx hb dX7_ripen_165 rfl (lv_at hl 1 rfl) ?_
                refine lv_bipush (v := (6 : Int32)) hx hb dX7_ripen_166 (by decide) ?_
                refine ia11_6 hx hb hK hM hu_s dX7_ripen_168 ?_
                refine lv_iload hx hb dX7_ripen_169 (lv_at hl 0 rfl) ?_
                refine lv_iadd hx hb dX7_ripen_171 ?_
                refine va_mmin hx hb (hml.trans hl.1.symm) hown (hts _ wm_X7_55) (hts _ wt_mmin) (hts _ wn_java_lang_Math) (hts _ wc_mmin) (Nat.le_of_ble_eq_true rfl) (Nat.le_of_ble_eq_true rfl) (Nat.zero_le _) (Nat.zero_le _) dX7_ripen_172 ?_
                refine is11_6 hx hb hK hM hu_s dX7_ripen_175 (fun H locs hM => ?_)
                replace hM := hM.eq (hu_u _ _ _ _ _ _)
                have e_t_X7_ripen_2 : (t_X7_ripen_2 a4 a5 a6 p0 p1 p2 p3) = (mn (100 : Int32) (a6 + ((0 : Int32) + (0 : Int32)))) := by unfold t_X7_ripen_2; rw [if_pos c1, if_neg c2, if_neg c4, if_pos c6, if_pos c7]
                exact g_vret hx hb hr hlocks hM (Nat.zero_le _) (Nat.zero_le _) (by rw [e_t_X7_ripen_2]) dX7_ripen_176
              · refine lv_iconst (v := (5 : Int32)) hx hb dX7_ripen_152 (by decide) ?_
                refine lv_goto (tgt := 157) hx hb dX7_ripen_153 (by decide) ?_
                refine lv_iadd hx hb dX7_ripen_157 ?_
                refine lv_istore (lv' := [(5, .int ((0 : Int32) + (5 : Int32))), (0, .ref h0), (1, .int p0), (2, .int p1), (3, .int p2), (4, .int p3)]) hx hb dX7_ripen_158 hl (by decide) rfl (fun ls hl => ?_)
                refine lv_aload_n hx hb dX7_ripen_160 rfl (lv_at hl 1 rfl) ?_
                refine lv_bipush (v := (6 : Int32)) hx hb dX7_ripen_161 (by decide) ?_
                refine lv_bipush (v := (100 : Int32)) hx hb dX7_ripen_163 (by decide) ?_
                refine lv_aload_n hx hb dX7_ripen_165 rfl (lv_at hl 1 rfl) ?_
                refine lv_bipush (v := (6 : Int32)) hx hb dX7_ripen_166 (by decide) ?_
                refine ia11_6 hx hb hK hM hu_s dX7_ripen_168 ?_
                refine lv_iload hx hb dX7_ripen_169 (lv_at hl 0 rfl) ?_
                refine lv_iadd hx hb dX7_ripen_171 ?_
                refine va_mmin hx hb (hml.trans hl.1.symm) hown (hts _ wm_X7_55) (hts _ wt_mmin) (hts _ wn_java_lang_Math) (hts _ wc_mmin) (Nat.le_of_ble_eq_true rfl) (Nat.le_of_ble_eq_true rfl) (Nat.zero_le _) (Nat.zero_le _) dX7_ripen_172 ?_
                refine is11_6 hx hb hK hM hu_s dX7_ripen_175 (fun H locs hM => ?_)
                replace hM := hM.eq (hu_u _ _ _ _ _ _)
                have e_t_X7_ripen_2 : (t_X7_ripen_2 a4 a5 a6 p0 p1 p2 p3) = (mn (100 : Int32) (a6 + ((0 : Int32) + (5 : Int32)))) := by unfold t_X7_ripen_2; rw [if_pos c1, if_neg c2, if_neg c4, if_pos c6, if_neg c7]
                exact g_vret hx hb hr hlocks hM (Nat.zero_le _) (Nat.zero_le _) (by rw [e_t_X7_ripen_2]) dX7_ripen_176
            · refine lv_iconst (v := (1 : Int32)) hx hb dX7_ripen_140 (by decide) ?_
              refine lv_goto (tgt := 145) hx hb dX7_ripen_141 (by decide) ?_
              refine lv_iload hx hb dX7_ripen_145 (lv_at hl 4 rfl) ?_
              refine lv_bipush (v := (10 : Int32)) hx hb dX7_ripen_147 (by decide) ?_
              refine lv_icmp_lt (tgt := 156) hx hb dX7_ripen_149 (by decide) (fun c8 => ?_) (fun c8 => ?_)
              · refine lv_iconst (v := (0 : Int32)) hx hb dX7_ripen_156 (by decide) ?_
                refine lv_iadd hx hb dX7_ripen_157 ?_
                refine lv_istore (lv' := [(5, .int ((1 : Int32) + (0 : Int32))), (0, .ref h0), (1, .int p0), (2, .int p1), (3, .int p2), (4, .int p3)]) hx hb dX7_ripen_158 hl (by decide) rfl (fun ls hl => ?_)
                refine lv_aload_n hx hb dX7_ripen_160 rfl (lv_at hl 1 rfl) ?_
                refine lv_bipush (v := (6 : Int32)) hx hb dX7_ripen_161 (by decide) ?_
                refine lv_bipush (v := (100 : Int32)) hx hb dX7_ripen_163 (by decide) ?_
                refine lv_aload_n hx hb dX7_ripen_165 rfl (lv_at hl 1 rfl) ?_
                refine lv_bipush (v := (6 : Int32)) hx hb dX7_ripen_166 (by decide) ?_
                refine ia11_6 hx hb hK hM hu_s dX7_ripen_168 ?_
                refine lv_iload hx hb dX7_ripen_169 (lv_at hl 0 rfl) ?_
                refine lv_iadd hx hb dX7_ripen_171 ?_
                refine va_mmin hx hb (hml.trans hl.1.symm) hown (hts _ wm_X7_55) (hts _ wt_mmin) (hts _ wn_java_lang_Math) (hts _ wc_mmin) (Nat.le_of_ble_eq_true rfl) (Nat.le_of_ble_eq_true rfl) (Nat.zero_le _) (Nat.zero_le _) dX7_ripen_172 ?_
                refine is11_6 hx hb hK hM hu_s dX7_ripen_175 (fun H locs hM => ?_)
                replace hM := hM.eq (hu_u _ _ _ _ _ _)
                have e_t_X7_ripen_2 : (t_X7_ripen_2 a4 a5 a6 p0 p1 p2 p3) = (mn (100 : Int32) (a6 + ((1 : Int32) + (0 : Int32)))) := by unfold t_X7_ripen_2; rw [if_pos c1, if_neg c2, if_neg c4, if_neg c6, if_pos c8]
                exact g_vret hx hb hr hlocks hM (Nat.zero_le _) (Nat.zero_le _) (by rw [e_t_X7_ripen_2]) dX7_ripen_176
              · refine lv_iconst (v := (5 : Int32)) hx hb dX7_ripen_152 (by decide) ?_
                refine lv_goto (tgt := 157) hx hb dX7_ripen_153 (by decide) ?_
                refine lv_iadd hx hb dX7_ripen_157 ?_
                refine lv_istore (lv' := [(5, .int ((1 : Int32) + (5 : Int32))), (0, .ref h0), (1, .int p0), (2, .int p1), (3, .int p2), (4, .int p3)]) hx hb dX7_ripen_158 hl (by decide) rfl (fun ls hl => ?_)
                refine lv_aload_n hx hb dX7_ripen_160 rfl (lv_at hl 1 rfl) ?_
                refine lv_bipush (v := (6 : Int32)) hx hb dX7_ripen_161 (by decide) ?_
                refine lv_bipush (v := (100 : Int32)) hx hb dX7_ripen_163 (by decide) ?_
                refine lv_aload_n hx hb dX7_ripen_165 rfl (lv_at hl 1 rfl) ?_
                refine lv_bipush (v := (6 : Int32)) hx hb dX7_ripen_166 (by decide) ?_
                refine ia11_6 hx hb hK hM hu_s dX7_ripen_168 ?_
                refine lv_iload hx hb dX7_ripen_169 (lv_at hl 0 rfl) ?_
                refine lv_iadd hx hb dX7_ripen_171 ?_
                refine va_mmin hx hb (hml.trans hl.1.symm) hown (hts _ wm_X7_55) (hts _ wt_mmin) (hts _ wn_java_lang_Math) (hts _ wc_mmin) (Nat.le_of_ble_eq_true rfl) (Nat.le_of_ble_eq_true rfl) (Nat.zero_le _) (Nat.zero_le _) dX7_ripen_172 ?_
                refine is11_6 hx hb hK hM hu_s dX7_ripen_175 (fun H locs hM => ?_)
                replace hM := hM.eq (hu_u _ _ _ _ _ _)
                have e_t_X7_ripen_2 : (t_X7_ripen_2 a4 a5 a6 p0 p1 p2 p3) = (mn (100 : Int32) (a6 + ((1 : Int32) + (5 : Int32)))) := by unfold t_X7_ripen_2; rw [if_pos c1, if_neg c2, if_neg c4, if_neg c6, if_neg c8]
                exact g_vret hx hb hr hlocks hM (Nat.zero_le _) (Nat.zero_le _) (by rw [e_t_X7_ripen_2]) dX7_ripen_176
      · have e_t_X7_ripen_2 : (t_X7_ripen_2 a4 a5 a6 p0 p1 p2 p3) = a6 := by unfold t_X7_ripen_2; rw [if_neg c1]
        exact g_vret hx hb hr hlocks hM (Nat.zero_le _) (Nat.zero_le _) (by rw [e_t_X7_ripen_2]) dX7_ripen_119
    refine lv_iadd hx hb dX7_ripen_28 ?_
    refine va_mmin hx hb (hml.trans hl.1.symm) hown (hts _ wm_X7_55) (hts _ wt_mmin) (hts _ wn_java_lang_Math) (hts _ wc_mmin) (Nat.le_of_ble_eq_true rfl) (Nat.le_of_ble_eq_true rfl) (Nat.zero_le _) (Nat.zero_le _) dX7_ripen_29 ?_
    refine is11_4 hx hb hK hM ha_h0 dX7_ripen_32 (fun H locs hM => ?_)
    refine lv_iload hx hb dX7_ripen_33 (lv_at hl 4 rfl) ?_
    refine lv_if_le (tgt := 55) hx hb dX7_ripen_35 (by decide) (fun c9 => ?_) (fun c9 => ?_)
    · refine lv_aload_n hx hb dX7_ripen_55 rfl (lv_at hl 0 rfl) ?_
      refine lv_iconst (v := (4 : Int32)) hx hb dX7_ripen_56 (by decide) ?_
      refine ia11_4 hx hb hK hM hu_s dX7_ripen_57 ?_
      refine lv_bipush (v := (60 : Int32)) hx hb dX7_ripen_58 (by decide) ?_
      refine lv_icmp_lt (tgt := 82) hx hb dX7_ripen_60 (by decide) (fun c10 => ?_) (fun c10 => ?_)
      · refine lv_aload_n hx hb dX7_ripen_82 rfl (lv_at hl 0 rfl) ?_
        refine lv_iconst (v := (4 : Int32)) hx hb dX7_ripen_83 (by decide) ?_
        refine ia11_4 hx hb hK hM hu_s dX7_ripen_84 ?_
        refine lv_bipush (v := (60 : Int32)) hx hb dX7_ripen_85 (by decide) ?_
        refine lv_icmp_lt (tgt := 111) hx hb dX7_ripen_87 (by decide) (fun c11 => ?_) (fun c11 => ?_)
        rotate_left
        · exact absurd c10 c11
        have e_t_X7_ripen_1 : (t_X7_ripen_1 a4 a5 p1 p2 p3) = a5 := by unfold t_X7_ripen_1; rw [if_pos c9, if_pos c10]
        exact J111 _ _ _ (hM.eq (by rw [e_t_X7_ripen_1])) (lv_sub hl [0, 1, 2, 3, 4] rfl)
      · refine lv_aload_n hx hb dX7_ripen_63 rfl (lv_at hl 0 rfl) ?_
        refine lv_iconst (v := (5 : Int32)) hx hb dX7_ripen_64 (by decide) ?_
        refine ia11_5 hx hb hK hM hu_s dX7_ripen_65 ?_
        refine lv_iload_n hx hb dX7_ripen_66 rfl (lv_at hl 3 rfl) ?_
        refine lv_iconst (v := (4 : Int32)) hx hb dX7_ripen_67 (by decide) ?_
        refine lv_idiv hx hb dX7_ripen_68 (by decide) ?_
        refine lv_icmp_ge (tgt := 82) hx hb dX7_ripen_69 (by decide) (fun c12 => ?_) (fun c12 => ?_)
        · refine lv_aload_n hx hb dX7_ripen_82 rfl (lv_at hl 0 rfl) ?_
          refine lv_iconst (v := (4 : Int32)) hx hb dX7_ripen_83 (by decide) ?_
          refine ia11_4 hx hb hK hM hu_s dX7_ripen_84 ?_
          refine lv_bipush (v := (60 : Int32)) hx hb dX7_ripen_85 (by decide) ?_
          refine lv_icmp_lt (tgt := 111) hx hb dX7_ripen_87 (by decide) (fun c13 => ?_) (fun c13 => ?_)
          · exact absurd c13 c10
          refine lv_aload_n hx hb dX7_ripen_90 rfl (lv_at hl 0 rfl) ?_
          refine lv_iconst (v := (5 : Int32)) hx hb dX7_ripen_91 (by decide) ?_
          refine ia11_5 hx hb hK hM hu_s dX7_ripen_92 ?_
          refine lv_iload_n hx hb dX7_ripen_93 rfl (lv_at hl 3 rfl) ?_
          refine lv_iconst (v := (4 : Int32)) hx hb dX7_ripen_94 (by decide) ?_
          refine lv_idiv hx hb dX7_ripen_95 (by decide) ?_
          refine lv_icmp_le (tgt := 111) hx hb dX7_ripen_96 (by decide) (fun c14 => ?_) (fun c14 => ?_)
          · have e_t_X7_ripen_1 : (t_X7_ripen_1 a4 a5 p1 p2 p3) = a5 := by unfold t_X7_ripen_1; rw [if_pos c9, if_neg c10, if_pos c12, if_pos c14]
            exact J111 _ _ _ (hM.eq (by rw [e_t_X7_ripen_1])) (lv_sub hl [0, 1, 2, 3, 4] rfl)
          · refine lv_aload_n hx hb dX7_ripen_99 rfl (lv_at hl 0 rfl) ?_
            refine lv_iconst (v := (5 : Int32)) hx hb dX7_ripen_100 (by decide) ?_
            refine lv_iconst (v := (5 : Int32)) hx hb dX7_ripen_101 (by decide) ?_
            refine lv_aload_n hx hb dX7_ripen_102 rfl (lv_at hl 0 rfl) ?_
            refine lv_iconst (v := (5 : Int32)) hx hb dX7_ripen_103 (by decide) ?_
            refine ia11_5 hx hb hK hM hu_s dX7_ripen_104 ?_
            refine lv_iconst (v := (1 : Int32)) hx hb dX7_ripen_105 (by decide) ?_
            refine lv_isub hx hb dX7_ripen_106 ?_
            refine va_mmax hx hb (hml.trans hl.1.symm) hown (hts _ wm_X7_61) (hts _ wt_mmax) (hts _ wn_java_lang_Math) (hts _ wc_mmax) (Nat.le_of_ble_eq_true rfl) (Nat.le_of_ble_eq_true rfl) (Nat.zero_le _) (Nat.zero_le _) dX7_ripen_107 ?_
            refine is11_5 hx hb hK hM hu_s dX7_ripen_110 (fun H locs hM => ?_)
            replace hM := hM.eq (hu_u _ _ _ _ _ _)
            have e_t_X7_ripen_1 : (t_X7_ripen_1 a4 a5 p1 p2 p3) = (mx (5 : Int32) (a5 - (1 : Int32))) := by unfold t_X7_ripen_1; rw [if_pos c9, if_neg c10, if_pos c12, if_neg c14]
            exact J111 _ _ _ (hM.eq (by rw [e_t_X7_ripen_1])) (lv_sub hl [0, 1, 2, 3, 4] rfl)
        · refine lv_aload_n hx hb dX7_ripen_72 rfl (lv_at hl 0 rfl) ?_
          refine lv_iconst (v := (5 : Int32)) hx hb dX7_ripen_73 (by decide) ?_
          refine lv_dup2_11 hx hb dX7_ripen_74 rfl rfl ?_
          refine ia11_5 hx hb hK hM hu_s dX7_ripen_75 ?_
          refine lv_iconst (v := (1 : Int32)) hx hb dX7_ripen_76 (by decide) ?_
          refine lv_iadd hx hb dX7_ripen_77 ?_
          refine is11_5 hx hb hK hM hu_s dX7_ripen_78 (fun H locs hM => ?_)
          replace hM := hM.eq (hu_u _ _ _ _ _ _)
          refine lv_goto (tgt := 111) hx hb dX7_ripen_79 (by decide) ?_
          have e_t_X7_ripen_1 : (t_X7_ripen_1 a4 a5 p1 p2 p3) = (a5 + (1 : Int32)) := by unfold t_X7_ripen_1; rw [if_pos c9, if_neg c10, if_neg c12]
          exact J111 _ _ _ (hM.eq (by rw [e_t_X7_ripen_1])) (lv_sub hl [0, 1, 2, 3, 4] rfl)
    · refine lv_aload_n hx hb dX7_ripen_38 rfl (lv_at hl 0 rfl) ?_
      refine lv_iconst (v := (5 : Int32)) hx hb dX7_ripen_39 (by decide) ?_
      refine lv_bipush (v := (40 : Int32)) hx hb dX7_ripen_40 (by decide) ?_
      refine lv_aload_n hx hb dX7_ripen_42 rfl (lv_at hl 0 rfl) ?_
      refine lv_iconst (v := (5 : Int32)) hx hb dX7_ripen_43 (by decide) ?_
      refine ia11_5 hx hb hK hM hu_s dX7_ripen_44 ?_
      refine lv_iload hx hb dX7_ripen_45 (lv_at hl 4 rfl) ?_
      refine lv_iadd hx hb dX7_ripen_47 ?_
      refine va_mmin hx hb (hml.trans hl.1.symm) hown (hts _ wm_X7_55) (hts _ wt_mmin) (hts _ wn_java_lang_Math) (hts _ wc_mmin) (Nat.le_of_ble_eq_true rfl) (Nat.le_of_ble_eq_true rfl) (Nat.zero_le _) (Nat.zero_le _) dX7_ripen_48 ?_
      refine is11_5 hx hb hK hM hu_s dX7_ripen_51 (fun H locs hM => ?_)
      replace hM := hM.eq (hu_u _ _ _ _ _ _)
      refine lv_goto (tgt := 111) hx hb dX7_ripen_52 (by decide) ?_
      have e_t_X7_ripen_1 : (t_X7_ripen_1 a4 a5 p1 p2 p3) = (mn (40 : Int32) (a5 + p3)) := by unfold t_X7_ripen_1; rw [if_neg c9]
      exact J111 _ _ _ (hM.eq (by rw [e_t_X7_ripen_1])) (lv_sub hl [0, 1, 2, 3, 4] rfl)
  refine lv_aload_n hx hb dX7_ripen_0 rfl (lv_at hl 0 rfl) ?_
  refine lv_iconst (v := (4 : Int32)) hx hb dX7_ripen_1 (by decide) ?_
  refine lv_bipush (v := (100 : Int32)) hx hb dX7_ripen_2 (by decide) ?_
  refine lv_aload_n hx hb dX7_ripen_4 rfl (lv_at hl 0 rfl) ?_
  refine lv_iconst (v := (4 : Int32)) hx hb dX7_ripen_5 (by decide) ?_
  refine ia11_4 hx hb hK hM ha_h0 dX7_ripen_6 ?_
  refine lv_iload_n hx hb dX7_ripen_7 rfl (lv_at hl 2 rfl) ?_
  refine lv_bipush (v := (30 : Int32)) hx hb dX7_ripen_8 (by decide) ?_
  refine lv_icmp_lt (tgt := 17) hx hb dX7_ripen_10 (by decide) (fun c15 => ?_) (fun c15 => ?_)
  · refine lv_iload_n hx hb dX7_ripen_17 rfl (lv_at hl 2 rfl) ?_
    refine lv_bipush (v := (15 : Int32)) hx hb dX7_ripen_18 (by decide) ?_
    refine lv_icmp_lt (tgt := 27) hx hb dX7_ripen_20 (by decide) (fun c16 => ?_) (fun c16 => ?_)
    · refine lv_iconst (v := (0 : Int32)) hx hb dX7_ripen_27 (by decide) ?_
      refine W.eq (g2 := F0 m 28 ls [.int (t_X7_ripen_0 p1), .int a4, .int (100 : Int32), .int (4 : Int32), .ref h0]) (by rw [show (t_X7_ripen_0 p1) = (0 : Int32) from by unfold t_X7_ripen_0; rw [if_pos c15, if_pos c16]]) ?_
      have e_t_X7_ripen_0 : (t_X7_ripen_0 p1) = (0 : Int32) := by unfold t_X7_ripen_0; rw [if_pos c15, if_pos c16]
      exact J28 _ _ _ hM (lv_sub hl [0, 1, 2, 3, 4] rfl)
    · refine lv_iconst (v := (1 : Int32)) hx hb dX7_ripen_23 (by decide) ?_
      refine lv_goto (tgt := 28) hx hb dX7_ripen_24 (by decide) ?_
      refine W.eq (g2 := F0 m 28 ls [.int (t_X7_ripen_0 p1), .int a4, .int (100 : Int32), .int (4 : Int32), .ref h0]) (by rw [show (t_X7_ripen_0 p1) = (1 : Int32) from by unfold t_X7_ripen_0; rw [if_pos c15, if_neg c16]]) ?_
      have e_t_X7_ripen_0 : (t_X7_ripen_0 p1) = (1 : Int32) := by unfold t_X7_ripen_0; rw [if_pos c15, if_neg c16]
      exact J28 _ _ _ hM (lv_sub hl [0, 1, 2, 3, 4] rfl)
  · refine lv_iconst (v := (2 : Int32)) hx hb dX7_ripen_13 (by decide) ?_
    refine lv_goto (tgt := 28) hx hb dX7_ripen_14 (by decide) ?_
    refine W.eq (g2 := F0 m 28 ls [.int (t_X7_ripen_0 p1), .int a4, .int (100 : Int32), .int (4 : Int32), .ref h0]) (by rw [show (t_X7_ripen_0 p1) = (2 : Int32) from by unfold t_X7_ripen_0; rw [if_neg c15]]) ?_
    have e_t_X7_ripen_0 : (t_X7_ripen_0 p1) = (2 : Int32) := by unfold t_X7_ripen_0; rw [if_neg c15]
    exact J28 _ _ _ hM (lv_sub hl [0, 1, 2, 3, 4] rfl)

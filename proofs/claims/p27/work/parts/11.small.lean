def t_X6_isOutside_0 (p0 p1 p2 : Int32) : Int32 := if p0 < p1 then (1 : Int32) else (if p0 ≤ p2 then (0 : Int32) else (1 : Int32))
theorem t_X6_isOutside_0_01 {p0 p1 p2 : Int32} : (t_X6_isOutside_0 p0 p1 p2) = 0 ∨ (t_X6_isOutside_0 p0 p1 p2) = 1 := by unfold t_X6_isOutside_0; (repeat' split) <;> first | exact Or.inl rfl | exact Or.inr rfl | assumption
set_option maxHeartbeats 4000000 in
set_option maxRecDepth 100000 in
theorem c_X6_isOutside (l : Launch) (G : GG) (M : HM)  (p0 : Int32) (p1 : Int32) (p2 : Int32)  : Mi l yX6_isOutside (.code yX6_isOutside cX6_isOutside 3 (some .boolean) :: AL) 0 0 0 0 [.int p0, .int p1, .int p2] G M (fun r M' => r = (t_X6_isOutside_0 p0 p1 p2) ∧ M' = M) := by
  refine Mi.go (by decide) (Nat.le_of_ble_eq_true rfl) ?_
  intro p e s m below meth c ls hx hb hr hml hown hlocks hname hts hK hM hl
  have hown : s.vm.findClass RX6 = some m.cls := hown
  have hl : lv_has ls 3 [(0, .int p0), (1, .int p1), (2, .int p2)] := hl
  refine lv_iload_n hx hb dX6_isOutside_0 rfl (lv_at hl 0 rfl) ?_
  refine lv_iload_n hx hb dX6_isOutside_1 rfl (lv_at hl 1 rfl) ?_
  refine lv_icmp_lt (tgt := 10) hx hb dX6_isOutside_2 (by decide) (fun c1 => ?_) (fun c1 => ?_)
  · refine lv_iconst (v := (1 : Int32)) hx hb dX6_isOutside_10 (by decide) ?_
    refine lv_goto (tgt := 15) hx hb dX6_isOutside_11 (by decide) ?_
    exact g_zret hx hb hr hlocks hM (Nat.zero_le _) (Nat.zero_le _) (nz01 (Or.inr rfl)) ⟨(show (1 : Int32) = (t_X6_isOutside_0 p0 p1 p2) from Eq.symm (by unfold t_X6_isOutside_0; rw [if_pos c1])), rfl⟩ dX6_isOutside_15
  · refine lv_iload_n hx hb dX6_isOutside_5 rfl (lv_at hl 0 rfl) ?_
    refine lv_iload_n hx hb dX6_isOutside_6 rfl (lv_at hl 2 rfl) ?_
    refine lv_icmp_le (tgt := 14) hx hb dX6_isOutside_7 (by decide) (fun c2 => ?_) (fun c2 => ?_)
    · refine lv_iconst (v := (0 : Int32)) hx hb dX6_isOutside_14 (by decide) ?_
      exact g_zret hx hb hr hlocks hM (Nat.zero_le _) (Nat.zero_le _) (nz01 (Or.inl rfl)) ⟨(show (0 : Int32) = (t_X6_isOutside_0 p0 p1 p2) from Eq.symm (by unfold t_X6_isOutside_0; rw [if_neg c1, if_pos c2])), rfl⟩ dX6_isOutside_15
    · refine lv_iconst (v := (1 : Int32)) hx hb dX6_isOutside_10 (by decide) ?_
      refine lv_goto (tgt := 15) hx hb dX6_isOutside_11 (by decide) ?_
      exact g_zret hx hb hr hlocks hM (Nat.zero_le _) (Nat.zero_le _) (nz01 (Or.inr rfl)) ⟨(show (1 : Int32) = (t_X6_isOutside_0 p0 p1 p2) from Eq.symm (by unfold t_X6_isOutside_0; rw [if_neg c1, if_neg c2])), rfl⟩ dX6_isOutside_15
def t_X6_isNoWeather_0 (p0 p1 p2 : Int32) : Int32 := if (t_X6_isOutside_0 p0 (0 : Int32) (45 : Int32)) = 0 then (if (t_X6_isOutside_0 p1 (0 : Int32) (100 : Int32)) = 0 then (if (t_X6_isOutside_0 p2 (0 : Int32) (20 : Int32)) = 0 then (0 : Int32) else (1 : Int32)) else (1 : Int32)) else (1 : Int32)
theorem t_X6_isNoWeather_0_01 {p0 p1 p2 : Int32} : (t_X6_isNoWeather_0 p0 p1 p2) = 0 ∨ (t_X6_isNoWeather_0 p0 p1 p2) = 1 := by unfold t_X6_isNoWeather_0; (repeat' split) <;> first | exact Or.inl rfl | exact Or.inr rfl | assumption | exact t_X6_isOutside_0_01
set_option maxHeartbeats 4000000 in
set_option maxRecDepth 100000 in
theorem c_X6_isNoWeather (l : Launch) (G : GG) (M : HM)  (p0 : Int32) (p1 : Int32) (p2 : Int32)  : Mi l yX6_isNoWeather (.code yX6_isNoWeather cX6_isNoWeather 3 (some .boolean) :: AL) 1 22 0 0 [.int p0, .int p1, .int p2] G M (fun r M' => r = (t_X6_isNoWeather_0 p0 p1 p2) ∧ M' = M) := by
  refine Mi.go (by decide) (Nat.le_of_ble_eq_true rfl) ?_
  intro p e s m below meth c ls hx hb hr hml hown hlocks hname hts hK hM hl
  have hown : s.vm.findClass RX6 = some m.cls := hown
  have hl : lv_has ls 3 [(0, .int p0), (1, .int p1), (2, .int p2)] := hl
  refine lv_iload_n hx hb dX6_isNoWeather_0 rfl (lv_at hl 0 rfl) ?_
  refine lv_iconst (v := (0 : Int32)) hx hb dX6_isNoWeather_1 (by decide) ?_
  refine lv_bipush (v := (45 : Int32)) hx hb dX6_isNoWeather_2 (by decide) ?_
  refine g_callSi (n9 := 3) (As := [.int p0, .int (0 : Int32), .int (45 : Int32)]) (rest := []) hx hb hml hl.1 hown hts hK hM (c_X6_isOutside l G _ p0 (0 : Int32) (45 : Int32) ) wm_X6_30 wt_X6_isOutside wn_X6 wc_X6_isOutside (by decide +kernel) ⟨Nat.le_of_ble_eq_true rfl, Nat.le_of_ble_eq_true rfl⟩ ⟨Nat.le_of_ble_eq_true rfl, Nat.le_of_ble_eq_true rfl⟩ rfl (Nat.le_of_ble_eq_true rfl) rfl dX6_isNoWeather_4 (fun r_4 M1 H locs hq hM => ?_)
  have hq1 := hq.1.symm
  have hq2 := hq.2.symm
  subst hq1 hq2
  refine lv_if_ne (tgt := 30) hx hb dX6_isNoWeather_7 (by decide) (fun c1 => ?_) (fun c1 => ?_)
  · refine lv_iconst (v := (1 : Int32)) hx hb dX6_isNoWeather_30 (by decide) ?_
    refine lv_goto (tgt := 35) hx hb dX6_isNoWeather_31 (by decide) ?_
    exact g_zret hx hb hr hlocks hM (Nat.zero_le _) (Nat.zero_le _) (nz01 (Or.inr rfl)) ⟨(show (1 : Int32) = (t_X6_isNoWeather_0 p0 p1 p2) from Eq.symm (by unfold t_X6_isNoWeather_0; rw [if_neg c1])), rfl⟩ dX6_isNoWeather_35
  · refine lv_iload_n hx hb dX6_isNoWeather_10 rfl (lv_at hl 1 rfl) ?_
    refine lv_iconst (v := (0 : Int32)) hx hb dX6_isNoWeather_11 (by decide) ?_
    refine lv_bipush (v := (100 : Int32)) hx hb dX6_isNoWeather_12 (by decide) ?_
    refine g_callSi (n9 := 3) (As := [.int p1, .int (0 : Int32), .int (100 : Int32)]) (rest := []) hx hb hml hl.1 hown hts hK hM (c_X6_isOutside l G _ p1 (0 : Int32) (100 : Int32) ) wm_X6_30 wt_X6_isOutside wn_X6 wc_X6_isOutside (by decide +kernel) ⟨Nat.le_of_ble_eq_true rfl, Nat.le_of_ble_eq_true rfl⟩ ⟨Nat.le_of_ble_eq_true rfl, Nat.le_of_ble_eq_true rfl⟩ rfl (Nat.le_of_ble_eq_true rfl) rfl dX6_isNoWeather_14 (fun r_14 M1 H locs hq hM => ?_)
    have hq1 := hq.1.symm
    have hq2 := hq.2.symm
    subst hq1 hq2
    refine lv_if_ne (tgt := 30) hx hb dX6_isNoWeather_17 (by decide) (fun c2 => ?_) (fun c2 => ?_)
    · refine lv_iconst (v := (1 : Int32)) hx hb dX6_isNoWeather_30 (by decide) ?_
      refine lv_goto (tgt := 35) hx hb dX6_isNoWeather_31 (by decide) ?_
      exact g_zret hx hb hr hlocks hM (Nat.zero_le _) (Nat.zero_le _) (nz01 (Or.inr rfl)) ⟨(show (1 : Int32) = (t_X6_isNoWeather_0 p0 p1 p2) from Eq.symm (by unfold t_X6_isNoWeather_0; rw [if_pos c1, if_neg c2])), rfl⟩ dX6_isNoWeather_35
    · refine lv_iload_n hx hb dX6_isNoWeather_20 rfl (lv_at hl 2 rfl) ?_
      refine lv_iconst (v := (0 : Int32)) hx hb dX6_isNoWeather_21 (by decide) ?_
      refine lv_bipush (v := (20 : Int32)) hx hb dX6_isNoWeather_22 (by decide) ?_
      refine g_callSi (n9 := 3) (As := [.int p2, .int (0 : Int32), .int (20 : Int32)]) (rest := []) hx hb hml hl.1 hown hts hK hM (c_X6_isOutside l G _ p2 (0 : Int32) (20 : Int32) ) wm_X6_30 wt_X6_isOutside wn_X6 wc_X6_isOutside (by decide +kernel) ⟨Nat.le_of_ble_eq_true rfl, Nat.le_of_ble_eq_true rfl⟩ ⟨Nat.le_of_ble_eq_true rfl, Nat.le_of_ble_eq_true rfl⟩ rfl (Nat.le_of_ble_eq_true rfl) rfl dX6_isNoWeather_24 (fun r_24 M1 H locs hq hM => ?_)
      have hq1 := hq.1.symm
      have hq2 := hq.2.symm
      subst hq1 hq2
      refine lv_if_eq (tgt := 34) hx hb dX6_isNoWeather_27 (by decide) (fun c3 => ?_) (fun c3 => ?_)
      · refine lv_iconst (v := (0 : Int32)) hx hb dX6_isNoWeather_34 (by decide) ?_
        exact g_zret hx hb hr hlocks hM (Nat.zero_le _) (Nat.zero_le _) (nz01 (Or.inl rfl)) ⟨(show (0 : Int32) = (t_X6_isNoWeather_0 p0 p1 p2) from Eq.symm (by unfold t_X6_isNoWeather_0; rw [if_pos c1, if_pos c2, if_pos c3])), rfl⟩ dX6_isNoWeather_35
      · refine lv_iconst (v := (1 : Int32)) hx hb dX6_isNoWeather_30 (by decide) ?_
        refine lv_goto (tgt := 35) hx hb dX6_isNoWeather_31 (by decide) ?_
        exact g_zret hx hb hr hlocks hM (Nat.zero_le _) (Nat.zero_le _) (nz01 (Or.inr rfl)) ⟨(show (1 : Int32) = (t_X6_isNoWeather_0 p0 p1 p2) from Eq.symm (by unfold t_X6_isNoWeather_0; rw [if_pos c1, if_pos c2, if_neg c3])), rfl⟩ dX6_isNoWeather_35
def t_X6_isNoForecast_0 (p0 p1 p2 p3 : Int32) : Int32 := if (t_X6_isOutside_0 p0 (1 : Int32) (48 : Int32)) = 0 then (if (t_X6_isNoWeather_0 p1 p2 p3) = 0 then (0 : Int32) else (1 : Int32)) else (1 : Int32)
theorem t_X6_isNoForecast_0_01 {p0 p1 p2 p3 : Int32} : (t_X6_isNoForecast_0 p0 p1 p2 p3) = 0 ∨ (t_X6_isNoForecast_0 p0 p1 p2 p3) = 1 := by unfold t_X6_isNoForecast_0; (repeat' split) <;> first | exact Or.inl rfl | exact Or.inr rfl | assumption | exact t_X6_isNoWeather_0_01 | exact t_X6_isOutside_0_01
set_option maxHeartbeats 4000000 in
set_option maxRecDepth 100000 in
theorem c_X6_isNoForecast (l : Launch) (G : GG) (M : HM)  (p0 : Int32) (p1 : Int32) (p2 : Int32) (p3 : Int32)  : Mi l yX6_isNoForecast (.code yX6_isNoForecast cX6_isNoForecast 4 (some .boolean) :: AL) 2 44 0 0 [.int p0, .int p1, .int p2, .int p3] G M (fun r M' => r = (t_X6_isNoForecast_0 p0 p1 p2 p3) ∧ M' = M) := by
  refine Mi.go (by decide) (Nat.le_of_ble_eq_true rfl) ?_
  intro p e s m below meth c ls hx hb hr hml hown hlocks hname hts hK hM hl
  have hown : s.vm.findClass RX6 = some m.cls := hown
  have hl : lv_has ls 4 [(0, .int p0), (1, .int p1), (2, .int p2), (3, .int p3)] := hl
  refine lv_iload_n hx hb dX6_isNoForecast_0 rfl (lv_at hl 0 rfl) ?_
  refine lv_iconst (v := (1 : Int32)) hx hb dX6_isNoForecast_1 (by decide) ?_
  refine lv_bipush (v := (48 : Int32)) hx hb dX6_isNoForecast_2 (by decide) ?_
  refine g_callSi (n9 := 3) (As := [.int p0, .int (1 : Int32), .int (48 : Int32)]) (rest := []) hx hb hml hl.1 hown hts hK hM (c_X6_isOutside l G _ p0 (1 : Int32) (48 : Int32) ) wm_X6_30 wt_X6_isOutside wn_X6 wc_X6_isOutside (by decide +kernel) ⟨Nat.le_of_ble_eq_true rfl, Nat.le_of_ble_eq_true rfl⟩ ⟨Nat.le_of_ble_eq_true rfl, Nat.le_of_ble_eq_true rfl⟩ rfl (Nat.le_of_ble_eq_true rfl) rfl dX6_isNoForecast_4 (fun r_4 M1 H locs hq hM => ?_)
  have hq1 := hq.1.symm
  have hq2 := hq.2.symm
  subst hq1 hq2
  refine lv_if_ne (tgt := 19) hx hb dX6_isNoForecast_7 (by decide) (fun c1 => ?_) (fun c1 => ?_)
  · refine lv_iconst (v := (1 : Int32)) hx hb dX6_isNoForecast_19 (by decide) ?_
    refine lv_goto (tgt := 24) hx hb dX6_isNoForecast_20 (by decide) ?_
    exact g_zret hx hb hr hlocks hM (Nat.zero_le _) (Nat.zero_le _) (nz01 (Or.inr rfl)) ⟨(show (1 : Int32) = (t_X6_isNoForecast_0 p0 p1 p2 p3) from Eq.symm (by unfold t_X6_isNoForecast_0; rw [if_neg c1])), rfl⟩ dX6_isNoForecast_24
  · refine lv_iload_n hx hb dX6_isNoForecast_10 rfl (lv_at hl 1 rfl) ?_
    refine lv_iload_n hx hb dX6_isNoForecast_11 rfl (lv_at hl 2 rfl) ?_
    refine lv_iload_n hx hb dX6_isNoForecast_12 rfl (lv_at hl 3 rfl) ?_
    refine g_callSi (n9 := 3) (As := [.int p1, .int p2, .int p3]) (rest := []) hx hb hml hl.1 hown hts hK hM (c_X6_isNoWeather l G _ p1 p2 p3 ) wm_X6_318 wt_X6_isNoWeather wn_X6 wc_X6_isNoWeather (by decide +kernel) ⟨Nat.le_of_ble_eq_true rfl, Nat.le_of_ble_eq_true rfl⟩ ⟨Nat.le_of_ble_eq_true rfl, Nat.le_of_ble_eq_true rfl⟩ rfl (Nat.le_of_ble_eq_true rfl) rfl dX6_isNoForecast_13 (fun r_13 M1 H locs hq hM => ?_)
    have hq1 := hq.1.symm
    have hq2 := hq.2.symm
    subst hq1 hq2
    refine lv_if_eq (tgt := 23) hx hb dX6_isNoForecast_16 (by decide) (fun c2 => ?_) (fun c2 => ?_)
    · refine lv_iconst (v := (0 : Int32)) hx hb dX6_isNoForecast_23 (by decide) ?_
      exact g_zret hx hb hr hlocks hM (Nat.zero_le _) (Nat.zero_le _) (nz01 (Or.inl rfl)) ⟨(show (0 : Int32) = (t_X6_isNoForecast_0 p0 p1 p2 p3) from Eq.symm (by unfold t_X6_isNoForecast_0; rw [if_pos c1, if_pos c2])), rfl⟩ dX6_isNoForecast_24
    · refine lv_iconst (v := (1 : Int32)) hx hb dX6_isNoForecast_19 (by decide) ?_
      refine lv_goto (tgt := 24) hx hb dX6_isNoForecast_20 (by decide) ?_
      exact g_zret hx hb hr hlocks hM (Nat.zero_le _) (Nat.zero_le _) (nz01 (Or.inr rfl)) ⟨(show (1 : Int32) = (t_X6_isNoForecast_0 p0 p1 p2 p3) from Eq.symm (by unfold t_X6_isNoForecast_0; rw [if_pos c1, if_neg c2])), rfl⟩ dX6_isNoForecast_24
def t_X6_towards_0 (p0 p1 p2 : Int32) : Int32 := if p1 ≤ p0 then (mx (p0 - p2) p1) else (mn (p0 + p2) p1)
set_option maxHeartbeats 4000000 in
set_option maxRecDepth 100000 in
theorem c_X6_towards (l : Launch) (G : GG) (M : HM)  (p0 : Int32) (p1 : Int32) (p2 : Int32)  : Mi l yX6_towards (.code yX6_towards cX6_towards 3 (some .int) :: AL) 1 21 0 0 [.int p0, .int p1, .int p2] G M (fun r M' => r = (t_X6_towards_0 p0 p1 p2) ∧ M' = M) := by
  refine Mi.go (by decide) (Nat.le_of_ble_eq_true rfl) ?_
  intro p e s m below meth c ls hx hb hr hml hown hlocks hname hts hK hM hl
  have hown : s.vm.findClass RX6 = some m.cls := hown
  have hl : lv_has ls 3 [(0, .int p0), (1, .int p1), (2, .int p2)] := hl
  refine lv_iload_n hx hb dX6_towards_0 rfl (lv_at hl 1 rfl) ?_
  refine lv_iload_n hx hb dX6_towards_1 rfl (lv_at hl 0 rfl) ?_
  refine lv_icmp_le (tgt := 15) hx hb dX6_towards_2 (by decide) (fun c1 => ?_) (fun c1 => ?_)
  · refine lv_iload_n hx hb dX6_towards_15 rfl (lv_at hl 0 rfl) ?_
    refine lv_iload_n hx hb dX6_towards_16 rfl (lv_at hl 2 rfl) ?_
    refine lv_isub hx hb dX6_towards_17 ?_
    refine lv_iload_n hx hb dX6_towards_18 rfl (lv_at hl 1 rfl) ?_
    refine va_mmax hx hb (hml.trans hl.1.symm) hown (hts _ wm_X6_380) (hts _ wt_mmax) (hts _ wn_java_lang_Math) (hts _ wc_mmax) (Nat.le_of_ble_eq_true rfl) (Nat.le_of_ble_eq_true rfl) (Nat.zero_le _) (Nat.zero_le _) dX6_towards_19 ?_
    exact g_iret hx hb hr hlocks hM (Nat.zero_le _) (Nat.zero_le _) ⟨(show (mx (p0 - p2) p1) = (t_X6_towards_0 p0 p1 p2) from Eq.symm (by unfold t_X6_towards_0; rw [if_pos c1])), rfl⟩ dX6_towards_22
  · refine lv_iload_n hx hb dX6_towards_5 rfl (lv_at hl 0 rfl) ?_
    refine lv_iload_n hx hb dX6_towards_6 rfl (lv_at hl 2 rfl) ?_
    refine lv_iadd hx hb dX6_towards_7 ?_
    refine lv_iload_n hx hb dX6_towards_8 rfl (lv_at hl 1 rfl) ?_
    refine va_mmin hx hb (hml.trans hl.1.symm) hown (hts _ wm_X6_186) (hts _ wt_mmin) (hts _ wn_java_lang_Math) (hts _ wc_mmin) (Nat.le_of_ble_eq_true rfl) (Nat.le_of_ble_eq_true rfl) (Nat.zero_le _) (Nat.zero_le _) dX6_towards_9 ?_
    refine lv_goto (tgt := 22) hx hb dX6_towards_12 (by decide) ?_
    exact g_iret hx hb hr hlocks hM (Nat.zero_le _) (Nat.zero_le _) ⟨(show (mn (p0 + p2) p1) = (t_X6_towards_0 p0 p1 p2) from Eq.symm (by unfold t_X6_towards_0; rw [if_neg c1])), rfl⟩ dX6_towards_22
def t_X1_isOpen_0 (a2 a3 p0 : Int32) : Int32 := if a3 ≤ a2 then (if a2 ≤ p0 then (1 : Int32) else (if a3 ≤ p0 then (0 : Int32) else (1 : Int32))) else (if p0 < a2 then (0 : Int32) else (if a3 ≤ p0 then (0 : Int32) else (1 : Int32)))
theorem t_X1_isOpen_0_01 {a2 a3 p0 : Int32} : (t_X1_isOpen_0 a2 a3 p0) = 0 ∨ (t_X1_isOpen_0 a2 a3 p0) = 1 := by unfold t_X1_isOpen_0; (repeat' split) <;> first | exact Or.inl rfl | exact Or.inr rfl | assumption
set_option maxHeartbeats 4000000 in
set_option maxRecDepth 100000 in
theorem c_X1_isOpen (l : Launch) (G : GG) (M : HM) (h0 r0 : Nat) (a0 a1 a2 a3 a4 a5 : Int32) (p0 : Int32) (ha_h0 : M h0 = some (r0, (.inr (2, [.int a0, .int a1, .int a2, .int a3, .int a4, .int a5])))) : Mi l yX1_isOpen (.code yX1_isOpen cX1_isOpen 2 (some .boolean) :: AL) 0 0 0 0 [.ref h0, .int p0] G M (fun r M' => r = (t_X1_isOpen_0 a2 a3 p0) ∧ M' = M) := by
  refine Mi.go (by decide) (Nat.le_of_ble_eq_true rfl) ?_
  intro p e s m below meth c ls hx hb hr hml hown hlocks hname hts hK hM hl
  have hown : s.vm.findClass RX1 = some m.cls := hown
  have hl : lv_has ls 2 [(0, .ref h0), (1, .int p0)] := hl
  refine lv_aload_n hx hb dX1_isOpen_0 rfl (lv_at hl 0 rfl) ?_
  refine fg_X1_16 hx hb hts hown hK hM ha_h0 dX1_isOpen_1 ?_
  refine lv_aload_n hx hb dX1_isOpen_4 rfl (lv_at hl 0 rfl) ?_
  refine fg_X1_19 hx hb hts hown hK hM ha_h0 dX1_isOpen_5 ?_
  refine lv_icmp_ge (tgt := 35) hx hb dX1_isOpen_8 (by decide) (fun c1 => ?_) (fun c1 => ?_)
  · refine lv_iload_n hx hb dX1_isOpen_35 rfl (lv_at hl 1 rfl) ?_
    refine lv_aload_n hx hb dX1_isOpen_36 rfl (lv_at hl 0 rfl) ?_
    refine fg_X1_16 hx hb hts hown hK hM ha_h0 dX1_isOpen_37 ?_
    refine lv_icmp_ge (tgt := 51) hx hb dX1_isOpen_40 (by decide) (fun c2 => ?_) (fun c2 => ?_)
    · refine lv_iconst (v := (1 : Int32)) hx hb dX1_isOpen_51 (by decide) ?_
      refine lv_goto (tgt := 56) hx hb dX1_isOpen_52 (by decide) ?_
      exact g_zret hx hb hr hlocks hM (Nat.zero_le _) (Nat.zero_le _) (nz01 (Or.inr rfl)) ⟨(show (1 : Int32) = (t_X1_isOpen_0 a2 a3 p0) from Eq.symm (by unfold t_X1_isOpen_0; rw [if_pos c1, if_pos c2])), rfl⟩ dX1_isOpen_56
    · refine lv_iload_n hx hb dX1_isOpen_43 rfl (lv_at hl 1 rfl) ?_
      refine lv_aload_n hx hb dX1_isOpen_44 rfl (lv_at hl 0 rfl) ?_
      refine fg_X1_19 hx hb hts hown hK hM ha_h0 dX1_isOpen_45 ?_
      refine lv_icmp_ge (tgt := 55) hx hb dX1_isOpen_48 (by decide) (fun c3 => ?_) (fun c3 => ?_)
      · refine lv_iconst (v := (0 : Int32)) hx hb dX1_isOpen_55 (by decide) ?_
        exact g_zret hx hb hr hlocks hM (Nat.zero_le _) (Nat.zero_le _) (nz01 (Or.inl rfl)) ⟨(show (0 : Int32) = (t_X1_isOpen_0 a2 a3 p0) from Eq.symm (by unfold t_X1_isOpen_0; rw [if_pos c1, if_neg c2, if_pos c3])), rfl⟩ dX1_isOpen_56
      · refine lv_iconst (v := (1 : Int32)) hx hb dX1_isOpen_51 (by decide) ?_
        refine lv_goto (tgt := 56) hx hb dX1_isOpen_52 (by decide) ?_
        exact g_zret hx hb hr hlocks hM (Nat.zero_le _) (Nat.zero_le _) (nz01 (Or.inr rfl)) ⟨(show (1 : Int32) = (t_X1_isOpen_0 a2 a3 p0) from Eq.symm (by unfold t_X1_isOpen_0; rw [if_pos c1, if_neg c2, if_neg c3])), rfl⟩ dX1_isOpen_56
  · refine lv_iload_n hx hb dX1_isOpen_11 rfl (lv_at hl 1 rfl) ?_
    refine lv_aload_n hx hb dX1_isOpen_12 rfl (lv_at hl 0 rfl) ?_
    refine fg_X1_16 hx hb hts hown hK hM ha_h0 dX1_isOpen_13 ?_
    refine lv_icmp_lt (tgt := 31) hx hb dX1_isOpen_16 (by decide) (fun c4 => ?_) (fun c4 => ?_)
    · refine lv_iconst (v := (0 : Int32)) hx hb dX1_isOpen_31 (by decide) ?_
      refine lv_goto (tgt := 56) hx hb dX1_isOpen_32 (by decide) ?_
      exact g_zret hx hb hr hlocks hM (Nat.zero_le _) (Nat.zero_le _) (nz01 (Or.inl rfl)) ⟨(show (0 : Int32) = (t_X1_isOpen_0 a2 a3 p0) from Eq.symm (by unfold t_X1_isOpen_0; rw [if_neg c1, if_pos c4])), rfl⟩ dX1_isOpen_56
    · refine lv_iload_n hx hb dX1_isOpen_19 rfl (lv_at hl 1 rfl) ?_
      refine lv_aload_n hx hb dX1_isOpen_20 rfl (lv_at hl 0 rfl) ?_
      refine fg_X1_19 hx hb hts hown hK hM ha_h0 dX1_isOpen_21 ?_
      refine lv_icmp_ge (tgt := 31) hx hb dX1_isOpen_24 (by decide) (fun c5 => ?_) (fun c5 => ?_)
      · refine lv_iconst (v := (0 : Int32)) hx hb dX1_isOpen_31 (by decide) ?_
        refine lv_goto (tgt := 56) hx hb dX1_isOpen_32 (by decide) ?_
        exact g_zret hx hb hr hlocks hM (Nat.zero_le _) (Nat.zero_le _) (nz01 (Or.inl rfl)) ⟨(show (0 : Int32) = (t_X1_isOpen_0 a2 a3 p0) from Eq.symm (by unfold t_X1_isOpen_0; rw [if_neg c1, if_neg c4, if_pos c5])), rfl⟩ dX1_isOpen_56
      · refine lv_iconst (v := (1 : Int32)) hx hb dX1_isOpen_27 (by decide) ?_
        refine lv_goto (tgt := 56) hx hb dX1_isOpen_28 (by decide) ?_
        exact g_zret hx hb hr hlocks hM (Nat.zero_le _) (Nat.zero_le _) (nz01 (Or.inr rfl)) ⟨(show (1 : Int32) = (t_X1_isOpen_0 a2 a3 p0) from Eq.symm (by unfold t_X1_isOpen_0; rw [if_neg c1, if_neg c4, if_neg c5])), rfl⟩ dX1_isOpen_56
def t_X1_takes_0 (a1 a2 a3 a5 b2 b4 p0 : Int32) : Int32 := if (t_X1_isOpen_0 a2 a3 p0) = 0 then (0 : Int32) else (if a5 < b4 then (0 : Int32) else (if a1 < b2 then (0 : Int32) else (1 : Int32)))
theorem t_X1_takes_0_01 {a1 a2 a3 a5 b2 b4 p0 : Int32} : (t_X1_takes_0 a1 a2 a3 a5 b2 b4 p0) = 0 ∨ (t_X1_takes_0 a1 a2 a3 a5 b2 b4 p0) = 1 := by unfold t_X1_takes_0; (repeat' split) <;> first | exact Or.inl rfl | exact Or.inr rfl | assumption | exact t_X1_isOpen_0_01
set_option maxHeartbeats 4000000 in
set_option maxRecDepth 100000 in
theorem c_X1_takes (l : Launch) (G : GG) (M : HM) (h0 r0 : Nat) (h1 r1 : Nat) (a0 a1 a2 a3 a4 a5 : Int32) (b0 b1 b2 b3 b4 b5 b6 b7 b8 b9 : Int32) (p0 : Int32) (ha_h0 : M h0 = some (r0, (.inr (2, [.int a0, .int a1, .int a2, .int a3, .int a4, .int a5])))) (ha_h1 : M h1 = some (r1, (.inr (6, [.int b0, .int b1, .int b2, .int b3, .int b4, .int b5, .int b6, .int b7, .int b8, .int b9])))) (ne_h0_h1 : h0 ≠ h1) : Mi l yX1_takes (.code yX1_takes cX1_takes 3 (some .boolean) :: AL) 1 21 0 0 [.ref h0, .ref h1, .int p0] G M (fun r M' => r = (t_X1_takes_0 a1 a2 a3 a5 b2 b4 p0) ∧ M' = M) := by
  refine Mi.go (by decide) (Nat.le_of_ble_eq_true rfl) ?_
  intro p e s m below meth c ls hx hb hr hml hown hlocks hname hts hK hM hl
  have hown : s.vm.findClass RX1 = some m.cls := hown
  have hl : lv_has ls 3 [(0, .ref h0), (1, .ref h1), (2, .int p0)] := hl
  have ne_h1_h0 : h1 ≠ h0 := Ne.symm ne_h0_h1
  refine lv_aload_n hx hb dX1_takes_0 rfl (lv_at hl 0 rfl) ?_
  refine lv_iload_n hx hb dX1_takes_1 rfl (lv_at hl 2 rfl) ?_
  refine g_callVi (n9 := 1) (As := [.int p0]) (rest := []) hx hb hml hl.1 hown hts hK hM (c_X1_isOpen l G _ h0 r0 a0 a1 a2 a3 a4 a5 p0 ha_h0) wm_X1_28 wi_X1_isOpen wl_X1_isOpen wn_X1 wc_X1_isOpen (by decide +kernel) (hM.recv hK (ci := 2) rfl ha_h0) ⟨Nat.le_of_ble_eq_true rfl, Nat.le_of_ble_eq_true rfl⟩ ⟨Nat.le_of_ble_eq_true rfl, Nat.le_of_ble_eq_true rfl⟩ rfl (Nat.le_of_ble_eq_true rfl) rfl dX1_takes_2 (fun r_2 M1 H locs hq hM => ?_)
  have hq1 := hq.1.symm
  have hq2 := hq.2.symm
  subst hq1 hq2
  refine lv_if_eq (tgt := 34) hx hb dX1_takes_5 (by decide) (fun c1 => ?_) (fun c1 => ?_)
  · refine lv_iconst (v := (0 : Int32)) hx hb dX1_takes_34 (by decide) ?_
    exact g_zret hx hb hr hlocks hM (Nat.zero_le _) (Nat.zero_le _) (nz01 (Or.inl rfl)) ⟨(show (0 : Int32) = (t_X1_takes_0 a1 a2 a3 a5 b2 b4 p0) from Eq.symm (by unfold t_X1_takes_0; rw [if_pos c1])), rfl⟩ dX1_takes_35
  · refine lv_aload_n hx hb dX1_takes_8 rfl (lv_at hl 0 rfl) ?_
    refine fg_X1_25 hx hb hts hown hK hM ha_h0 dX1_takes_9 ?_
    refine lv_aload_n hx hb dX1_takes_12 rfl (lv_at hl 1 rfl) ?_
    refine fg_X1_32 hx hb hts hown hK hM ha_h1 dX1_takes_13 ?_
    refine lv_icmp_lt (tgt := 34) hx hb dX1_takes_16 (by decide) (fun c2 => ?_) (fun c2 => ?_)
    · refine lv_iconst (v := (0 : Int32)) hx hb dX1_takes_34 (by decide) ?_
      exact g_zret hx hb hr hlocks hM (Nat.zero_le _) (Nat.zero_le _) (nz01 (Or.inl rfl)) ⟨(show (0 : Int32) = (t_X1_takes_0 a1 a2 a3 a5 b2 b4 p0) from Eq.symm (by unfold t_X1_takes_0; rw [if_neg c1, if_pos c2])), rfl⟩ dX1_takes_35
    · refine lv_aload_n hx hb dX1_takes_19 rfl (lv_at hl 0 rfl) ?_
      refine fg_X1_13 hx hb hts hown hK hM ha_h0 dX1_takes_20 ?_
      refine lv_aload_n hx hb dX1_takes_23 rfl (lv_at hl 1 rfl) ?_
      refine fg_X1_37 hx hb hts hown hK hM ha_h1 dX1_takes_24 ?_
      refine lv_icmp_lt (tgt := 34) hx hb dX1_takes_27 (by decide) (fun c3 => ?_) (fun c3 => ?_)
      · refine lv_iconst (v := (0 : Int32)) hx hb dX1_takes_34 (by decide) ?_
        exact g_zret hx hb hr hlocks hM (Nat.zero_le _) (Nat.zero_le _) (nz01 (Or.inl rfl)) ⟨(show (0 : Int32) = (t_X1_takes_0 a1 a2 a3 a5 b2 b4 p0) from Eq.symm (by unfold t_X1_takes_0; rw [if_neg c1, if_neg c2, if_pos c3])), rfl⟩ dX1_takes_35
      · refine lv_iconst (v := (1 : Int32)) hx hb dX1_takes_30 (by decide) ?_
        refine lv_goto (tgt := 35) hx hb dX1_takes_31 (by decide) ?_
        exact g_zret hx hb hr hlocks hM (Nat.zero_le _) (Nat.zero_le _) (nz01 (Or.inr rfl)) ⟨(show (1 : Int32) = (t_X1_takes_0 a1 a2 a3 a5 b2 b4 p0) from Eq.symm (by unfold t_X1_takes_0; rw [if_neg c1, if_neg c2, if_neg c3])), rfl⟩ dX1_takes_35
def t_X1_discount_0 (a4 p0 : Int32) : Int32 := ((2 : Int32) * (mx (p0 - a4) (0 : Int32)))
set_option maxHeartbeats 4000000 in
set_option maxRecDepth 100000 in
theorem c_X1_discount (l : Launch) (G : GG) (M : HM) (h0 r0 : Nat) (a0 a1 a2 a3 a4 a5 : Int32) (p0 : Int32) (ha_h0 : M h0 = some (r0, (.inr (2, [.int a0, .int a1, .int a2, .int a3, .int a4, .int a5])))) : Mi l yX1_discount (.code yX1_discount cX1_discount 2 (some .int) :: AL) 1 21 0 0 [.ref h0, .int p0] G M (fun r M' => r = (t_X1_discount_0 a4 p0) ∧ M' = M) := by
  refine Mi.go (by decide) (Nat.le_of_ble_eq_true rfl) ?_
  intro p e s m below meth c ls hx hb hr hml hown hlocks hname hts hK hM hl
  have hown : s.vm.findClass RX1 = some m.cls := hown
  have hl : lv_has ls 2 [(0, .ref h0), (1, .int p0)] := hl
  refine lv_iconst (v := (2 : Int32)) hx hb dX1_discount_0 (by decide) ?_
  refine lv_iload_n hx hb dX1_discount_1 rfl (lv_at hl 1 rfl) ?_
  refine lv_aload_n hx hb dX1_discount_2 rfl (lv_at hl 0 rfl) ?_
  refine fg_X1_22 hx hb hts hown hK hM ha_h0 dX1_discount_3 ?_
  refine lv_isub hx hb dX1_discount_6 ?_
  refine lv_iconst (v := (0 : Int32)) hx hb dX1_discount_7 (by decide) ?_
  refine va_mmax hx hb (hml.trans hl.1.symm) hown (hts _ wm_X1_40) (hts _ wt_mmax) (hts _ wn_java_lang_Math) (hts _ wc_mmax) (Nat.le_of_ble_eq_true rfl) (Nat.le_of_ble_eq_true rfl) (Nat.zero_le _) (Nat.zero_le _) dX1_discount_8 ?_
  refine lv_imul hx hb dX1_discount_11 ?_
  exact g_iret hx hb hr hlocks hM (Nat.zero_le _) (Nat.zero_le _) ⟨rfl, rfl⟩ dX1_discount_12
set_option maxHeartbeats 4000000 in
set_option maxRecDepth 100000 in
theorem c_X1_init (l : Launch) (G : GG) (M : HM) (h0 r0 : Nat) (a0 a1 a2 a3 a4 a5 : Int32) (p0 : Int32) (p1 : Int32) (p2 : Int32) (p3 : Int32) (p4 : Int32) (p5 : Int32) (ha_h0 : M h0 = some (r0, (.inr (2, [.int a0, .int a1, .int a2, .int a3, .int a4, .int a5])))) : Mv l yX1_init (.code yX1_init cX1_init 7 none :: AL) 1 20 0 0 [.ref h0, .int p0, .int p1, .int p2, .int p3, .int p4, .int p5] G M (fun M' => M' = (hu M h0 r0 (.inr (2, [.int p0, .int p1, .int p2, .int p3, .int p4, .int p5])))) := by
  refine Mv.go (by decide) (Nat.le_of_ble_eq_true rfl) ?_
  intro p e s m below meth c ls hx hb hr hml hown hlocks hname hts hK hM hl
  have hown : s.vm.findClass RX1 = some m.cls := hown
  have hl : lv_has ls 7 [(0, .ref h0), (1, .int p0), (2, .int p1), (3, .int p2), (4, .int p3), (5, .int p4), (6, .int p5)] := hl
  refine lv_aload_n hx hb dX1_init_0 rfl (lv_at hl 0 rfl) ?_
  refine W.objInit hx hb hown (hts _ wm_X1_1) (hts _ wi_objinit) (hts _ wc_objinit) rfl (hl.1.trans hml.symm) rfl dX1_init_1 (Nat.le_of_ble_eq_true rfl) (Nat.le_of_ble_eq_true rfl) ?_
  refine W.eq (g2 := F0 m 4 ls []) rfl ?_
  refine lv_aload_n hx hb dX1_init_4 rfl (lv_at hl 0 rfl) ?_
  refine lv_iload_n hx hb dX1_init_5 rfl (lv_at hl 1 rfl) ?_
  refine fp_X1_7 hx hb hts hown hK hM ha_h0 dX1_init_6 (fun H locs hM => ?_)
  refine lv_aload_n hx hb dX1_init_9 rfl (lv_at hl 0 rfl) ?_
  refine lv_iload_n hx hb dX1_init_10 rfl (lv_at hl 2 rfl) ?_
  refine fp_X1_13 hx hb hts hown hK hM hu_s dX1_init_11 (fun H locs hM => ?_)
  replace hM := hM.eq (hu_u _ _ _ _ _ _)
  refine lv_aload_n hx hb dX1_init_14 rfl (lv_at hl 0 rfl) ?_
  refine lv_iload_n hx hb dX1_init_15 rfl (lv_at hl 3 rfl) ?_
  refine fp_X1_16 hx hb hts hown hK hM hu_s dX1_init_16 (fun H locs hM => ?_)
  replace hM := hM.eq (hu_u _ _ _ _ _ _)
  refine lv_aload_n hx hb dX1_init_19 rfl (lv_at hl 0 rfl) ?_
  refine lv_iload hx hb dX1_init_20 (lv_at hl 4 rfl) ?_
  refine fp_X1_19 hx hb hts hown hK hM hu_s dX1_init_22 (fun H locs hM => ?_)
  replace hM := hM.eq (hu_u _ _ _ _ _ _)
  refine lv_aload_n hx hb dX1_init_25 rfl (lv_at hl 0 rfl) ?_
  refine lv_iload hx hb dX1_init_26 (lv_at hl 5 rfl) ?_
  refine fp_X1_22 hx hb hts hown hK hM hu_s dX1_init_28 (fun H locs hM => ?_)
  replace hM := hM.eq (hu_u _ _ _ _ _ _)
  refine lv_aload_n hx hb dX1_init_31 rfl (lv_at hl 0 rfl) ?_
  refine lv_iload hx hb dX1_init_32 (lv_at hl 6 rfl) ?_
  refine fp_X1_25 hx hb hts hown hK hM hu_s dX1_init_34 (fun H locs hM => ?_)
  replace hM := hM.eq (hu_u _ _ _ _ _ _)
  exact g_vret hx hb hr hlocks hM (Nat.zero_le _) (Nat.zero_le _) rfl dX1_init_37
set_option maxHeartbeats 4000000 in
set_option maxRecDepth 100000 in
theorem c_X1_copyFrom (l : Launch) (G : GG) (M : HM) (h0 r0 : Nat) (h1 r1 : Nat) (a0 a1 a2 a3 a4 a5 : Int32) (b0 b1 b2 b3 b4 b5 : Int32) (ha_h0 : M h0 = some (r0, (.inr (2, [.int a0, .int a1, .int a2, .int a3, .int a4, .int a5])))) (ha_h1 : M h1 = some (r1, (.inr (2, [.int b0, .int b1, .int b2, .int b3, .int b4, .int b5])))) (ne_h0_h1 : h0 ≠ h1) : Mv l yX1_copyFrom (.code yX1_copyFrom cX1_copyFrom 2 none :: AL) 0 0 0 0 [.ref h0, .ref h1] G M (fun M' => M' = (hu M h0 r0 (.inr (2, [.int b0, .int b1, .int b2, .int b3, .int b4, .int b5])))) := by
  refine Mv.go (by decide) (Nat.le_of_ble_eq_true rfl) ?_
  intro p e s m below meth c ls hx hb hr hml hown hlocks hname hts hK hM hl
  have hown : s.vm.findClass RX1 = some m.cls := hown
  have hl : lv_has ls 2 [(0, .ref h0), (1, .ref h1)] := hl
  have ne_h1_h0 : h1 ≠ h0 := Ne.symm ne_h0_h1
  refine lv_aload_n hx hb dX1_copyFrom_0 rfl (lv_at hl 0 rfl) ?_
  refine lv_aload_n hx hb dX1_copyFrom_1 rfl (lv_at hl 1 rfl) ?_
  refine fg_X1_7 hx hb hts hown hK hM ha_h1 dX1_copyFrom_2 ?_
  refine fp_X1_7 hx hb hts hown hK hM ha_h0 dX1_copyFrom_5 (fun H locs hM => ?_)
  refine lv_aload_n hx hb dX1_copyFrom_8 rfl (lv_at hl 0 rfl) ?_
  refine lv_aload_n hx hb dX1_copyFrom_9 rfl (lv_at hl 1 rfl) ?_
  refine fg_X1_13 hx hb hts hown hK hM (hu_n ne_h1_h0 ha_h1) dX1_copyFrom_10 ?_
  refine fp_X1_13 hx hb hts hown hK hM hu_s dX1_copyFrom_13 (fun H locs hM => ?_)
  replace hM := hM.eq (hu_u _ _ _ _ _ _)
  refine lv_aload_n hx hb dX1_copyFrom_16 rfl (lv_at hl 0 rfl) ?_
  refine lv_aload_n hx hb dX1_copyFrom_17 rfl (lv_at hl 1 rfl) ?_
  refine fg_X1_16 hx hb hts hown hK hM (hu_n ne_h1_h0 ha_h1) dX1_copyFrom_18 ?_
  refine fp_X1_16 hx hb hts hown hK hM hu_s dX1_copyFrom_21 (fun H locs hM => ?_)
  replace hM := hM.eq (hu_u _ _ _ _ _ _)
  refine lv_aload_n hx hb dX1_copyFrom_24 rfl (lv_at hl 0 rfl) ?_
  refine lv_aload_n hx hb dX1_copyFrom_25 rfl (lv_at hl 1 rfl) ?_
  refine fg_X1_19 hx hb hts hown hK hM (hu_n ne_h1_h0 ha_h1) dX1_copyFrom_26 ?_
  refine fp_X1_19 hx hb hts hown hK hM hu_s dX1_copyFrom_29 (fun H locs hM => ?_)
  replace hM := hM.eq (hu_u _ _ _ _ _ _)
  refine lv_aload_n hx hb dX1_copyFrom_32 rfl (lv_at hl 0 rfl) ?_
  refine lv_aload_n hx hb dX1_copyFrom_33 rfl (lv_at hl 1 rfl) ?_
  refine fg_X1_22 hx hb hts hown hK hM (hu_n ne_h1_h0 ha_h1) dX1_copyFrom_34 ?_
  refine fp_X1_22 hx hb hts hown hK hM hu_s dX1_copyFrom_37 (fun H locs hM => ?_)
  replace hM := hM.eq (hu_u _ _ _ _ _ _)
  refine lv_aload_n hx hb dX1_copyFrom_40 rfl (lv_at hl 0 rfl) ?_
  refine lv_aload_n hx hb dX1_copyFrom_41 rfl (lv_at hl 1 rfl) ?_
  refine fg_X1_25 hx hb hts hown hK hM (hu_n ne_h1_h0 ha_h1) dX1_copyFrom_42 ?_
  refine fp_X1_25 hx hb hts hown hK hM hu_s dX1_copyFrom_45 (fun H locs hM => ?_)
  replace hM := hM.eq (hu_u _ _ _ _ _ _)
  exact g_vret hx hb hr hlocks hM (Nat.zero_le _) (Nat.zero_le _) rfl dX1_copyFrom_48

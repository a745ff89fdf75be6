def t_X0_holdsAnother_0 (a3 a4 a9 : Int32) : Int32 := if a3 ≤ 0 then (0 : Int32) else (if a4 = a9 then (0 : Int32) else (1 : Int32))
theorem t_X0_holdsAnother_0_01 {a3 a4 a9 : Int32} : (t_X0_holdsAnother_0 a3 a4 a9) = 0 ∨ (t_X0_holdsAnother_0 a3 a4 a9) = 1 := by unfold t_X0_holdsAnother_0; (repeat' split) <;> first | exact Or.inl rfl | exact Or.inr rfl | assumption
set_option maxHeartbeats 4000000 in
set_option maxRecDepth 100000 in
theorem c_X0_holdsAnother (l : Launch) (G : GG) (M : HM) (h0 r0 : Nat) (a0 a1 a2 a3 a4 a5 a6 a7 a8 a9 a10 a11 : Int32) (ha_h0 : M h0 = some (r0, (.inr (1, [.int a0, .int a1, .int a2, .int a3, .int a4, .int a5, .int a6, .int a7, .int a8, .int a9, .int a10, .int a11])))) : Mi l yX0_holdsAnother (.code yX0_holdsAnother cX0_holdsAnother 1 (some .boolean) :: AL) 0 0 0 0 [.ref h0] G M (fun r M' => r = (t_X0_holdsAnother_0 a3 a4 a9) ∧ M' = M) := by
  refine Mi.go (by decide) (Nat.le_of_ble_eq_true rfl) ?_
  intro p e s m below meth c ls hx hb hr hml hown hlocks hname hts hK hM hl
  have hown : s.vm.findClass RX0 = some m.cls := hown
  have hl : lv_has ls 1 [(0, .ref h0)] := hl
  refine lv_aload_n hx hb dX0_holdsAnother_0 rfl (lv_at hl 0 rfl) ?_
  refine fg_X0_27 hx hb hts hown hK hM ha_h0 dX0_holdsAnother_1 ?_
  refine lv_if_le (tgt := 22) hx hb dX0_holdsAnother_4 (by decide) (fun c1 => ?_) (fun c1 => ?_)
  · refine lv_iconst (v := (0 : Int32)) hx hb dX0_holdsAnother_22 (by decide) ?_
    exact g_zret hx hb hr hlocks hM (Nat.zero_le _) (Nat.zero_le _) (nz01 (Or.inl rfl)) ⟨(show (0 : Int32) = (t_X0_holdsAnother_0 a3 a4 a9) from Eq.symm (by unfold t_X0_holdsAnother_0; rw [if_pos c1])), rfl⟩ dX0_holdsAnother_23
  · refine lv_aload_n hx hb dX0_holdsAnother_7 rfl (lv_at hl 0 rfl) ?_
    refine fg_X0_9 hx hb hts hown hK hM ha_h0 dX0_holdsAnother_8 ?_
    refine lv_aload_n hx hb dX0_holdsAnother_11 rfl (lv_at hl 0 rfl) ?_
    refine fg_X0_15 hx hb hts hown hK hM ha_h0 dX0_holdsAnother_12 ?_
    refine lv_icmp_eq (tgt := 22) hx hb dX0_holdsAnother_15 (by decide) (fun c2 => ?_) (fun c2 => ?_)
    · refine lv_iconst (v := (0 : Int32)) hx hb dX0_holdsAnother_22 (by decide) ?_
      exact g_zret hx hb hr hlocks hM (Nat.zero_le _) (Nat.zero_le _) (nz01 (Or.inl rfl)) ⟨(show (0 : Int32) = (t_X0_holdsAnother_0 a3 a4 a9) from Eq.symm (by unfold t_X0_holdsAnother_0; rw [if_neg c1, if_pos c2])), rfl⟩ dX0_holdsAnother_23
    · refine lv_iconst (v := (1 : Int32)) hx hb dX0_holdsAnother_18 (by decide) ?_
      refine lv_goto (tgt := 23) hx hb dX0_holdsAnother_19 (by decide) ?_
      exact g_zret hx hb hr hlocks hM (Nat.zero_le _) (Nat.zero_le _) (nz01 (Or.inr rfl)) ⟨(show (1 : Int32) = (t_X0_holdsAnother_0 a3 a4 a9) from Eq.symm (by unfold t_X0_holdsAnother_0; rw [if_neg c1, if_neg c2])), rfl⟩ dX0_holdsAnother_23
def t_X0_metered_0 (a0 a6 p0 : Int32) : Int32 := ((p0 * ((100 : Int32) + ((((3 : Int32) * a0) + (a6 / (20 : Int32))) - (4 : Int32)))) / (100 : Int32))
set_option maxHeartbeats 4000000 in
set_option maxRecDepth 100000 in
theorem c_X0_metered (l : Launch) (G : GG) (M : HM) (h0 r0 : Nat) (a0 a1 a2 a3 a4 a5 a6 a7 a8 a9 a10 a11 : Int32) (p0 : Int32) (ha_h0 : M h0 = some (r0, (.inr (1, [.int a0, .int a1, .int a2, .int a3, .int a4, .int a5, .int a6, .int a7, .int a8, .int a9, .int a10, .int a11])))) : Mi l yX0_metered (.code yX0_metered cX0_metered 3 (some .int) :: AL) 0 0 0 0 [.ref h0, .int p0] G M (fun r M' => r = (t_X0_metered_0 a0 a6 p0) ∧ M' = M) := by
  refine Mi.go (by decide) (Nat.le_of_ble_eq_true rfl) ?_
  intro p e s m below meth c ls hx hb hr hml hown hlocks hname hts hK hM hl
  have hown : s.vm.findClass RX0 = some m.cls := hown
  have hl : lv_has ls 3 [(0, .ref h0), (1, .int p0)] := hl
  refine lv_iconst (v := (3 : Int32)) hx hb dX0_metered_0 (by decide) ?_
  refine lv_aload_n hx hb dX0_metered_1 rfl (lv_at hl 0 rfl) ?_
  refine fg_X0_18 hx hb hts hown hK hM ha_h0 dX0_metered_2 ?_
  refine lv_imul hx hb dX0_metered_5 ?_
  refine lv_aload_n hx hb dX0_metered_6 rfl (lv_at hl 0 rfl) ?_
  refine fg_X0_33 hx hb hts hown hK hM ha_h0 dX0_metered_7 ?_
  refine lv_bipush (v := (20 : Int32)) hx hb dX0_metered_10 (by decide) ?_
  refine lv_idiv hx hb dX0_metered_12 (by decide) ?_
  refine lv_iadd hx hb dX0_metered_13 ?_
  refine lv_iconst (v := (4 : Int32)) hx hb dX0_metered_14 (by decide) ?_
  refine lv_isub hx hb dX0_metered_15 ?_
  refine lv_istore_n (lv' := [(2, .int ((((3 : Int32) * a0) + (a6 / (20 : Int32))) - (4 : Int32))), (0, .ref h0), (1, .int p0)]) hx hb dX0_metered_16 rfl hl (by decide) rfl (fun ls hl => ?_)
  refine lv_iload_n hx hb dX0_metered_17 rfl (lv_at hl 2 rfl) ?_
  refine lv_bipush (v := (100 : Int32)) hx hb dX0_metered_18 (by decide) ?_
  refine lv_iload_n hx hb dX0_metered_20 rfl (lv_at hl 0 rfl) ?_
  refine lv_iadd hx hb dX0_metered_21 ?_
  refine lv_imul hx hb dX0_metered_22 ?_
  refine lv_bipush (v := (100 : Int32)) hx hb dX0_metered_23 (by decide) ?_
  refine lv_idiv hx hb dX0_metered_25 (by decide) ?_
  exact g_iret hx hb hr hlocks hM (Nat.zero_le _) (Nat.zero_le _) ⟨rfl, rfl⟩ dX0_metered_26
def t_X0_acresAtOnce_0 (a2 a3 b2 b3 b5 b8 : Int32) : Int32 := if (t_X2_brings_0 b3 b8) ≤ 0 then (mn a2 (t_X2_uncut_0 b2 b5)) else (mn (mn a2 (t_X2_uncut_0 b2 b5)) (((400 : Int32) - a3) / (t_X2_brings_0 b3 b8)))
set_option maxHeartbeats 4000000 in
set_option maxRecDepth 100000 in
theorem c_X0_acresAtOnce (l : Launch) (G : GG) (M : HM) (h0 r0 : Nat) (h1 r1 : Nat) (a0 a1 a2 a3 a4 a5 a6 a7 a8 a9 a10 a11 : Int32) (b0 b1 b2 b3 b4 b5 b6 b7 b8 b9 b10 b11 b12 : Int32) (ha_h0 : M h0 = some (r0, (.inr (1, [.int a0, .int a1, .int a2, .int a3, .int a4, .int a5, .int a6, .int a7, .int a8, .int a9, .int a10, .int a11])))) (ha_h1 : M h1 = some (r1, (.inr (3, [.int b0, .int b1, .int b2, .int b3, .int b4, .int b5, .int b6, .int b7, .int b8, .int b9, .int b10, .int b11, .int b12])))) (ne_h0_h1 : h0 ≠ h1) : Mi l yX0_acresAtOnce (.code yX0_acresAtOnce cX0_acresAtOnce 4 (some .int) :: AL) 1 21 0 0 [.ref h0, .ref h1] G M (fun r M' => r = (t_X0_acresAtOnce_0 a2 a3 b2 b3 b5 b8) ∧ M' = M) := by
  refine Mi.go (by decide) (Nat.le_of_ble_eq_true rfl) ?_
  intro p e s m below meth c ls hx hb hr hml hown hlocks hname hts hK hM hl
  have hown : s.vm.findClass RX0 = some m.cls := hown
  have hl : lv_has ls 4 [(0, .ref h0), (1, .ref h1)] := hl
  have ne_h1_h0 : h1 ≠ h0 := Ne.symm ne_h0_h1
  refine lv_aload_n hx hb dX0_acresAtOnce_0 rfl (lv_at hl 0 rfl) ?_
  refine fg_X0_24 hx hb hts hown hK hM ha_h0 dX0_acresAtOnce_1 ?_
  refine lv_aload_n hx hb dX0_acresAtOnce_4 rfl (lv_at hl 1 rfl) ?_
  refine g_callVi (n9 := 0) (As := []) (rest := [.int a2]) hx hb hml hl.1 hown hts hK hM (c_X2_uncut l G _ h1 r1 b0 b1 b2 b3 b4 b5 b6 b7 b8 b9 b10 b11 b12 ha_h1) wm_X0_72 wi_X2_uncut wl_X2_uncut wn_X2 wc_X2_uncut (by decide +kernel) (hM.recv hK (ci := 3) rfl ha_h1) ⟨Nat.le_of_ble_eq_true rfl, Nat.le_of_ble_eq_true rfl⟩ ⟨Nat.le_of_ble_eq_true rfl, Nat.le_of_ble_eq_true rfl⟩ rfl (Nat.le_of_ble_eq_true rfl) rfl dX0_acresAtOnce_5 (fun r_5 M1 H locs hq hM => ?_)
  have hq1 := hq.1.symm
  have hq2 := hq.2.symm
  subst hq1 hq2
  refine va_mmin hx hb (hml.trans hl.1.symm) hown (hts _ wm_X0_76) (hts _ wt_mmin) (hts _ wn_java_lang_Math) (hts _ wc_mmin) (Nat.le_of_ble_eq_true rfl) (Nat.le_of_ble_eq_true rfl) (Nat.zero_le _) (Nat.zero_le _) dX0_acresAtOnce_8 ?_
  refine lv_istore_n (lv' := [(2, .int (mn a2 (t_X2_uncut_0 b2 b5))), (0, .ref h0), (1, .ref h1)]) hx hb dX0_acresAtOnce_11 rfl hl (by decide) rfl (fun ls hl => ?_)
  refine lv_aload_n hx hb dX0_acresAtOnce_12 rfl (lv_at hl 2 rfl) ?_
  refine g_callVi (n9 := 0) (As := []) (rest := []) hx hb hml hl.1 hown hts hK hM (c_X2_brings l G _ h1 r1 b0 b1 b2 b3 b4 b5 b6 b7 b8 b9 b10 b11 b12 ha_h1) wm_X0_82 wi_X2_brings wl_X2_brings wn_X2 wc_X2_brings (by decide +kernel) (hM.recv hK (ci := 3) rfl ha_h1) ⟨Nat.le_of_ble_eq_true rfl, Nat.le_of_ble_eq_true rfl⟩ ⟨Nat.le_of_ble_eq_true rfl, Nat.le_of_ble_eq_true rfl⟩ rfl (Nat.le_of_ble_eq_true rfl) rfl dX0_acresAtOnce_13 (fun r_13 M1 H locs hq hM => ?_)
  have hq1 := hq.1.symm
  have hq2 := hq.2.symm
  subst hq1 hq2
  refine lv_istore_n (lv' := [(3, .int (t_X2_brings_0 b3 b8)), (2, .int (mn a2 (t_X2_uncut_0 b2 b5))), (0, .ref h0), (1, .ref h1)]) hx hb dX0_acresAtOnce_16 rfl hl (by decide) rfl (fun ls hl => ?_)
  refine lv_iload_n hx hb dX0_acresAtOnce_17 rfl (lv_at hl 0 rfl) ?_
  refine lv_if_le (tgt := 38) hx hb dX0_acresAtOnce_18 (by decide) (fun c1 => ?_) (fun c1 => ?_)
  · refine lv_iload_n hx hb dX0_acresAtOnce_38 rfl (lv_at hl 1 rfl) ?_
    exact g_iret hx hb hr hlocks hM (Nat.zero_le _) (Nat.zero_le _) ⟨(show (mn a2 (t_X2_uncut_0 b2 b5)) = (t_X0_acresAtOnce_0 a2 a3 b2 b3 b5 b8) from Eq.symm (by unfold t_X0_acresAtOnce_0; rw [if_pos c1])), rfl⟩ dX0_acresAtOnce_39
  · refine lv_iload_n hx hb dX0_acresAtOnce_21 rfl (lv_at hl 1 rfl) ?_
    refine lv_sipush (v := (400 : Int32)) hx hb dX0_acresAtOnce_22 (by decide) ?_
    refine lv_aload_n hx hb dX0_acresAtOnce_25 rfl (lv_at hl 2 rfl) ?_
    refine fg_X0_27 hx hb hts hown hK hM ha_h0 dX0_acresAtOnce_26 ?_
    refine lv_isub hx hb dX0_acresAtOnce_29 ?_
    refine lv_iload_n hx hb dX0_acresAtOnce_30 rfl (lv_at hl 0 rfl) ?_
    refine lv_idiv hx hb dX0_acresAtOnce_31 (nle_ne c1) ?_
    refine va_mmin hx hb (hml.trans hl.1.symm) hown (hts _ wm_X0_76) (hts _ wt_mmin) (hts _ wn_java_lang_Math) (hts _ wc_mmin) (Nat.le_of_ble_eq_true rfl) (Nat.le_of_ble_eq_true rfl) (Nat.zero_le _) (Nat.zero_le _) dX0_acresAtOnce_32 ?_
    refine lv_goto (tgt := 39) hx hb dX0_acresAtOnce_35 (by decide) ?_
    exact g_iret hx hb hr hlocks hM (Nat.zero_le _) (Nat.zero_le _) ⟨(show (mn (mn a2 (t_X2_uncut_0 b2 b5)) (((400 : Int32) - a3) / (t_X2_brings_0 b3 b8))) = (t_X0_acresAtOnce_0 a2 a3 b2 b3 b5 b8) from Eq.symm (by unfold t_X0_acresAtOnce_0; rw [if_neg c1])), rfl⟩ dX0_acresAtOnce_39
def t_X0_harvest_0 (a3 b3 b8 p0 : Int32) : Int32 := if (p0 * (t_X2_brings_0 b3 b8)) ≤ 0 then a3 else (a3 + (p0 * (t_X2_brings_0 b3 b8)))
def t_X0_harvest_1 (a4 a9 b3 b8 p0 : Int32) : Int32 := if (p0 * (t_X2_brings_0 b3 b8)) ≤ 0 then a4 else a9
def t_X0_harvest_2 (a3 a5 b3 b7 b8 p0 : Int32) : Int32 := if (p0 * (t_X2_brings_0 b3 b8)) ≤ 0 then a5 else (if a3 ≤ 0 then b7 else (mx a5 b7))
def t_X0_harvest_3 (a6 p0 : Int32) : Int32 := if (a6 + p0) < (100 : Int32) then (0 : Int32) else (1 : Int32)
set_option maxHeartbeats 4000000 in
set_option maxRecDepth 100000 in
theorem c_X0_harvest (l : Launch) (G : GG) (M : HM) (h0 r0 : Nat) (h1 r1 : Nat) (a0 a1 a2 a3 a4 a5 a6 a7 a8 a9 a10 a11 : Int32) (b0 b1 b2 b3 b4 b5 b6 b7 b8 b9 b10 b11 b12 : Int32) (p0 : Int32) (ha_h0 : M h0 = some (r0, (.inr (1, [.int a0, .int a1, .int a2, .int a3, .int a4, .int a5, .int a6, .int a7, .int a8, .int a9, .int a10, .int a11])))) (ha_h1 : M h1 = some (r1, (.inr (3, [.int b0, .int b1, .int b2, .int b3, .int b4, .int b5, .int b6, .int b7, .int b8, .int b9, .int b10, .int b11, .int b12])))) (ne_h0_h1 : h0 ≠ h1) : Mv l yX0_harvest (.code yX0_harvest cX0_harvest 4 none :: AL) 1 22 0 0 [.ref h0, .ref h1, .int p0] G M (fun M' => M' = (hu (hu M h1 r1 (.inr (3, [.int b0, .int b1, .int b2, .int b3, .int b4, .int (b5 + p0), .int b6, .int b7, .int b8, .int (b9 + (t_X0_metered_0 a0 a6 (p0 * (t_X2_brings_0 b3 b8)))), .int b10, .int b11, .int b12]))) h0 r0 (.inr (1, [.int a0, .int a1, .int a2, .int (t_X0_harvest_0 a3 b3 b8 p0), .int (t_X0_harvest_1 a4 a9 b3 b8 p0), .int (t_X0_harvest_2 a3 a5 b3 b7 b8 p0), .int (a6 + p0), .int (t_X0_harvest_3 a6 p0), .int a8, .int a9, .int (a10 + p0), .int (a11 + (p0 * (t_X2_brings_0 b3 b8)))])))) := by
  refine Mv.go (by decide) (Nat.le_of_ble_eq_true rfl) ?_
  intro p e s m below meth c ls hx hb hr hml hown hlocks hname hts hK hM hl
  have hown : s.vm.findClass RX0 = some m.cls := hown
  have hl : lv_has ls 4 [(0, .ref h0), (1, .ref h1), (2, .int p0)] := hl
  have ne_h1_h0 : h1 ≠ h0 := Ne.symm ne_h0_h1
  refine lv_iload_n hx hb dX0_harvest_0 rfl (lv_at hl 2 rfl) ?_
  refine lv_aload_n hx hb dX0_harvest_1 rfl (lv_at hl 1 rfl) ?_
  refine g_callVi (n9 := 0) (As := []) (rest := [.int p0]) hx hb hml hl.1 hown hts hK hM (c_X2_brings l G _ h1 r1 b0 b1 b2 b3 b4 b5 b6 b7 b8 b9 b10 b11 b12 ha_h1) wm_X0_82 wi_X2_brings wl_X2_brings wn_X2 wc_X2_brings (by decide +kernel) (hM.recv hK (ci := 3) rfl ha_h1) ⟨Nat.le_of_ble_eq_true rfl, Nat.le_of_ble_eq_true rfl⟩ ⟨Nat.le_of_ble_eq_true rfl, Nat.le_of_ble_eq_true rfl⟩ rfl (Nat.le_of_ble_eq_true rfl) rfl dX0_harvest_2 (fun r_2 M1 H locs hq hM => ?_)
  have hq1 := hq.1.symm
  have hq2 := hq.2.symm
  subst hq1 hq2
  refine lv_imul hx hb dX0_harvest_5 ?_
  refine lv_istore_n (lv' := [(3, .int (p0 * (t_X2_brings_0 b3 b8))), (0, .ref h0), (1, .ref h1), (2, .int p0)]) hx hb dX0_harvest_6 rfl hl (by decide) rfl (fun ls hl => ?_)
  refine lv_aload_n hx hb dX0_harvest_7 rfl (lv_at hl 2 rfl) ?_
  refine lv_dup hx hb dX0_harvest_8 rfl ?_
  refine fg_X0_85 hx hb hts hown hK hM ha_h1 dX0_harvest_9 ?_
  refine lv_iload_n hx hb dX0_harvest_12 rfl (lv_at hl 3 rfl) ?_
  refine lv_iadd hx hb dX0_harvest_13 ?_
  refine fp_X0_85 hx hb hts hown hK hM ha_h1 dX0_harvest_14 (fun H locs hM => ?_)
  refine lv_aload_n hx hb dX0_harvest_17 rfl (lv_at hl 2 rfl) ?_
  refine lv_dup hx hb dX0_harvest_18 rfl ?_
  refine fg_X0_86 hx hb hts hown hK hM hu_s dX0_harvest_19 ?_
  refine lv_aload_n hx hb dX0_harvest_22 rfl (lv_at hl 1 rfl) ?_
  refine lv_iload_n hx hb dX0_harvest_23 rfl (lv_at hl 0 rfl) ?_
  refine g_callVi (n9 := 1) (As := [.int (p0 * (t_X2_brings_0 b3 b8))]) (rest := [.int b9, .ref h1]) hx hb hml hl.1 hown hts hK hM (c_X0_metered l G _ h0 r0 a0 a1 a2 a3 a4 a5 a6 a7 a8 a9 a10 a11 (p0 * (t_X2_brings_0 b3 b8)) (hu_n ne_h0_h1 ha_h0)) wm_X0_89 wi_X0_metered wl_X0_metered wn_X0 wc_X0_metered (by decide +kernel) (hM.recv hK (ci := 1) rfl (hu_n ne_h0_h1 ha_h0)) ⟨Nat.le_of_ble_eq_true rfl, Nat.le_of_ble_eq_true rfl⟩ ⟨Nat.le_of_ble_eq_true rfl, Nat.le_of_ble_eq_true rfl⟩ rfl (Nat.le_of_ble_eq_true rfl) rfl dX0_harvest_24 (fun r_24 M1 H locs hq hM => ?_)
  have hq1 := hq.1.symm
  have hq2 := hq.2.symm
  subst hq1 hq2
  refine lv_iadd hx hb dX0_harvest_27 ?_
  refine fp_X0_86 hx hb hts hown hK hM hu_s dX0_harvest_28 (fun H locs hM => ?_)
  replace hM := hM.eq (hu_u _ _ _ _ _ _)
  refine lv_iload_n hx hb dX0_harvest_31 rfl (lv_at hl 0 rfl) ?_
  refine lv_if_le (tgt := 82) hx hb dX0_harvest_32 (by decide) (fun c1 => ?_) (fun c1 => ?_)
  · refine lv_aload_n hx hb dX0_harvest_82 rfl (lv_at hl 1 rfl) ?_
    refine lv_dup hx hb dX0_harvest_83 rfl ?_
    refine fg_X0_43 hx hb hts hown hK hM (hu_n ne_h0_h1 ha_h0) dX0_harvest_84 ?_
    refine lv_iload_n hx hb dX0_harvest_87 rfl (lv_at hl 3 rfl) ?_
    refine lv_iadd hx hb dX0_harvest_88 ?_
    refine fp_X0_43 hx hb hts hown hK hM (hu_n ne_h0_h1 ha_h0) dX0_harvest_89 (fun H locs hM => ?_)
    refine lv_aload_n hx hb dX0_harvest_92 rfl (lv_at hl 1 rfl) ?_
    refine lv_dup hx hb dX0_harvest_93 rfl ?_
    refine fg_X0_46 hx hb hts hown hK hM hu_s dX0_harvest_94 ?_
    refine lv_iload_n hx hb dX0_harvest_97 rfl (lv_at hl 0 rfl) ?_
    refine lv_iadd hx hb dX0_harvest_98 ?_
    refine fp_X0_46 hx hb hts hown hK hM hu_s dX0_harvest_99 (fun H locs hM => ?_)
    replace hM := hM.eq (hu_u _ _ _ _ _ _)
    refine lv_aload_n hx hb dX0_harvest_102 rfl (lv_at hl 1 rfl) ?_
    refine lv_dup hx hb dX0_harvest_103 rfl ?_
    refine fg_X0_33 hx hb hts hown hK hM hu_s dX0_harvest_104 ?_
    refine lv_iload_n hx hb dX0_harvest_107 rfl (lv_at hl 3 rfl) ?_
    refine lv_iadd hx hb dX0_harvest_108 ?_
    refine fp_X0_33 hx hb hts hown hK hM hu_s dX0_harvest_109 (fun H locs hM => ?_)
    replace hM := hM.eq (hu_u _ _ _ _ _ _)
    refine lv_aload_n hx hb dX0_harvest_112 rfl (lv_at hl 1 rfl) ?_
    refine lv_aload_n hx hb dX0_harvest_113 rfl (lv_at hl 1 rfl) ?_
    refine fg_X0_33 hx hb hts hown hK hM hu_s dX0_harvest_114 ?_
    refine lv_bipush (v := (100 : Int32)) hx hb dX0_harvest_117 (by decide) ?_
    refine lv_icmp_lt (tgt := 126) hx hb dX0_harvest_119 (by decide) (fun c2 => ?_) (fun c2 => ?_)
    · refine lv_iconst (v := (0 : Int32)) hx hb dX0_harvest_126 (by decide) ?_
      refine fp_X0_36 hx hb hts hown hK hM (Or.inl rfl) hu_s dX0_harvest_127 (fun H locs hM => ?_)
      replace hM := hM.eq (hu_u _ _ _ _ _ _)
      have e_t_X0_harvest_0 : (t_X0_harvest_0 a3 b3 b8 p0) = a3 := by unfold t_X0_harvest_0; rw [if_pos c1]
      have e_t_X0_harvest_1 : (t_X0_harvest_1 a4 a9 b3 b8 p0) = a4 := by unfold t_X0_harvest_1; rw [if_pos c1]
      have e_t_X0_harvest_2 : (t_X0_harvest_2 a3 a5 b3 b7 b8 p0) = a5 := by unfold t_X0_harvest_2; rw [if_pos c1]
      have e_t_X0_harvest_3 : (t_X0_harvest_3 a6 p0) = (0 : Int32) := by unfold t_X0_harvest_3; rw [if_pos c2]
      exact g_vret hx hb hr hlocks hM (Nat.zero_le _) (Nat.zero_le _) (by rw [e_t_X0_harvest_0, e_t_X0_harvest_1, e_t_X0_harvest_2, e_t_X0_harvest_3]) dX0_harvest_130
    · refine lv_iconst (v := (1 : Int32)) hx hb dX0_harvest_122 (by decide) ?_
      refine lv_goto (tgt := 127) hx hb dX0_harvest_123 (by decide) ?_
      refine fp_X0_36 hx hb hts hown hK hM (Or.inr rfl) hu_s dX0_harvest_127 (fun H locs hM => ?_)
      replace hM := hM.eq (hu_u _ _ _ _ _ _)
      have e_t_X0_harvest_0 : (t_X0_harvest_0 a3 b3 b8 p0) = a3 := by unfold t_X0_harvest_0; rw [if_pos c1]
      have e_t_X0_harvest_1 : (t_X0_harvest_1 a4 a9 b3 b8 p0) = a4 := by unfold t_X0_harvest_1; rw [if_pos c1]
      have e_t_X0_harvest_2 : (t_X0_harvest_2 a3 a5 b3 b7 b8 p0) = a5 := by unfold t_X0_harvest_2; rw [if_pos c1]
      have e_t_X0_harvest_3 : (t_X0_harvest_3 a6 p0) = (1 : Int32) := by unfold t_X0_harvest_3; rw [if_neg c2]
      exact g_vret hx hb hr hlocks hM (Nat.zero_le _) (Nat.zero_le _) (by rw [e_t_X0_harvest_0, e_t_X0_harvest_1, e_t_X0_harvest_2, e_t_X0_harvest_3]) dX0_harvest_130
  · refine lv_aload_n hx hb dX0_harvest_35 rfl (lv_at hl 1 rfl) ?_
    refine lv_aload_n hx hb dX0_harvest_36 rfl (lv_at hl 1 rfl) ?_
    refine fg_X0_27 hx hb hts hown hK hM (hu_n ne_h0_h1 ha_h0) dX0_harvest_37 ?_
    refine lv_if_le (tgt := 57) hx hb dX0_harvest_40 (by decide) (fun c3 => ?_) (fun c3 => ?_)
    · refine lv_aload_n hx hb dX0_harvest_57 rfl (lv_at hl 2 rfl) ?_
      refine fg_X0_93 hx hb hts hown hK hM hu_s dX0_harvest_58 ?_
      refine fp_X0_30 hx hb hts hown hK hM (hu_n ne_h0_h1 ha_h0) dX0_harvest_61 (fun H locs hM => ?_)
      refine lv_aload_n hx hb dX0_harvest_64 rfl (lv_at hl 1 rfl) ?_
      refine lv_aload_n hx hb dX0_harvest_65 rfl (lv_at hl 1 rfl) ?_
      refine fg_X0_15 hx hb hts hown hK hM hu_s dX0_harvest_66 ?_
      refine fp_X0_9 hx hb hts hown hK hM hu_s dX0_harvest_69 (fun H locs hM => ?_)
      replace hM := hM.eq (hu_u _ _ _ _ _ _)
      refine lv_aload_n hx hb dX0_harvest_72 rfl (lv_at hl 1 rfl) ?_
      refine lv_dup hx hb dX0_harvest_73 rfl ?_
      refine fg_X0_27 hx hb hts hown hK hM hu_s dX0_harvest_74 ?_
      refine lv_iload_n hx hb dX0_harvest_77 rfl (lv_at hl 0 rfl) ?_
      refine lv_iadd hx hb dX0_harvest_78 ?_
      refine fp_X0_27 hx hb hts hown hK hM hu_s dX0_harvest_79 (fun H locs hM => ?_)
      replace hM := hM.eq (hu_u _ _ _ _ _ _)
      refine lv_aload_n hx hb dX0_harvest_82 rfl (lv_at hl 1 rfl) ?_
      refine lv_dup hx hb dX0_harvest_83 rfl ?_
      refine fg_X0_43 hx hb hts hown hK hM hu_s dX0_harvest_84 ?_
      refine lv_iload_n hx hb dX0_harvest_87 rfl (lv_at hl 3 rfl) ?_
      refine lv_iadd hx hb dX0_harvest_88 ?_
      refine fp_X0_43 hx hb hts hown hK hM hu_s dX0_harvest_89 (fun H locs hM => ?_)
      replace hM := hM.eq (hu_u _ _ _ _ _ _)
      refine lv_aload_n hx hb dX0_harvest_92 rfl (lv_at hl 1 rfl) ?_
      refine lv_dup hx hb dX0_harvest_93 rfl ?_
      refine fg_X0_46 hx hb hts hown hK hM hu_s dX0_harvest_94 ?_
      refine lv_iload_n hx hb dX0_harvest_97 rfl (lv_at hl 0 rfl) ?_
      refine lv_iadd hx hb dX0_harvest_98 ?_
      refine fp_X0_46 hx hb hts hown hK hM hu_s dX0_harvest_99 (fun H locs hM => ?_)
      replace hM := hM.eq (hu_u _ _ _ _ _ _)
      refine lv_aload_n hx hb dX0_harvest_102 rfl (lv_at hl 1 rfl) ?_
      refine lv_dup hx hb dX0_harvest_103 rfl ?_
      refine fg_X0_33 hx hb hts hown hK hM hu_s dX0_harvest_104 ?_
      refine lv_iload_n hx hb dX0_harvest_107 rfl (lv_at hl 3 rfl) ?_
      refine lv_iadd hx hb dX0_harvest_108 ?_
      refine fp_X0_33 hx hb hts hown hK hM hu_s dX0_harvest_109 (fun H locs hM => ?_)
      replace hM := hM.eq (hu_u _ _ _ _ _ _)
      refine lv_aload_n hx hb dX0_harvest_112 rfl (lv_at hl 1 rfl) ?_
      refine lv_aload_n hx hb dX0_harvest_113 rfl (lv_at hl 1 rfl) ?_
      refine fg_X0_33 hx hb hts hown hK hM hu_s dX0_harvest_114 ?_
      refine lv_bipush (v := (100 : Int32)) hx hb dX0_harvest_117 (by decide) ?_
      refine lv_icmp_lt (tgt := 126) hx hb dX0_harvest_119 (by decide) (fun c4 => ?_) (fun c4 => ?_)
      · refine lv_iconst (v := (0 : Int32)) hx hb dX0_harvest_126 (by decide) ?_
        refine fp_X0_36 hx hb hts hown hK hM (Or.inl rfl) hu_s dX0_harvest_127 (fun H locs hM => ?_)
        replace hM := hM.eq (hu_u _ _ _ _ _ _)
        have e_t_X0_harvest_0 : (t_X0_harvest_0 a3 b3 b8 p0) = (a3 + (p0 * (t_X2_brings_0 b3 b8))) := by unfold t_X0_harvest_0; rw [if_neg c1]
        have e_t_X0_harvest_1 : (t_X0_harvest_1 a4 a9 b3 b8 p0) = a9 := by unfold t_X0_harvest_1; rw [if_neg c1]
        have e_t_X0_harvest_2 : (t_X0_harvest_2 a3 a5 b3 b7 b8 p0) = b7 := by unfold t_X0_harvest_2; rw [if_neg c1, if_pos c3]
        have e_t_X0_harvest_3 : (t_X0_harvest_3 a6 p0) = (0 : Int32) := by unfold t_X0_harvest_3; rw [if_pos c4]
        exact g_vret hx hb hr hlocks hM (Nat.zero_le _) (Nat.zero_le _) (by rw [e_t_X0_harvest_0, e_t_X0_harvest_1, e_t_X0_harvest_2, e_t_X0_harvest_3]) dX0_harvest_130
      · refine lv_iconst (v := (1 : Int32)) hx hb dX0_harvest_122 (by decide) ?_
        refine lv_goto (tgt := 127) hx hb dX0_harvest_123 (by decide) ?_
        refine fp_X0_36 hx hb hts hown hK hM (Or.inr rfl) hu_s dX0_harvest_127 (fun H locs hM => ?_)
        replace hM := hM.eq (hu_u _ _ _ _ _ _)
        have e_t_X0_harvest_0 : (t_X0_harvest_0 a3 b3 b8 p0) = (a3 + (p0 * (t_X2_brings_0 b3 b8))) := by unfold t_X0_harvest_0; rw [if_neg c1]
        have e_t_X0_harvest_1 : (t_X0_harvest_1 a4 a9 b3 b8 p0) = a9 := by unfold t_X0_harvest_1; rw [if_neg c1]
        have e_t_X0_harvest_2 : (t_X0_harvest_2 a3 a5 b3 b7 b8 p0) = b7 := by unfold t_X0_harvest_2; rw [if_neg c1, if_pos c3]
        have e_t_X0_harvest_3 : (t_X0_harvest_3 a6 p0) = (1 : Int32) := by unfold t_X0_harvest_3; rw [if_neg c4]
        exact g_vret hx hb hr hlocks hM (Nat.zero_le _) (Nat.zero_le _) (by rw [e_t_X0_harvest_0, e_t_X0_harvest_1, e_t_X0_harvest_2, e_t_X0_harvest_3]) dX0_harvest_130
    · refine lv_aload_n hx hb dX0_harvest_43 rfl (lv_at hl 1 rfl) ?_
      refine fg_X0_30 hx hb hts hown hK hM (hu_n ne_h0_h1 ha_h0) dX0_harvest_44 ?_
      refine lv_aload_n hx hb dX0_harvest_47 rfl (lv_at hl 2 rfl) ?_
      refine fg_X0_93 hx hb hts hown hK hM hu_s dX0_harvest_48 ?_
      refine va_mmax hx hb (hml.trans hl.1.symm) hown (hts _ wm_X0_96) (hts _ wt_mmax) (hts _ wn_java_lang_Math) (hts _ wc_mmax) (Nat.le_of_ble_eq_true rfl) (Nat.le_of_ble_eq_true rfl) (Nat.zero_le _) (Nat.zero_le _) dX0_harvest_51 ?_
      refine lv_goto (tgt := 61) hx hb dX0_harvest_54 (by decide) ?_
      refine fp_X0_30 hx hb hts hown hK hM (hu_n ne_h0_h1 ha_h0) dX0_harvest_61 (fun H locs hM => ?_)
      refine lv_aload_n hx hb dX0_harvest_64 rfl (lv_at hl 1 rfl) ?_
      refine lv_aload_n hx hb dX0_harvest_65 rfl (lv_at hl 1 rfl) ?_
      refine fg_X0_15 hx hb hts hown hK hM hu_s dX0_harvest_66 ?_
      refine fp_X0_9 hx hb hts hown hK hM hu_s dX0_harvest_69 (fun H locs hM => ?_)
      replace hM := hM.eq (hu_u _ _ _ _ _ _)
      refine lv_aload_n hx hb dX0_harvest_72 rfl (lv_at hl 1 rfl) ?_
      refine lv_dup hx hb dX0_harvest_73 rfl ?_
      refine fg_X0_27 hx hb hts hown hK hM hu_s dX0_harvest_74 ?_
      refine lv_iload_n hx hb dX0_harvest_77 rfl (lv_at hl 0 rfl) ?_
      refine lv_iadd hx hb dX0_harvest_78 ?_
      refine fp_X0_27 hx hb hts hown hK hM hu_s dX0_harvest_79 (fun H locs hM => ?_)
      replace hM := hM.eq (hu_u _ _ _ _ _ _)
      refine lv_aload_n hx hb dX0_harvest_82 rfl (lv_at hl 1 rfl) ?_
      refine lv_dup hx hb dX0_harvest_83 rfl ?_
      refine fg_X0_43 hx hb hts hown hK hM hu_s dX0_harvest_84 ?_
      refine lv_iload_n hx hb dX0_harvest_87 rfl (lv_at hl 3 rfl) ?_
      refine lv_iadd hx hb dX0_harvest_88 ?_
      refine fp_X0_43 hx hb hts hown hK hM hu_s dX0_harvest_89 (fun H locs hM => ?_)
      replace hM := hM.eq (hu_u _ _ _ _ _ _)
      refine lv_aload_n hx hb dX0_harvest_92 rfl (lv_at hl 1 rfl) ?_
      refine lv_dup hx hb dX0_harvest_93 rfl ?_
      refine fg_X0_46 hx hb hts hown hK hM hu_s dX0_harvest_94 ?_
      refine lv_iload_n hx hb dX0_harvest_97 rfl (lv_at hl 0 rfl) ?_
      refine lv_iadd hx hb dX0_harvest_98 ?_
      refine fp_X0_46 hx hb hts hown hK hM hu_s dX0_harvest_99 (fun H locs hM => ?_)
      replace hM := hM.eq (hu_u _ _ _ _ _ _)
      refine lv_aload_n hx hb dX0_harvest_102 rfl (lv_at hl 1 rfl) ?_
      refine lv_dup hx hb dX0_harvest_103 rfl ?_
      refine fg_X0_33 hx hb hts hown hK hM hu_s dX0_harvest_104 ?_
      refine lv_iload_n hx hb dX0_harvest_107 rfl (lv_at hl 3 rfl) ?_
      refine lv_iadd hx hb dX0_harvest_108 ?_
      refine fp_X0_33 hx hb hts hown hK hM hu_s dX0_harvest_109 (fun H locs hM => ?_)
      replace hM := hM.eq (hu_u _ _ _ _ _ _)
      refine lv_aload_n hx hb dX0_harvest_112 rfl (lv_at hl 1 rfl) ?_
      refine lv_aload_n hx hb dX0_harvest_113 rfl (lv_at hl 1 rfl) ?_
      refine fg_X0_33 hx hb hts hown hK hM hu_s dX0_harvest_114 ?_
      refine lv_bipush (v := (100 : Int32)) hx hb dX0_harvest_117 (by decide) ?_
      refine lv_icmp_lt (tgt := 126) hx hb dX0_harvest_119 (by decide) (fun c5 => ?_) (fun c5 => ?_)
      · refine lv_iconst (v := (0 : Int32)) hx hb dX0_harvest_126 (by decide) ?_
        refine fp_X0_36 hx hb hts hown hK hM (Or.inl rfl) hu_s dX0_harvest_127 (fun H locs hM => ?_)
        replace hM := hM.eq (hu_u _ _ _ _ _ _)
        have e_t_X0_harvest_0 : (t_X0_harvest_0 a3 b3 b8 p0) = (a3 + (p0 * (t_X2_brings_0 b3 b8))) := by unfold t_X0_harvest_0; rw [if_neg c1]
        have e_t_X0_harvest_1 : (t_X0_harvest_1 a4 a9 b3 b8 p0) = a9 := by unfold t_X0_harvest_1; rw [if_neg c1]
        have e_t_X0_harvest_2 : (t_X0_harvest_2 a3 a5 b3 b7 b8 p0) = (mx a5 b7) := by unfold t_X0_harvest_2; rw [if_neg c1, if_neg c3]
        have e_t_X0_harvest_3 : (t_X0_harvest_3 a6 p0) = (0 : Int32) := by unfold t_X0_harvest_3; rw [if_pos c5]
        exact g_vret hx hb hr hlocks hM (Nat.zero_le _) (Nat.zero_le _) (by rw [e_t_X0_harvest_0, e_t_X0_harvest_1, e_t_X0_harvest_2, e_t_X0_harvest_3]) dX0_harvest_130
      · refine lv_iconst (v := (1 : Int32)) hx hb dX0_harvest_122 (by decide) ?_
        refine lv_goto (tgt := 127) hx hb dX0_harvest_123 (by decide) ?_
        refine fp_X0_36 hx hb hts hown hK hM (Or.inr rfl) hu_s dX0_harvest_127 (fun H locs hM => ?_)
        replace hM := hM.eq (hu_u _ _ _ _ _ _)
        have e_t_X0_harvest_0 : (t_X0_harvest_0 a3 b3 b8 p0) = (a3 + (p0 * (t_X2_brings_0 b3 b8))) := by unfold t_X0_harvest_0; rw [if_neg c1]
        have e_t_X0_harvest_1 : (t_X0_harvest_1 a4 a9 b3 b8 p0) = a9 := by unfold t_X0_harvest_1; rw [if_neg c1]
        have e_t_X0_harvest_2 : (t_X0_harvest_2 a3 a5 b3 b7 b8 p0) = (mx a5 b7) := by unfold t_X0_harvest_2; rw [if_neg c1, if_neg c3]
        have e_t_X0_harvest_3 : (t_X0_harvest_3 a6 p0) = (1 : Int32) := by unfold t_X0_harvest_3; rw [if_neg c5]
        exact g_vret hx hb hr hlocks hM (Nat.zero_le _) (Nat.zero_le _) (by rw [e_t_X0_harvest_0, e_t_X0_harvest_1, e_t_X0_harvest_2, e_t_X0_harvest_3]) dX0_harvest_130
def t_X0_passHour_0 (a1 a7 b1 : Int32) : Int32 := if a7 = 0 then (if a1 = b1 then a1 else (t_X6_towards_0 a1 b1 (20 : Int32))) else a1
def t_X0_passHour_1 (a1 a2 a3 a4 a7 a9 b1 b2 b3 b5 b6 b7 b8 p0 p1 : Int32) : Int32 := if a7 = 0 then (if a1 = b1 then (if 0 < p1 then a3 else (if (t_X2_isFit_0 b6 b7 p0) = 0 then a3 else (if (t_X0_holdsAnother_0 a3 a4 a9) = 0 then (if (t_X0_acresAtOnce_0 a2 a3 b2 b3 b5 b8) = 0 then a3 else (t_X0_harvest_0 a3 b3 b8 (t_X0_acresAtOnce_0 a2 a3 b2 b3 b5 b8))) else a3))) else a3) else a3
def t_X0_passHour_2 (a1 a2 a3 a4 a7 a9 b1 b2 b3 b5 b6 b7 b8 p0 p1 : Int32) : Int32 := if a7 = 0 then (if a1 = b1 then (if 0 < p1 then a4 else (if (t_X2_isFit_0 b6 b7 p0) = 0 then a4 else (if (t_X0_holdsAnother_0 a3 a4 a9) = 0 then (if (t_X0_acresAtOnce_0 a2 a3 b2 b3 b5 b8) = 0 then a4 else (t_X0_harvest_1 a4 a9 b3 b8 (t_X0_acresAtOnce_0 a2 a3 b2 b3 b5 b8))) else a4))) else a4) else a4
def t_X0_passHour_3 (a1 a2 a3 a4 a5 a7 a9 b1 b2 b3 b5 b6 b7 b8 p0 p1 : Int32) : Int32 := if a7 = 0 then (if a1 = b1 then (if 0 < p1 then a5 else (if (t_X2_isFit_0 b6 b7 p0) = 0 then a5 else (if (t_X0_holdsAnother_0 a3 a4 a9) = 0 then (if (t_X0_acresAtOnce_0 a2 a3 b2 b3 b5 b8) = 0 then a5 else (t_X0_harvest_2 a3 a5 b3 b7 b8 (t_X0_acresAtOnce_0 a2 a3 b2 b3 b5 b8))) else a5))) else a5) else a5
def t_X0_passHour_4 (a1 a2 a3 a4 a6 a7 a9 b1 b2 b3 b5 b6 b7 b8 p0 p1 : Int32) : Int32 := if a7 = 0 then (if a1 = b1 then (if 0 < p1 then a6 else (if (t_X2_isFit_0 b6 b7 p0) = 0 then a6 else (if (t_X0_holdsAnother_0 a3 a4 a9) = 0 then (if (t_X0_acresAtOnce_0 a2 a3 b2 b3 b5 b8) = 0 then a6 else (a6 + (t_X0_acresAtOnce_0 a2 a3 b2 b3 b5 b8))) else a6))) else a6) else a6
def t_X0_passHour_5 (a1 a2 a3 a4 a6 a7 a9 b1 b2 b3 b5 b6 b7 b8 p0 p1 : Int32) : Int32 := if a7 = 0 then (if a1 = b1 then (if 0 < p1 then a7 else (if (t_X2_isFit_0 b6 b7 p0) = 0 then a7 else (if (t_X0_holdsAnother_0 a3 a4 a9) = 0 then (if (t_X0_acresAtOnce_0 a2 a3 b2 b3 b5 b8) = 0 then a7 else (t_X0_harvest_3 a6 (t_X0_acresAtOnce_0 a2 a3 b2 b3 b5 b8))) else a7))) else a7) else a7
def t_X0_passHour_6 (a1 a2 a3 a4 a7 a8 a9 b1 b2 b3 b5 b6 b7 b8 p0 p1 : Int32) : Int32 := if a7 = 0 then (if a1 = b1 then (if 0 < p1 then (a8 + (1 : Int32)) else (if (t_X2_isFit_0 b6 b7 p0) = 0 then (a8 + (1 : Int32)) else (if (t_X0_holdsAnother_0 a3 a4 a9) = 0 then (if (t_X0_acresAtOnce_0 a2 a3 b2 b3 b5 b8) = 0 then (a8 + (1 : Int32)) else a8) else (a8 + (1 : Int32))))) else a8) else a8
def t_X0_passHour_7 (a1 a2 a3 a4 a7 a9 a10 b1 b2 b3 b5 b6 b7 b8 p0 p1 : Int32) : Int32 := if a7 = 0 then (if a1 = b1 then (if 0 < p1 then a10 else (if (t_X2_isFit_0 b6 b7 p0) = 0 then a10 else (if (t_X0_holdsAnother_0 a3 a4 a9) = 0 then (if (t_X0_acresAtOnce_0 a2 a3 b2 b3 b5 b8) = 0 then a10 else (a10 + (t_X0_acresAtOnce_0 a2 a3 b2 b3 b5 b8))) else a10))) else a10) else a10
def t_X0_passHour_8 (a1 a2 a3 a4 a7 a9 a11 b1 b2 b3 b5 b6 b7 b8 p0 p1 : Int32) : Int32 := if a7 = 0 then (if a1 = b1 then (if 0 < p1 then a11 else (if (t_X2_isFit_0 b6 b7 p0) = 0 then a11 else (if (t_X0_holdsAnother_0 a3 a4 a9) = 0 then (if (t_X0_acresAtOnce_0 a2 a3 b2 b3 b5 b8) = 0 then a11 else (a11 + ((t_X0_acresAtOnce_0 a2 a3 b2 b3 b5 b8) * (t_X2_brings_0 b3 b8)))) else a11))) else a11) else a11
def t_X0_passHour_9 (a1 a2 a3 a4 a7 a9 b1 b2 b3 b5 b6 b7 b8 p0 p1 : Int32) : Int32 := if a7 = 0 then (if a1 = b1 then (if 0 < p1 then b5 else (if (t_X2_isFit_0 b6 b7 p0) = 0 then b5 else (if (t_X0_holdsAnother_0 a3 a4 a9) = 0 then (if (t_X0_acresAtOnce_0 a2 a3 b2 b3 b5 b8) = 0 then b5 else (b5 + (t_X0_acresAtOnce_0 a2 a3 b2 b3 b5 b8))) else b5))) else b5) else b5
def t_X0_passHour_10 (a0 a1 a2 a3 a4 a6 a7 a9 b1 b2 b3 b5 b6 b7 b8 b9 p0 p1 : Int32) : Int32 := if a7 = 0 then (if a1 = b1 then (if 0 < p1 then b9 else (if (t_X2_isFit_0 b6 b7 p0) = 0 then b9 else (if (t_X0_holdsAnother_0 a3 a4 a9) = 0 then (if (t_X0_acresAtOnce_0 a2 a3 b2 b3 b5 b8) = 0 then b9 else (b9 + (t_X0_metered_0 a0 a6 ((t_X0_acresAtOnce_0 a2 a3 b2 b3 b5 b8) * (t_X2_brings_0 b3 b8))))) else b9))) else b9) else b9
set_option maxHeartbeats 4000000 in
set_option maxRecDepth 100000 in
theorem c_X0_passHour (l : Launch) (G : GG) (M : HM) (h0 r0 : Nat) (h1 r1 : Nat) (a0 a1 a2 a3 a4 a5 a6 a7 a8 a9 a10 a11 : Int32) (b0 b1 b2 b3 b4 b5 b6 b7 b8 b9 b10 b11 b12 : Int32) (p0 : Int32) (p1 : Int32) (ha_h0 : M h0 = some (r0, (.inr (1, [.int a0, .int a1, .int a2, .int a3, .int a4, .int a5, .int a6, .int a7, .int a8, .int a9, .int a10, .int a11])))) (ha_h1 : M h1 = some (r1, (.inr (3, [.int b0, .int b1, .int b2, .int b3, .int b4, .int b5, .int b6, .int b7, .int b8, .int b9, .int b10, .int b11, .int b12])))) (ne_h0_h1 : h0 ≠ h1) : Mv l yX0_passHour (.code yX0_passHour cX0_passHour 5 none :: AL) 2 45 0 0 [.ref h0, .ref h1, .int p0, .int p1] G M (fun M' => M' = (hu (hu M h0 r0 (.inr (1, [.int a0, .int (t_X0_passHour_0 a1 a7 b1), .int a2, .int (t_X0_passHour_1 a1 a2 a3 a4 a7 a9 b1 b2 b3 b5 b6 b7 b8 p0 p1), .int (t_X0_passHour_2 a1 a2 a3 a4 a7 a9 b1 b2 b3 b5 b6 b7 b8 p0 p1), .int (t_X0_passHour_3 a1 a2 a3 a4 a5 a7 a9 b1 b2 b3 b5 b6 b7 b8 p0 p1), .int (t_X0_passHour_4 a1 a2 a3 a4 a6 a7 a9 b1 b2 b3 b5 b6 b7 b8 p0 p1), .int (t_X0_passHour_5 a1 a2 a3 a4 a6 a7 a9 b1 b2 b3 b5 b6 b7 b8 p0 p1), .int (t_X0_passHour_6 a1 a2 a3 a4 a7 a8 a9 b1 b2 b3 b5 b6 b7 b8 p0 p1), .int a9, .int (t_X0_passHour_7 a1 a2 a3 a4 a7 a9 a10 b1 b2 b3 b5 b6 b7 b8 p0 p1), .int (t_X0_passHour_8 a1 a2 a3 a4 a7 a9 a11 b1 b2 b3 b5 b6 b7 b8 p0 p1)]))) h1 r1 (.inr (3, [.int b0, .int b1, .int b2, .int b3, .int b4, .int (t_X0_passHour_9 a1 a2 a3 a4 a7 a9 b1 b2 b3 b5 b6 b7 b8 p0 p1), .int b6, .int b7, .int b8, .int (t_X0_passHour_10 a0 a1 a2 a3 a4 a6 a7 a9 b1 b2 b3 b5 b6 b7 b8 b9 p0 p1), .int b10, .int b11, .int b12])))) := by
  refine Mv.go (by decide) (Nat.le_of_ble_eq_true rfl) ?_
  intro p e s m below meth c ls hx hb hr hml hown hlocks hname hts hK hM hl
  have hown : s.vm.findClass RX0 = some m.cls := hown
  have hl : lv_has ls 5 [(0, .ref h0), (1, .ref h1), (2, .int p0), (3, .int p1)] := hl
  have ne_h1_h0 : h1 ≠ h0 := Ne.symm ne_h0_h1
  refine lv_aload_n hx hb dX0_passHour_0 rfl (lv_at hl 0 rfl) ?_
  refine fg_X0_36 hx hb hts hown hK hM ha_h0 dX0_passHour_1 ?_
  refine lv_if_ne (tgt := 11) hx hb dX0_passHour_4 (by decide) (fun c1 => ?_) (fun c1 => ?_)
  · have e_t_X0_passHour_0 : (t_X0_passHour_0 a1 a7 b1) = a1 := by unfold t_X0_passHour_0; rw [if_neg c1]
    have e_t_X0_passHour_1 : (t_X0_passHour_1 a1 a2 a3 a4 a7 a9 b1 b2 b3 b5 b6 b7 b8 p0 p1) = a3 := by unfold t_X0_passHour_1; rw [if_neg c1]
    have e_t_X0_passHour_2 : (t_X0_passHour_2 a1 a2 a3 a4 a7 a9 b1 b2 b3 b5 b6 b7 b8 p0 p1) = a4 := by unfold t_X0_passHour_2; rw [if_neg c1]
    have e_t_X0_passHour_3 : (t_X0_passHour_3 a1 a2 a3 a4 a5 a7 a9 b1 b2 b3 b5 b6 b7 b8 p0 p1) = a5 := by unfold t_X0_passHour_3; rw [if_neg c1]
    have e_t_X0_passHour_4 : (t_X0_passHour_4 a1 a2 a3 a4 a6 a7 a9 b1 b2 b3 b5 b6 b7 b8 p0 p1) = a6 := by unfold t_X0_passHour_4; rw [if_neg c1]
    have e_t_X0_passHour_5 : (t_X0_passHour_5 a1 a2 a3 a4 a6 a7 a9 b1 b2 b3 b5 b6 b7 b8 p0 p1) = a7 := by unfold t_X0_passHour_5; rw [if_neg c1]
    have e_t_X0_passHour_6 : (t_X0_passHour_6 a1 a2 a3 a4 a7 a8 a9 b1 b2 b3 b5 b6 b7 b8 p0 p1) = a8 := by unfold t_X0_passHour_6; rw [if_neg c1]
    have e_t_X0_passHour_7 : (t_X0_passHour_7 a1 a2 a3 a4 a7 a9 a10 b1 b2 b3 b5 b6 b7 b8 p0 p1) = a10 := by unfold t_X0_passHour_7; rw [if_neg c1]
    have e_t_X0_passHour_8 : (t_X0_passHour_8 a1 a2 a3 a4 a7 a9 a11 b1 b2 b3 b5 b6 b7 b8 p0 p1) = a11 := by unfold t_X0_passHour_8; rw [if_neg c1]
    have e_t_X0_passHour_9 : (t_X0_passHour_9 a1 a2 a3 a4 a7 a9 b1 b2 b3 b5 b6 b7 b8 p0 p1) = b5 := by unfold t_X0_passHour_9; rw [if_neg c1]
    have e_t_X0_passHour_10 : (t_X0_passHour_10 a0 a1 a2 a3 a4 a6 a7 a9 b1 b2 b3 b5 b6 b7 b8 b9 p0 p1) = b9 := by unfold t_X0_passHour_10; rw [if_neg c1]
    replace hM := hM.eq (hu_i ha_h0).symm
    replace hM := hM.eq (hu_i (hu_n ne_h1_h0 ha_h1)).symm
    exact g_vret hx hb hr hlocks hM (Nat.zero_le _) (Nat.zero_le _) (by rw [e_t_X0_passHour_0, e_t_X0_passHour_1, e_t_X0_passHour_2, e_t_X0_passHour_3, e_t_X0_passHour_4, e_t_X0_passHour_5, e_t_X0_passHour_6, e_t_X0_passHour_7, e_t_X0_passHour_8, e_t_X0_passHour_9, e_t_X0_passHour_10]) dX0_passHour_11
  · refine lv_aload_n hx hb dX0_passHour_7 rfl (lv_at hl 1 rfl) ?_
    refine lv_ifnonnull (tgt := 12) hx hb dX0_passHour_8 (by decide) ?_
    refine lv_aload_n hx hb dX0_passHour_12 rfl (lv_at hl 0 rfl) ?_
    refine fg_X0_21 hx hb hts hown hK hM ha_h0 dX0_passHour_13 ?_
    refine lv_aload_n hx hb dX0_passHour_16 rfl (lv_at hl 1 rfl) ?_
    refine fg_X0_49 hx hb hts hown hK hM ha_h1 dX0_passHour_17 ?_
    refine lv_icmp_eq (tgt := 41) hx hb dX0_passHour_20 (by decide) (fun c2 => ?_) (fun c2 => ?_)
    · refine lv_aload_n hx hb dX0_passHour_41 rfl (lv_at hl 0 rfl) ?_
      refine lv_aload_n hx hb dX0_passHour_42 rfl (lv_at hl 1 rfl) ?_
      refine g_callVi (n9 := 1) (As := [.ref h1]) (rest := []) hx hb hml hl.1 hown hts hK hM (c_X0_acresAtOnce l G _ h0 r0 h1 r1 a0 a1 a2 a3 a4 a5 a6 a7 a8 a9 a10 a11 b0 b1 b2 b3 b4 b5 b6 b7 b8 b9 b10 b11 b12 ha_h0 ha_h1 ne_h0_h1) wm_X0_56 wi_X0_acresAtOnce wl_X0_acresAtOnce wn_X0 wc_X0_acresAtOnce (by decide +kernel) (hM.recv hK (ci := 1) rfl ha_h0) ⟨Nat.le_of_ble_eq_true rfl, Nat.le_of_ble_eq_true rfl⟩ ⟨Nat.le_of_ble_eq_true rfl, Nat.le_of_ble_eq_true rfl⟩ rfl (Nat.le_of_ble_eq_true rfl) rfl dX0_passHour_43 (fun r_43 M1 H locs hq hM => ?_)
      have hq1 := hq.1.symm
      have hq2 := hq.2.symm
      subst hq1 hq2
      refine lv_istore (lv' := [(4, .int (t_X0_acresAtOnce_0 a2 a3 b2 b3 b5 b8)), (0, .ref h0), (1, .ref h1), (2, .int p0), (3, .int p1)]) hx hb dX0_passHour_46 hl (by decide) rfl (fun ls hl => ?_)
      refine lv_iload_n hx hb dX0_passHour_48 rfl (lv_at hl 4 rfl) ?_
      refine lv_if_gt (tgt := 72) hx hb dX0_passHour_49 (by decide) (fun c3 => ?_) (fun c3 => ?_)
      · refine lv_aload_n hx hb dX0_passHour_72 rfl (lv_at hl 1 rfl) ?_
        refine lv_dup hx hb dX0_passHour_73 rfl ?_
        refine fg_X0_40 hx hb hts hown hK hM ha_h0 dX0_passHour_74 ?_
        refine lv_iconst (v := (1 : Int32)) hx hb dX0_passHour_77 (by decide) ?_
        refine lv_iadd hx hb dX0_passHour_78 ?_
        refine fp_X0_40 hx hb hts hown hK hM ha_h0 dX0_passHour_79 (fun H locs hM => ?_)
        refine lv_goto (tgt := 92) hx hb dX0_passHour_82 (by decide) ?_
        have e_t_X0_passHour_0 : (t_X0_passHour_0 a1 a7 b1) = a1 := by unfold t_X0_passHour_0; rw [if_pos c1, if_pos c2]
        have e_t_X0_passHour_1 : (t_X0_passHour_1 a1 a2 a3 a4 a7 a9 b1 b2 b3 b5 b6 b7 b8 p0 p1) = a3 := by unfold t_X0_passHour_1; rw [if_pos c1, if_pos c2, if_pos c3]
        have e_t_X0_passHour_2 : (t_X0_passHour_2 a1 a2 a3 a4 a7 a9 b1 b2 b3 b5 b6 b7 b8 p0 p1) = a4 := by unfold t_X0_passHour_2; rw [if_pos c1, if_pos c2, if_pos c3]
        have e_t_X0_passHour_3 : (t_X0_passHour_3 a1 a2 a3 a4 a5 a7 a9 b1 b2 b3 b5 b6 b7 b8 p0 p1) = a5 := by unfold t_X0_passHour_3; rw [if_pos c1, if_pos c2, if_pos c3]
        have e_t_X0_passHour_4 : (t_X0_passHour_4 a1 a2 a3 a4 a6 a7 a9 b1 b2 b3 b5 b6 b7 b8 p0 p1) = a6 := by unfold t_X0_passHour_4; rw [if_pos c1, if_pos c2, if_pos c3]
        have e_t_X0_passHour_5 : (t_X0_passHour_5 a1 a2 a3 a4 a6 a7 a9 b1 b2 b3 b5 b6 b7 b8 p0 p1) = a7 := by unfold t_X0_passHour_5; rw [if_pos c1, if_pos c2, if_pos c3]
        have e_t_X0_passHour_6 : (t_X0_passHour_6 a1 a2 a3 a4 a7 a8 a9 b1 b2 b3 b5 b6 b7 b8 p0 p1) = (a8 + (1 : Int32)) := by unfold t_X0_passHour_6; rw [if_pos c1, if_pos c2, if_pos c3]
        have e_t_X0_passHour_7 : (t_X0_passHour_7 a1 a2 a3 a4 a7 a9 a10 b1 b2 b3 b5 b6 b7 b8 p0 p1) = a10 := by unfold t_X0_passHour_7; rw [if_pos c1, if_pos c2, if_pos c3]
        have e_t_X0_passHour_8 : (t_X0_passHour_8 a1 a2 a3 a4 a7 a9 a11 b1 b2 b3 b5 b6 b7 b8 p0 p1) = a11 := by unfold t_X0_passHour_8; rw [if_pos c1, if_pos c2, if_pos c3]
        have e_t_X0_passHour_9 : (t_X0_passHour_9 a1 a2 a3 a4 a7 a9 b1 b2 b3 b5 b6 b7 b8 p0 p1) = b5 := by unfold t_X0_passHour_9; rw [if_pos c1, if_pos c2, if_pos c3]
        have e_t_X0_passHour_10 : (t_X0_passHour_10 a0 a1 a2 a3 a4 a6 a7 a9 b1 b2 b3 b5 b6 b7 b8 b9 p0 p1) = b9 := by unfold t_X0_passHour_10; rw [if_pos c1, if_pos c2, if_pos c3]
        replace hM := hM.eq (hu_i (hu_n ne_h1_h0 ha_h1)).symm
        exact g_vret hx hb hr hlocks hM (Nat.zero_le _) (Nat.zero_le _) (by rw [e_t_X0_passHour_0, e_t_X0_passHour_1, e_t_X0_passHour_2, e_t_X0_passHour_3, e_t_X0_passHour_4, e_t_X0_passHour_5, e_t_X0_passHour_6, e_t_X0_passHour_7, e_t_X0_passHour_8, e_t_X0_passHour_9, e_t_X0_passHour_10]) dX0_passHour_92
      · refine lv_aload_n hx hb dX0_passHour_52 rfl (lv_at hl 2 rfl) ?_
        refine lv_iload_n hx hb dX0_passHour_53 rfl (lv_at hl 3 rfl) ?_
        refine g_callVi (n9 := 1) (As := [.int p0]) (rest := []) hx hb hml hl.1 hown hts hK hM (c_X2_isFit l G _ h1 r1 b0 b1 b2 b3 b4 b5 b6 b7 b8 b9 b10 b11 b12 p0 ha_h1) wm_X0_60 wi_X2_isFit wl_X2_isFit wn_X2 wc_X2_isFit (by decide +kernel) (hM.recv hK (ci := 3) rfl ha_h1) ⟨Nat.le_of_ble_eq_true rfl, Nat.le_of_ble_eq_true rfl⟩ ⟨Nat.le_of_ble_eq_true rfl, Nat.le_of_ble_eq_true rfl⟩ rfl (Nat.le_of_ble_eq_true rfl) rfl dX0_passHour_54 (fun r_54 M1 H locs hq hM => ?_)
        have hq1 := hq.1.symm
        have hq2 := hq.2.symm
        subst hq1 hq2
        refine lv_if_eq (tgt := 72) hx hb dX0_passHour_57 (by decide) (fun c4 => ?_) (fun c4 => ?_)
        · refine lv_aload_n hx hb dX0_passHour_72 rfl (lv_at hl 1 rfl) ?_
          refine lv_dup hx hb dX0_passHour_73 rfl ?_
          refine fg_X0_40 hx hb hts hown hK hM ha_h0 dX0_passHour_74 ?_
          refine lv_iconst (v := (1 : Int32)) hx hb dX0_passHour_77 (by decide) ?_
          refine lv_iadd hx hb dX0_passHour_78 ?_
          refine fp_X0_40 hx hb hts hown hK hM ha_h0 dX0_passHour_79 (fun H locs hM => ?_)
          refine lv_goto (tgt := 92) hx hb dX0_passHour_82 (by decide) ?_
          have e_t_X0_passHour_0 : (t_X0_passHour_0 a1 a7 b1) = a1 := by unfold t_X0_passHour_0; rw [if_pos c1, if_pos c2]
          have e_t_X0_passHour_1 : (t_X0_passHour_1 a1 a2 a3 a4 a7 a9 b1 b2 b3 b5 b6 b7 b8 p0 p1) = a3 := by unfold t_X0_passHour_1; rw [if_pos c1, if_pos c2, if_neg c3, if_pos c4]
          have e_t_X0_passHour_2 : (t_X0_passHour_2 a1 a2 a3 a4 a7 a9 b1 b2 b3 b5 b6 b7 b8 p0 p1) = a4 := by unfold t_X0_passHour_2; rw [if_pos c1, if_pos c2, if_neg c3, if_pos c4]
          have e_t_X0_passHour_3 : (t_X0_passHour_3 a1 a2 a3 a4 a5 a7 a9 b1 b2 b3 b5 b6 b7 b8 p0 p1) = a5 := by unfold t_X0_passHour_3; rw [if_pos c1, if_pos c2, if_neg c3, if_pos c4]
          have e_t_X0_passHour_4 : (t_X0_passHour_4 a1 a2 a3 a4 a6 a7 a9 b1 b2 b3 b5 b6 b7 b8 p0 p1) = a6 := by unfold t_X0_passHour_4; rw [if_pos c1, if_pos c2, if_neg c3, if_pos c4]
          have e_t_X0_passHour_5 : (t_X0_passHour_5 a1 a2 a3 a4 a6 a7 a9 b1 b2 b3 b5 b6 b7 b8 p0 p1) = a7 := by unfold t_X0_passHour_5; rw [if_pos c1, if_pos c2, if_neg c3, if_pos c4]
          have e_t_X0_passHour_6 : (t_X0_passHour_6 a1 a2 a3 a4 a7 a8 a9 b1 b2 b3 b5 b6 b7 b8 p0 p1) = (a8 + (1 : Int32)) := by unfold t_X0_passHour_6; rw [if_pos c1, if_pos c2, if_neg c3, if_pos c4]
          have e_t_X0_passHour_7 : (t_X0_passHour_7 a1 a2 a3 a4 a7 a9 a10 b1 b2 b3 b5 b6 b7 b8 p0 p1) = a10 := by unfold t_X0_passHour_7; rw [if_pos c1, if_pos c2, if_neg c3, if_pos c4]
          have e_t_X0_passHour_8 : (t_X0_passHour_8 a1 a2 a3 a4 a7 a9 a11 b1 b2 b3 b5 b6 b7 b8 p0 p1) = a11 := by unfold t_X0_passHour_8; rw [if_pos c1, if_pos c2, if_neg c3, if_pos c4]
          have e_t_X0_passHour_9 : (t_X0_passHour_9 a1 a2 a3 a4 a7 a9 b1 b2 b3 b5 b6 b7 b8 p0 p1) = b5 := by unfold t_X0_passHour_9; rw [if_pos c1, if_pos c2, if_neg c3, if_pos c4]
          have e_t_X0_passHour_10 : (t_X0_passHour_10 a0 a1 a2 a3 a4 a6 a7 a9 b1 b2 b3 b5 b6 b7 b8 b9 p0 p1) = b9 := by unfold t_X0_passHour_10; rw [if_pos c1, if_pos c2, if_neg c3, if_pos c4]
          replace hM := hM.eq (hu_i (hu_n ne_h1_h0 ha_h1)).symm
          exact g_vret hx hb hr hlocks hM (Nat.zero_le _) (Nat.zero_le _) (by rw [e_t_X0_passHour_0, e_t_X0_passHour_1, e_t_X0_passHour_2, e_t_X0_passHour_3, e_t_X0_passHour_4, e_t_X0_passHour_5, e_t_X0_passHour_6, e_t_X0_passHour_7, e_t_X0_passHour_8, e_t_X0_passHour_9, e_t_X0_passHour_10]) dX0_passHour_92
        · refine lv_aload_n hx hb dX0_passHour_60 rfl (lv_at hl 1 rfl) ?_
          refine g_callVi (n9 := 0) (As := []) (rest := []) hx hb hml hl.1 hown hts hK hM (c_X0_holdsAnother l G _ h0 r0 a0 a1 a2 a3 a4 a5 a6 a7 a8 a9 a10 a11 ha_h0) wm_X0_64 wi_X0_holdsAnother wl_X0_holdsAnother wn_X0 wc_X0_holdsAnother (by decide +kernel) (hM.recv hK (ci := 1) rfl ha_h0) ⟨Nat.le_of_ble_eq_true rfl, Nat.le_of_ble_eq_true rfl⟩ ⟨Nat.le_of_ble_eq_true rfl, Nat.le_of_ble_eq_true rfl⟩ rfl (Nat.le_of_ble_eq_true rfl) rfl dX0_passHour_61 (fun r_61 M1 H locs hq hM => ?_)
          have hq1 := hq.1.symm
          have hq2 := hq.2.symm
          subst hq1 hq2
          refine lv_if_ne (tgt := 72) hx hb dX0_passHour_64 (by decide) (fun c5 => ?_) (fun c5 => ?_)
          · refine lv_aload_n hx hb dX0_passHour_72 rfl (lv_at hl 1 rfl) ?_
            refine lv_dup hx hb dX0_passHour_73 rfl ?_
            refine fg_X0_40 hx hb hts hown hK hM ha_h0 dX0_passHour_74 ?_
            refine lv_iconst (v := (1 : Int32)) hx hb dX0_passHour_77 (by decide) ?_
            refine lv_iadd hx hb dX0_passHour_78 ?_
            refine fp_X0_40 hx hb hts hown hK hM ha_h0 dX0_passHour_79 (fun H locs hM => ?_)
            refine lv_goto (tgt := 92) hx hb dX0_passHour_82 (by decide) ?_
            have e_t_X0_passHour_0 : (t_X0_passHour_0 a1 a7 b1) = a1 := by unfold t_X0_passHour_0; rw [if_pos c1, if_pos c2]
            have e_t_X0_passHour_1 : (t_X0_passHour_1 a1 a2 a3 a4 a7 a9 b1 b2 b3 b5 b6 b7 b8 p0 p1) = a3 := by unfold t_X0_passHour_1; rw [if_pos c1, if_pos c2, if_neg c3, if_neg c4, if_neg c5]
            have e_t_X0_passHour_2 : (t_X0_passHour_2 a1 a2 a3 a4 a7 a9 b1 b2 b3 b5 b6 b7 b8 p0 p1) = a4 := by unfold t_X0_passHour_2; rw [if_pos c1, if_pos c2, if_neg c3, if_neg c4, if_neg c5]
            have e_t_X0_passHour_3 : (t_X0_passHour_3 a1 a2 a3 a4 a5 a7 a9 b1 b2 b3 b5 b6 b7 b8 p0 p1) = a5 := by unfold t_X0_passHour_3; rw [if_pos c1, if_pos c2, if_neg c3, if_neg c4, if_neg c5]
            have e_t_X0_passHour_4 : (t_X0_passHour_4 a1 a2 a3 a4 a6 a7 a9 b1 b2 b3 b5 b6 b7 b8 p0 p1) = a6 := by unfold t_X0_passHour_4; rw [if_pos c1, if_pos c2, if_neg c3, if_neg c4, if_neg c5]
            have e_t_X0_passHour_5 : (t_X0_passHour_5 a1 a2 a3 a4 a6 a7 a9 b1 b2 b3 b5 b6 b7 b8 p0 p1) = a7 := by unfold t_X0_passHour_5; rw [if_pos c1, if_pos c2, if_neg c3, if_neg c4, if_neg c5]
            have e_t_X0_passHour_6 : (t_X0_passHour_6 a1 a2 a3 a4 a7 a8 a9 b1 b2 b3 b5 b6 b7 b8 p0 p1) = (a8 + (1 : Int32)) := by unfold t_X0_passHour_6; rw [if_pos c1, if_pos c2, if_neg c3, if_neg c4, if_neg c5]
            have e_t_X0_passHour_7 : (t_X0_passHour_7 a1 a2 a3 a4 a7 a9 a10 b1 b2 b3 b5 b6 b7 b8 p0 p1) = a10 := by unfold t_X0_passHour_7; rw [if_pos c1, if_pos c2, if_neg c3, if_neg c4, if_neg c5]
            have e_t_X0_passHour_8 : (t_X0_passHour_8 a1 a2 a3 a4 a7 a9 a11 b1 b2 b3 b5 b6 b7 b8 p0 p1) = a11 := by unfold t_X0_passHour_8; rw [if_pos c1, if_pos c2, if_neg c3, if_neg c4, if_neg c5]
            have e_t_X0_passHour_9 : (t_X0_passHour_9 a1 a2 a3 a4 a7 a9 b1 b2 b3 b5 b6 b7 b8 p0 p1) = b5 := by unfold t_X0_passHour_9; rw [if_pos c1, if_pos c2, if_neg c3, if_neg c4, if_neg c5]
            have e_t_X0_passHour_10 : (t_X0_passHour_10 a0 a1 a2 a3 a4 a6 a7 a9 b1 b2 b3 b5 b6 b7 b8 b9 p0 p1) = b9 := by unfold t_X0_passHour_10; rw [if_pos c1, if_pos c2, if_neg c3, if_neg c4, if_neg c5]
            replace hM := hM.eq (hu_i (hu_n ne_h1_h0 ha_h1)).symm
            exact g_vret hx hb hr hlocks hM (Nat.zero_le _) (Nat.zero_le _) (by rw [e_t_X0_passHour_0, e_t_X0_passHour_1, e_t_X0_passHour_2, e_t_X0_passHour_3, e_t_X0_passHour_4, e_t_X0_passHour_5, e_t_X0_passHour_6, e_t_X0_passHour_7, e_t_X0_passHour_8, e_t_X0_passHour_9, e_t_X0_passHour_10]) dX0_passHour_92
          · refine lv_iload hx hb dX0_passHour_67 (lv_at hl 0 rfl) ?_
            refine lv_if_ne (tgt := 85) hx hb dX0_passHour_69 (by decide) (fun c6 => ?_) (fun c6 => ?_)
            · refine lv_aload_n hx hb dX0_passHour_85 rfl (lv_at hl 1 rfl) ?_
              refine lv_aload_n hx hb dX0_passHour_86 rfl (lv_at hl 2 rfl) ?_
              refine lv_iload hx hb dX0_passHour_87 (lv_at hl 0 rfl) ?_
              refine g_callVv (n9 := 2) (As := [.ref h1, .int (t_X0_acresAtOnce_0 a2 a3 b2 b3 b5 b8)]) (rest := []) hx hb hml hl.1 hown hts hK hM (c_X0_harvest l G _ h0 r0 h1 r1 a0 a1 a2 a3 a4 a5 a6 a7 a8 a9 a10 a11 b0 b1 b2 b3 b4 b5 b6 b7 b8 b9 b10 b11 b12 (t_X0_acresAtOnce_0 a2 a3 b2 b3 b5 b8) ha_h0 ha_h1 ne_h0_h1) wm_X0_68 wi_X0_harvest wl_X0_harvest wn_X0 wc_X0_harvest (by decide +kernel) (hM.recv hK (ci := 1) rfl ha_h0) ⟨Nat.le_of_ble_eq_true rfl, Nat.le_of_ble_eq_true rfl⟩ ⟨Nat.le_of_ble_eq_true rfl, Nat.le_of_ble_eq_true rfl⟩ rfl (Nat.le_of_ble_eq_true rfl) rfl dX0_passHour_89 (fun M1 H locs hq hM => ?_)
              replace hq := hq.symm
              subst hq
              have e_t_X0_passHour_0 : (t_X0_passHour_0 a1 a7 b1) = a1 := by unfold t_X0_passHour_0; rw [if_pos c1, if_pos c2]
              have e_t_X0_passHour_1 : (t_X0_passHour_1 a1 a2 a3 a4 a7 a9 b1 b2 b3 b5 b6 b7 b8 p0 p1) = (t_X0_harvest_0 a3 b3 b8 (t_X0_acresAtOnce_0 a2 a3 b2 b3 b5 b8)) := by unfold t_X0_passHour_1; rw [if_pos c1, if_pos c2, if_neg c3, if_neg c4, if_pos c5, if_neg c6]
              have e_t_X0_passHour_2 : (t_X0_passHour_2 a1 a2 a3 a4 a7 a9 b1 b2 b3 b5 b6 b7 b8 p0 p1) = (t_X0_harvest_1 a4 a9 b3 b8 (t_X0_acresAtOnce_0 a2 a3 b2 b3 b5 b8)) := by unfold t_X0_passHour_2; rw [if_pos c1, if_pos c2, if_neg c3, if_neg c4, if_pos c5, if_neg c6]
              have e_t_X0_passHour_3 : (t_X0_passHour_3 a1 a2 a3 a4 a5 a7 a9 b1 b2 b3 b5 b6 b7 b8 p0 p1) = (t_X0_harvest_2 a3 a5 b3 b7 b8 (t_X0_acresAtOnce_0 a2 a3 b2 b3 b5 b8)) := by unfold t_X0_passHour_3; rw [if_pos c1, if_pos c2, if_neg c3, if_neg c4, if_pos c5, if_neg c6]
              have e_t_X0_passHour_4 : (t_X0_passHour_4 a1 a2 a3 a4 a6 a7 a9 b1 b2 b3 b5 b6 b7 b8 p0 p1) = (a6 + (t_X0_acresAtOnce_0 a2 a3 b2 b3 b5 b8)) := by unfold t_X0_passHour_4; rw [if_pos c1, if_pos c2, if_neg c3, if_neg c4, if_pos c5, if_neg c6]
              have e_t_X0_passHour_5 : (t_X0_passHour_5 a1 a2 a3 a4 a6 a7 a9 b1 b2 b3 b5 b6 b7 b8 p0 p1) = (t_X0_harvest_3 a6 (t_X0_acresAtOnce_0 a2 a3 b2 b3 b5 b8)) := by unfold t_X0_passHour_5; rw [if_pos c1, if_pos c2, if_neg c3, if_neg c4, if_pos c5, if_neg c6]
              have e_t_X0_passHour_6 : (t_X0_passHour_6 a1 a2 a3 a4 a7 a8 a9 b1 b2 b3 b5 b6 b7 b8 p0 p1) = a8 := by unfold t_X0_passHour_6; rw [if_pos c1, if_pos c2, if_neg c3, if_neg c4, if_pos c5, if_neg c6]
              have e_t_X0_passHour_7 : (t_X0_passHour_7 a1 a2 a3 a4 a7 a9 a10 b1 b2 b3 b5 b6 b7 b8 p0 p1) = (a10 + (t_X0_acresAtOnce_0 a2 a3 b2 b3 b5 b8)) := by unfold t_X0_passHour_7; rw [if_pos c1, if_pos c2, if_neg c3, if_neg c4, if_pos c5, if_neg c6]
              have e_t_X0_passHour_8 : (t_X0_passHour_8 a1 a2 a3 a4 a7 a9 a11 b1 b2 b3 b5 b6 b7 b8 p0 p1) = (a11 + ((t_X0_acresAtOnce_0 a2 a3 b2 b3 b5 b8) * (t_X2_brings_0 b3 b8))) := by unfold t_X0_passHour_8; rw [if_pos c1, if_pos c2, if_neg c3, if_neg c4, if_pos c5, if_neg c6]
              have e_t_X0_passHour_9 : (t_X0_passHour_9 a1 a2 a3 a4 a7 a9 b1 b2 b3 b5 b6 b7 b8 p0 p1) = (b5 + (t_X0_acresAtOnce_0 a2 a3 b2 b3 b5 b8)) := by unfold t_X0_passHour_9; rw [if_pos c1, if_pos c2, if_neg c3, if_neg c4, if_pos c5, if_neg c6]
              have e_t_X0_passHour_10 : (t_X0_passHour_10 a0 a1 a2 a3 a4 a6 a7 a9 b1 b2 b3 b5 b6 b7 b8 b9 p0 p1) = (b9 + (t_X0_metered_0 a0 a6 ((t_X0_acresAtOnce_0 a2 a3 b2 b3 b5 b8) * (t_X2_brings_0 b3 b8)))) := by unfold t_X0_passHour_10; rw [if_pos c1, if_pos c2, if_neg c3, if_neg c4, if_pos c5, if_neg c6]
              replace hM := hM.eq (hu_c _ _ _ _ _ ne_h1_h0)
              exact g_vret hx hb hr hlocks hM (Nat.zero_le _) (Nat.zero_le _) (by rw [e_t_X0_passHour_0, e_t_X0_passHour_1, e_t_X0_passHour_2, e_t_X0_passHour_3, e_t_X0_passHour_4, e_t_X0_passHour_5, e_t_X0_passHour_6, e_t_X0_passHour_7, e_t_X0_passHour_8, e_t_X0_passHour_9, e_t_X0_passHour_10]) dX0_passHour_92
            · refine lv_aload_n hx hb dX0_passHour_72 rfl (lv_at hl 1 rfl) ?_
              refine lv_dup hx hb dX0_passHour_73 rfl ?_
              refine fg_X0_40 hx hb hts hown hK hM ha_h0 dX0_passHour_74 ?_
              refine lv_iconst (v := (1 : Int32)) hx hb dX0_passHour_77 (by decide) ?_
              refine lv_iadd hx hb dX0_passHour_78 ?_
              refine fp_X0_40 hx hb hts hown hK hM ha_h0 dX0_passHour_79 (fun H locs hM => ?_)
              refine lv_goto (tgt := 92) hx hb dX0_passHour_82 (by decide) ?_
              have e_t_X0_passHour_0 : (t_X0_passHour_0 a1 a7 b1) = a1 := by unfold t_X0_passHour_0; rw [if_pos c1, if_pos c2]
              have e_t_X0_passHour_1 : (t_X0_passHour_1 a1 a2 a3 a4 a7 a9 b1 b2 b3 b5 b6 b7 b8 p0 p1) = a3 := by unfold t_X0_passHour_1; rw [if_pos c1, if_pos c2, if_neg c3, if_neg c4, if_pos c5, if_pos c6]
              have e_t_X0_passHour_2 : (t_X0_passHour_2 a1 a2 a3 a4 a7 a9 b1 b2 b3 b5 b6 b7 b8 p0 p1) = a4 := by unfold t_X0_passHour_2; rw [if_pos c1, if_pos c2, if_neg c3, if_neg c4, if_pos c5, if_pos c6]
              have e_t_X0_passHour_3 : (t_X0_passHour_3 a1 a2 a3 a4 a5 a7 a9 b1 b2 b3 b5 b6 b7 b8 p0 p1) = a5 := by unfold t_X0_passHour_3; rw [if_pos c1, if_pos c2, if_neg c3, if_neg c4, if_pos c5, if_pos c6]
              have e_t_X0_passHour_4 : (t_X0_passHour_4 a1 a2 a3 a4 a6 a7 a9 b1 b2 b3 b5 b6 b7 b8 p0 p1) = a6 := by unfold t_X0_passHour_4; rw [if_pos c1, if_pos c2, if_neg c3, if_neg c4, if_pos c5, if_pos c6]
              have e_t_X0_passHour_5 : (t_X0_passHour_5 a1 a2 a3 a4 a6 a7 a9 b1 b2 b3 b5 b6 b7 b8 p0 p1) = a7 := by unfold t_X0_passHour_5; rw [if_pos c1, if_pos c2, if_neg c3, if_neg c4, if_pos c5, if_pos c6]
              have e_t_X0_passHour_6 : (t_X0_passHour_6 a1 a2 a3 a4 a7 a8 a9 b1 b2 b3 b5 b6 b7 b8 p0 p1) = (a8 + (1 : Int32)) := by unfold t_X0_passHour_6; rw [if_pos c1, if_pos c2, if_neg c3, if_neg c4, if_pos c5, if_pos c6]
              have e_t_X0_passHour_7 : (t_X0_passHour_7 a1 a2 a3 a4 a7 a9 a10 b1 b2 b3 b5 b6 b7 b8 p0 p1) = a10 := by unfold t_X0_passHour_7; rw [if_pos c1, if_pos c2, if_neg c3, if_neg c4, if_pos c5, if_pos c6]
              have e_t_X0_passHour_8 : (t_X0_passHour_8 a1 a2 a3 a4 a7 a9 a11 b1 b2 b3 b5 b6 b7 b8 p0 p1) = a11 := by unfold t_X0_passHour_8; rw [if_pos c1, if_pos c2, if_neg c3, if_neg c4, if_pos c5, if_pos c6]
              have e_t_X0_passHour_9 : (t_X0_passHour_9 a1 a2 a3 a4 a7 a9 b1 b2 b3 b5 b6 b7 b8 p0 p1) = b5 := by unfold t_X0_passHour_9; rw [if_pos c1, if_pos c2, if_neg c3, if_neg c4, if_pos c5, if_pos c6]
              have e_t_X0_passHour_10 : (t_X0_passHour_10 a0 a1 a2 a3 a4 a6 a7 a9 b1 b2 b3 b5 b6 b7 b8 b9 p0 p1) = b9 := by unfold t_X0_passHour_10; rw [if_pos c1, if_pos c2, if_neg c3, if_neg c4, if_pos c5, if_pos c6]
              replace hM := hM.eq (hu_i (hu_n ne_h1_h0 ha_h1)).symm
              exact g_vret hx hb hr hlocks hM (Nat.zero_le _) (Nat.zero_le _) (by rw [e_t_X0_passHour_0, e_t_X0_passHour_1, e_t_X0_passHour_2, e_t_X0_passHour_3, e_t_X0_passHour_4, e_t_X0_passHour_5, e_t_X0_passHour_6, e_t_X0_passHour_7, e_t_X0_passHour_8, e_t_X0_passHour_9, e_t_X0_passHour_10]) dX0_passHour_92
    · refine lv_aload_n hx hb dX0_passHour_23 rfl (lv_at hl 0 rfl) ?_
      refine lv_aload_n hx hb dX0_passHour_24 rfl (lv_at hl 0 rfl) ?_
      refine fg_X0_21 hx hb hts hown hK hM ha_h0 dX0_passHour_25 ?_
      refine lv_aload_n hx hb dX0_passHour_28 rfl (lv_at hl 1 rfl) ?_
      refine fg_X0_49 hx hb hts hown hK hM ha_h1 dX0_passHour_29 ?_
      refine lv_bipush (v := (20 : Int32)) hx hb dX0_passHour_32 (by decide) ?_
      refine g_callSNi (n9 := 3) (As := [.int a1, .int b1, .int (20 : Int32)]) (rest := [.ref h0]) hx hb hml hl.1 hown hts hK hM (c_X6_towards l G _ a1 b1 (20 : Int32) ) hK.2.1.1 wt_X6_towards wn_X6 wc_X6_towards (by decide +kernel) ⟨Nat.le_of_ble_eq_true rfl, Nat.le_of_ble_eq_true rfl⟩ ⟨Nat.le_of_ble_eq_true rfl, Nat.le_of_ble_eq_true rfl⟩ rfl (Nat.le_of_ble_eq_true rfl) rfl dX0_passHour_34 (fun r_34 M1 H locs hq hM => ?_)
      have hq1 := hq.1.symm
      have hq2 := hq.2.symm
      subst hq1 hq2
      refine fp_X0_21 hx hb hts hown hK hM ha_h0 dX0_passHour_37 (fun H locs hM => ?_)
      have e_t_X0_passHour_0 : (t_X0_passHour_0 a1 a7 b1) = (t_X6_towards_0 a1 b1 (20 : Int32)) := by unfold t_X0_passHour_0; rw [if_pos c1, if_neg c2]
      have e_t_X0_passHour_1 : (t_X0_passHour_1 a1 a2 a3 a4 a7 a9 b1 b2 b3 b5 b6 b7 b8 p0 p1) = a3 := by unfold t_X0_passHour_1; rw [if_pos c1, if_neg c2]
      have e_t_X0_passHour_2 : (t_X0_passHour_2 a1 a2 a3 a4 a7 a9 b1 b2 b3 b5 b6 b7 b8 p0 p1) = a4 := by unfold t_X0_passHour_2; rw [if_pos c1, if_neg c2]
      have e_t_X0_passHour_3 : (t_X0_passHour_3 a1 a2 a3 a4 a5 a7 a9 b1 b2 b3 b5 b6 b7 b8 p0 p1) = a5 := by unfold t_X0_passHour_3; rw [if_pos c1, if_neg c2]
      have e_t_X0_passHour_4 : (t_X0_passHour_4 a1 a2 a3 a4 a6 a7 a9 b1 b2 b3 b5 b6 b7 b8 p0 p1) = a6 := by unfold t_X0_passHour_4; rw [if_pos c1, if_neg c2]
      have e_t_X0_passHour_5 : (t_X0_passHour_5 a1 a2 a3 a4 a6 a7 a9 b1 b2 b3 b5 b6 b7 b8 p0 p1) = a7 := by unfold t_X0_passHour_5; rw [if_pos c1, if_neg c2]
      have e_t_X0_passHour_6 : (t_X0_passHour_6 a1 a2 a3 a4 a7 a8 a9 b1 b2 b3 b5 b6 b7 b8 p0 p1) = a8 := by unfold t_X0_passHour_6; rw [if_pos c1, if_neg c2]
      have e_t_X0_passHour_7 : (t_X0_passHour_7 a1 a2 a3 a4 a7 a9 a10 b1 b2 b3 b5 b6 b7 b8 p0 p1) = a10 := by unfold t_X0_passHour_7; rw [if_pos c1, if_neg c2]
      have e_t_X0_passHour_8 : (t_X0_passHour_8 a1 a2 a3 a4 a7 a9 a11 b1 b2 b3 b5 b6 b7 b8 p0 p1) = a11 := by unfold t_X0_passHour_8; rw [if_pos c1, if_neg c2]
      have e_t_X0_passHour_9 : (t_X0_passHour_9 a1 a2 a3 a4 a7 a9 b1 b2 b3 b5 b6 b7 b8 p0 p1) = b5 := by unfold t_X0_passHour_9; rw [if_pos c1, if_neg c2]
      have e_t_X0_passHour_10 : (t_X0_passHour_10 a0 a1 a2 a3 a4 a6 a7 a9 b1 b2 b3 b5 b6 b7 b8 b9 p0 p1) = b9 := by unfold t_X0_passHour_10; rw [if_pos c1, if_neg c2]
      replace hM := hM.eq (hu_i (hu_n ne_h1_h0 ha_h1)).symm
      exact g_vret hx hb hr hlocks hM (Nat.zero_le _) (Nat.zero_le _) (by rw [e_t_X0_passHour_0, e_t_X0_passHour_1, e_t_X0_passHour_2, e_t_X0_passHour_3, e_t_X0_passHour_4, e_t_X0_passHour_5, e_t_X0_passHour_6, e_t_X0_passHour_7, e_t_X0_passHour_8, e_t_X0_passHour_9, e_t_X0_passHour_10]) dX0_passHour_40
set_option maxHeartbeats 4000000 in
set_option maxRecDepth 100000 in
theorem c_X0_passHourN (l : Launch) (G : GG) (M : HM) (h0 r0 : Nat) (a0 a1 a2 a3 a4 a5 a6 a7 a8 a9 a10 a11 : Int32) (p0 : Int32) (p1 : Int32) (ha_h0 : M h0 = some (r0, (.inr (1, [.int a0, .int a1, .int a2, .int a3, .int a4, .int a5, .int a6, .int a7, .int a8, .int a9, .int a10, .int a11])))) : Mv l yX0_passHour (.code yX0_passHour cX0_passHour 5 none :: AL) 0 0 0 0 [.ref h0, .null, .int p0, .int p1] G M (fun M' => M' = M) := by
  refine Mv.go (by decide) (Nat.le_of_ble_eq_true rfl) ?_
  intro p e s m below meth c ls hx hb hr hml hown hlocks hname hts hK hM hl
  have hown : s.vm.findClass RX0 = some m.cls := hown
  have hl : lv_has ls 5 [(0, .ref h0), (1, .null), (2, .int p0), (3, .int p1)] := hl
  refine lv_aload_n hx hb dX0_passHour_0 rfl (lv_at hl 0 rfl) ?_
  refine fg_X0_36 hx hb hts hown hK hM ha_h0 dX0_passHour_1 ?_
  refine lv_if_ne (tgt := 11) hx hb dX0_passHour_4 (by decide) (fun c1 => ?_) (fun c1 => ?_)
  · exact g_vret hx hb hr hlocks hM (Nat.zero_le _) (Nat.zero_le _) rfl dX0_passHour_11
  · refine lv_aload_nN hx hb dX0_passHour_7 rfl (lv_at hl 1 rfl) ?_
    refine lv_ifnonnullN hx hb dX0_passHour_8 ?_
    exact g_vret hx hb hr hlocks hM (Nat.zero_le _) (Nat.zero_le _) rfl dX0_passHour_11
set_option maxHeartbeats 4000000 in
set_option maxRecDepth 100000 in
theorem c_X0_init (l : Launch) (G : GG) (M : HM) (h0 r0 : Nat) (a0 a1 a2 a3 a4 a5 a6 a7 a8 a9 a10 a11 : Int32) (p0 : Int32) (p1 : Int32) (p2 : Int32) (ha_h0 : M h0 = some (r0, (.inr (1, [.int a0, .int a1, .int a2, .int a3, .int a4, .int a5, .int a6, .int a7, .int a8, .int a9, .int a10, .int a11])))) : Mv l yX0_init (.code yX0_init cX0_init 4 none :: AL) 1 20 0 0 [.ref h0, .int p0, .int p1, .int p2] G M (fun M' => M' = (hu M h0 r0 (.inr (1, [.int p0, .int p1, .int p2, .int a3, .int (-1 : Int32), .int a5, .int a6, .int a7, .int a8, .int (-1 : Int32), .int a10, .int a11])))) := by
  refine Mv.go (by decide) (Nat.le_of_ble_eq_true rfl) ?_
  intro p e s m below meth c ls hx hb hr hml hown hlocks hname hts hK hM hl
  have hown : s.vm.findClass RX0 = some m.cls := hown
  have hl : lv_has ls 4 [(0, .ref h0), (1, .int p0), (2, .int p1), (3, .int p2)] := hl
  refine lv_aload_n hx hb dX0_init_0 rfl (lv_at hl 0 rfl) ?_
  refine W.objInit hx hb hown (hts _ wm_X0_3) (hts _ wi_objinit) (hts _ wc_objinit) rfl (hl.1.trans hml.symm) rfl dX0_init_1 (Nat.le_of_ble_eq_true rfl) (Nat.le_of_ble_eq_true rfl) ?_
  refine W.eq (g2 := F0 m 4 ls []) rfl ?_
  refine lv_aload_n hx hb dX0_init_4 rfl (lv_at hl 0 rfl) ?_
  refine lv_iconst (v := (-1 : Int32)) hx hb dX0_init_5 (by decide) ?_
  refine fp_X0_9 hx hb hts hown hK hM ha_h0 dX0_init_6 (fun H locs hM => ?_)
  refine lv_aload_n hx hb dX0_init_9 rfl (lv_at hl 0 rfl) ?_
  refine lv_iconst (v := (-1 : Int32)) hx hb dX0_init_10 (by decide) ?_
  refine fp_X0_15 hx hb hts hown hK hM hu_s dX0_init_11 (fun H locs hM => ?_)
  replace hM := hM.eq (hu_u _ _ _ _ _ _)
  refine lv_aload_n hx hb dX0_init_14 rfl (lv_at hl 0 rfl) ?_
  refine lv_iload_n hx hb dX0_init_15 rfl (lv_at hl 1 rfl) ?_
  refine fp_X0_18 hx hb hts hown hK hM hu_s dX0_init_16 (fun H locs hM => ?_)
  replace hM := hM.eq (hu_u _ _ _ _ _ _)
  refine lv_aload_n hx hb dX0_init_19 rfl (lv_at hl 0 rfl) ?_
  refine lv_iload_n hx hb dX0_init_20 rfl (lv_at hl 2 rfl) ?_
  refine fp_X0_21 hx hb hts hown hK hM hu_s dX0_init_21 (fun H locs hM => ?_)
  replace hM := hM.eq (hu_u _ _ _ _ _ _)
  refine lv_aload_n hx hb dX0_init_24 rfl (lv_at hl 0 rfl) ?_
  refine lv_iload_n hx hb dX0_init_25 rfl (lv_at hl 3 rfl) ?_
  refine fp_X0_24 hx hb hts hown hK hM hu_s dX0_init_26 (fun H locs hM => ?_)
  replace hM := hM.eq (hu_u _ _ _ _ _ _)
  exact g_vret hx hb hr hlocks hM (Nat.zero_le _) (Nat.zero_le _) rfl dX0_init_29
set_option maxHeartbeats 4000000 in
set_option maxRecDepth 100000 in
theorem c_X0_copyFrom (l : Launch) (G : GG) (M : HM) (h0 r0 : Nat) (h1 r1 : Nat) (a0 a1 a2 a3 a4 a5 a6 a7 a8 a9 a10 a11 : Int32) (b0 b1 b2 b3 b4 b5 b6 b7 b8 b9 b10 b11 : Int32) (ha_h0 : M h0 = some (r0, (.inr (1, [.int a0, .int a1, .int a2, .int a3, .int a4, .int a5, .int a6, .int a7, .int a8, .int a9, .int a10, .int a11])))) (ha_h1 : M h1 = some (r1, (.inr (1, [.int b0, .int b1, .int b2, .int b3, .int b4, .int b5, .int b6, .int b7, .int b8, .int b9, .int b10, .int b11])))) (ne_h0_h1 : h0 ≠ h1) (hz_b7 : b7 = 0 ∨ b7 = 1) : Mv l yX0_copyFrom (.code yX0_copyFrom cX0_copyFrom 2 none :: AL) 0 0 0 0 [.ref h0, .ref h1] G M (fun M' => M' = (hu M h0 r0 (.inr (1, [.int b0, .int b1, .int b2, .int b3, .int b4, .int b5, .int b6, .int b7, .int b8, .int b9, .int b10, .int b11])))) := by
  refine Mv.go (by decide) (Nat.le_of_ble_eq_true rfl) ?_
  intro p e s m below meth c ls hx hb hr hml hown hlocks hname hts hK hM hl
  have hown : s.vm.findClass RX0 = some m.cls := hown
  have hl : lv_has ls 2 [(0, .ref h0), (1, .ref h1)] := hl
  have ne_h1_h0 : h1 ≠ h0 := Ne.symm ne_h0_h1
  refine lv_aload_n hx hb dX0_copyFrom_0 rfl (lv_at hl 0 rfl) ?_
  refine lv_aload_n hx hb dX0_copyFrom_1 rfl (lv_at hl 1 rfl) ?_
  refine fg_X0_18 hx hb hts hown hK hM ha_h1 dX0_copyFrom_2 ?_
  refine fp_X0_18 hx hb hts hown hK hM ha_h0 dX0_copyFrom_5 (fun H locs hM => ?_)
  refine lv_aload_n hx hb dX0_copyFrom_8 rfl (lv_at hl 0 rfl) ?_
  refine lv_aload_n hx hb dX0_copyFrom_9 rfl (lv_at hl 1 rfl) ?_
  refine fg_X0_21 hx hb hts hown hK hM (hu_n ne_h1_h0 ha_h1) dX0_copyFrom_10 ?_
  refine fp_X0_21 hx hb hts hown hK hM hu_s dX0_copyFrom_13 (fun H locs hM => ?_)
  replace hM := hM.eq (hu_u _ _ _ _ _ _)
  refine lv_aload_n hx hb dX0_copyFrom_16 rfl (lv_at hl 0 rfl) ?_
  refine lv_aload_n hx hb dX0_copyFrom_17 rfl (lv_at hl 1 rfl) ?_
  refine fg_X0_24 hx hb hts hown hK hM (hu_n ne_h1_h0 ha_h1) dX0_copyFrom_18 ?_
  refine fp_X0_24 hx hb hts hown hK hM hu_s dX0_copyFrom_21 (fun H locs hM => ?_)
  replace hM := hM.eq (hu_u _ _ _ _ _ _)
  refine lv_aload_n hx hb dX0_copyFrom_24 rfl (lv_at hl 0 rfl) ?_
  refine lv_aload_n hx hb dX0_copyFrom_25 rfl (lv_at hl 1 rfl) ?_
  refine fg_X0_27 hx hb hts hown hK hM (hu_n ne_h1_h0 ha_h1) dX0_copyFrom_26 ?_
  refine fp_X0_27 hx hb hts hown hK hM hu_s dX0_copyFrom_29 (fun H locs hM => ?_)
  replace hM := hM.eq (hu_u _ _ _ _ _ _)
  refine lv_aload_n hx hb dX0_copyFrom_32 rfl (lv_at hl 0 rfl) ?_
  refine lv_aload_n hx hb dX0_copyFrom_33 rfl (lv_at hl 1 rfl) ?_
  refine fg_X0_9 hx hb hts hown hK hM (hu_n ne_h1_h0 ha_h1) dX0_copyFrom_34 ?_
  refine fp_X0_9 hx hb hts hown hK hM hu_s dX0_copyFrom_37 (fun H locs hM => ?_)
  replace hM := hM.eq (hu_u _ _ _ _ _ _)
  refine lv_aload_n hx hb dX0_copyFrom_40 rfl (lv_at hl 0 rfl) ?_
  refine lv_aload_n hx hb dX0_copyFrom_41 rfl (lv_at hl 1 rfl) ?_
  refine fg_X0_30 hx hb hts hown hK hM (hu_n ne_h1_h0 ha_h1) dX0_copyFrom_42 ?_
  refine fp_X0_30 hx hb hts hown hK hM hu_s dX0_copyFrom_45 (fun H locs hM => ?_)
  replace hM := hM.eq (hu_u _ _ _ _ _ _)
  refine lv_aload_n hx hb dX0_copyFrom_48 rfl (lv_at hl 0 rfl) ?_
  refine lv_aload_n hx hb dX0_copyFrom_49 rfl (lv_at hl 1 rfl) ?_
  refine fg_X0_33 hx hb hts hown hK hM (hu_n ne_h1_h0 ha_h1) dX0_copyFrom_50 ?_
  refine fp_X0_33 hx hb hts hown hK hM hu_s dX0_copyFrom_53 (fun H locs hM => ?_)
  replace hM := hM.eq (hu_u _ _ _ _ _ _)
  refine lv_aload_n hx hb dX0_copyFrom_56 rfl (lv_at hl 0 rfl) ?_
  refine lv_aload_n hx hb dX0_copyFrom_57 rfl (lv_at hl 1 rfl) ?_
  refine fg_X0_36 hx hb hts hown hK hM (hu_n ne_h1_h0 ha_h1) dX0_copyFrom_58 ?_
  refine fp_X0_36 hx hb hts hown hK hM hz_b7 hu_s dX0_copyFrom_61 (fun H locs hM => ?_)
  replace hM := hM.eq (hu_u _ _ _ _ _ _)
  refine lv_aload_n hx hb dX0_copyFrom_64 rfl (lv_at hl 0 rfl) ?_
  refine lv_aload_n hx hb dX0_copyFrom_65 rfl (lv_at hl 1 rfl) ?_
  refine fg_X0_40 hx hb hts hown hK hM (hu_n ne_h1_h0 ha_h1) dX0_copyFrom_66 ?_
  refine fp_X0_40 hx hb hts hown hK hM hu_s dX0_copyFrom_69 (fun H locs hM => ?_)
  replace hM := hM.eq (hu_u _ _ _ _ _ _)
  refine lv_aload_n hx hb dX0_copyFrom_72 rfl (lv_at hl 0 rfl) ?_
  refine lv_aload_n hx hb dX0_copyFrom_73 rfl (lv_at hl 1 rfl) ?_
  refine fg_X0_15 hx hb hts hown hK hM (hu_n ne_h1_h0 ha_h1) dX0_copyFrom_74 ?_
  refine fp_X0_15 hx hb hts hown hK hM hu_s dX0_copyFrom_77 (fun H locs hM => ?_)
  replace hM := hM.eq (hu_u _ _ _ _ _ _)
  refine lv_aload_n hx hb dX0_copyFrom_80 rfl (lv_at hl 0 rfl) ?_
  refine lv_aload_n hx hb dX0_copyFrom_81 rfl (lv_at hl 1 rfl) ?_
  refine fg_X0_43 hx hb hts hown hK hM (hu_n ne_h1_h0 ha_h1) dX0_copyFrom_82 ?_
  refine fp_X0_43 hx hb hts hown hK hM hu_s dX0_copyFrom_85 (fun H locs hM => ?_)
  replace hM := hM.eq (hu_u _ _ _ _ _ _)
  refine lv_aload_n hx hb dX0_copyFrom_88 rfl (lv_at hl 0 rfl) ?_
  refine lv_aload_n hx hb dX0_copyFrom_89 rfl (lv_at hl 1 rfl) ?_
  refine fg_X0_46 hx hb hts hown hK hM (hu_n ne_h1_h0 ha_h1) dX0_copyFrom_90 ?_
  refine fp_X0_46 hx hb hts hown hK hM hu_s dX0_copyFrom_93 (fun H locs hM => ?_)
  replace hM := hM.eq (hu_u _ _ _ _ _ _)
  exact g_vret hx hb hr hlocks hM (Nat.zero_le _) (Nat.zero_le _) rfl dX0_copyFrom_96

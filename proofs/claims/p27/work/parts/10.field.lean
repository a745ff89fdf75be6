theorem hu_2 {M : HM} {a b r r2 r3 : Nat} {e e2 e3 : va_E} (h : b ≠ a) : hu (hu (hu M a r e) b r2 e2) a r3 e3 = hu (hu M a r3 e3) b r2 e2 := by
  rw [hu_c _ _ _ _ _ (Ne.symm h), hu_u, hu_c _ _ _ _ _ h]
abbrev mn (x y : Int32) : Int32 := if y < x then y else x
abbrev mx (x y : Int32) : Int32 := if x < y then y else x
abbrev ab (x : Int32) : Int32 := if 0 ≤ x then x else 0 - x
theorem gt_ne {x : Int32} (h : 0 < x) : ¬ x = 0 := fun e => by subst e; exact absurd h (by decide)
theorem nle_ne {x : Int32} (h : ¬ x ≤ 0) : ¬ x = 0 := fun e => by subst e; exact absurd (show (0 : Int32) ≤ 0 by decide) h
def t_X2_ripen_0 (a6 p0 : Int32) : Int32 := if p0 < (30 : Int32) then (if p0 < (15 : Int32) then (mn (a6 + (0 : Int32)) (100 : Int32)) else (mn (a6 + (1 : Int32)) (100 : Int32))) else (mn (a6 + (2 : Int32)) (100 : Int32))
set_option maxHeartbeats 4000000 in
set_option maxRecDepth 100000 in
theorem c_X2_ripen (l : Launch) (G : GG) (M : HM) (h0 r0 : Nat) (a0 a1 a2 a3 a4 a5 a6 a7 a8 a9 a10 a11 a12 : Int32) (p0 : Int32) (ha_h0 : M h0 = some (r0, (.inr (3, [.int a0, .int a1, .int a2, .int a3, .int a4, .int a5, .int a6, .int a7, .int a8, .int a9, .int a10, .int a11, .int a12])))) : Mv l yX2_ripen (.code yX2_ripen cX2_ripen 3 none :: AL) 1 21 0 0 [.ref h0, .int p0] G M (fun M' => M' = (hu M h0 r0 (.inr (3, [.int a0, .int a1, .int a2, .int a3, .int a4, .int a5, .int (t_X2_ripen_0 a6 p0), .int a7, .int a8, .int a9, .int a10, .int a11, .int a12])))) := by
  refine Mv.go (by decide) (Nat.le_of_ble_eq_true rfl) ?_
  intro p e s m below meth c ls hx hb hr hml hown hlocks hname hts hK hM hl
  have hown : s.vm.findClass RX2 = some m.cls := hown
  have hl : lv_has ls 3 [(0, .ref h0), (1, .int p0)] := hl
  refine lv_iload_n hx hb dX2_ripen_0 rfl (lv_at hl 1 rfl) ?_
  refine lv_bipush (v := (30 : Int32)) hx hb dX2_ripen_1 (by decide) ?_
  refine lv_icmp_lt (tgt := 10) hx hb dX2_ripen_3 (by decide) (fun c1 => ?_) (fun c1 => ?_)
  · refine lv_iload_n hx hb dX2_ripen_10 rfl (lv_at hl 1 rfl) ?_
    refine lv_bipush (v := (15 : Int32)) hx hb dX2_ripen_11 (by decide) ?_
    refine lv_icmp_lt (tgt := 20) hx hb dX2_ripen_13 (by decide) (fun c2 => ?_) (fun c2 => ?_)
    · refine lv_iconst (v := (0 : Int32)) hx hb dX2_ripen_20 (by decide) ?_
      refine lv_istore_n (lv' := [(2, .int (0 : Int32)), (0, .ref h0), (1, .int p0)]) hx hb dX2_ripen_21 rfl hl (by decide) rfl (fun ls hl => ?_)
      refine lv_aload_n hx hb dX2_ripen_22 rfl (lv_at hl 1 rfl) ?_
      refine lv_aload_n hx hb dX2_ripen_23 rfl (lv_at hl 1 rfl) ?_
      refine fg_X2_33 hx hb hts hown hK hM ha_h0 dX2_ripen_24 ?_
      refine lv_iload_n hx hb dX2_ripen_27 rfl (lv_at hl 0 rfl) ?_
      refine lv_iadd hx hb dX2_ripen_28 ?_
      refine lv_bipush (v := (100 : Int32)) hx hb dX2_ripen_29 (by decide) ?_
      refine va_mmin hx hb (hml.trans hl.1.symm) hown (hts _ wm_X2_62) (hts _ wt_mmin) (hts _ wn_java_lang_Math) (hts _ wc_mmin) (Nat.le_of_ble_eq_true rfl) (Nat.le_of_ble_eq_true rfl) (Nat.zero_le _) (Nat.zero_le _) dX2_ripen_31 ?_
      refine fp_X2_33 hx hb hts hown hK hM ha_h0 dX2_ripen_34 (fun H locs hM => ?_)
      have e_t_X2_ripen_0 : (t_X2_ripen_0 a6 p0) = (mn (a6 + (0 : Int32)) (100 : Int32)) := by unfold t_X2_ripen_0; rw [if_pos c1, if_pos c2]
      exact g_vret hx hb hr hlocks hM (Nat.zero_le _) (Nat.zero_le _) (by rw [e_t_X2_ripen_0]) dX2_ripen_37
    · refine lv_iconst (v := (1 : Int32)) hx hb dX2_ripen_16 (by decide) ?_
      refine lv_goto (tgt := 21) hx hb dX2_ripen_17 (by decide) ?_
      refine lv_istore_n (lv' := [(2, .int (1 : Int32)), (0, .ref h0), (1, .int p0)]) hx hb dX2_ripen_21 rfl hl (by decide) rfl (fun ls hl => ?_)
      refine lv_aload_n hx hb dX2_ripen_22 rfl (lv_at hl 1 rfl) ?_
      refine lv_aload_n hx hb dX2_ripen_23 rfl (lv_at hl 1 rfl) ?_
      refine fg_X2_33 hx hb hts hown hK hM ha_h0 dX2_ripen_24 ?_
      refine lv_iload_n hx hb dX2_ripen_27 rfl (lv_at hl 0 rfl) ?_
      refine lv_iadd hx hb dX2_ripen_28 ?_
      refine lv_bipush (v := (100 : Int32)) hx hb dX2_ripen_29 (by decide) ?_
      refine va_mmin hx hb (hml.trans hl.1.symm) hown (hts _ wm_X2_62) (hts _ wt_mmin) (hts _ wn_java_lang_Math) (hts _ wc_mmin) (Nat.le_of_ble_eq_true rfl) (Nat.le_of_ble_eq_true rfl) (Nat.zero_le _) (Nat.zero_le _) dX2_ripen_31 ?_
      refine fp_X2_33 hx hb hts hown hK hM ha_h0 dX2_ripen_34 (fun H locs hM => ?_)
      have e_t_X2_ripen_0 : (t_X2_ripen_0 a6 p0) = (mn (a6 + (1 : Int32)) (100 : Int32)) := by unfold t_X2_ripen_0; rw [if_pos c1, if_neg c2]
      exact g_vret hx hb hr hlocks hM (Nat.zero_le _) (Nat.zero_le _) (by rw [e_t_X2_ripen_0]) dX2_ripen_37
  · refine lv_iconst (v := (2 : Int32)) hx hb dX2_ripen_6 (by decide) ?_
    refine lv_goto (tgt := 21) hx hb dX2_ripen_7 (by decide) ?_
    refine lv_istore_n (lv' := [(2, .int (2 : Int32)), (0, .ref h0), (1, .int p0)]) hx hb dX2_ripen_21 rfl hl (by decide) rfl (fun ls hl => ?_)
    refine lv_aload_n hx hb dX2_ripen_22 rfl (lv_at hl 1 rfl) ?_
    refine lv_aload_n hx hb dX2_ripen_23 rfl (lv_at hl 1 rfl) ?_
    refine fg_X2_33 hx hb hts hown hK hM ha_h0 dX2_ripen_24 ?_
    refine lv_iload_n hx hb dX2_ripen_27 rfl (lv_at hl 0 rfl) ?_
    refine lv_iadd hx hb dX2_ripen_28 ?_
    refine lv_bipush (v := (100 : Int32)) hx hb dX2_ripen_29 (by decide) ?_
    refine va_mmin hx hb (hml.trans hl.1.symm) hown (hts _ wm_X2_62) (hts _ wt_mmin) (hts _ wn_java_lang_Math) (hts _ wc_mmin) (Nat.le_of_ble_eq_true rfl) (Nat.le_of_ble_eq_true rfl) (Nat.zero_le _) (Nat.zero_le _) dX2_ripen_31 ?_
    refine fp_X2_33 hx hb hts hown hK hM ha_h0 dX2_ripen_34 (fun H locs hM => ?_)
    have e_t_X2_ripen_0 : (t_X2_ripen_0 a6 p0) = (mn (a6 + (2 : Int32)) (100 : Int32)) := by unfold t_X2_ripen_0; rw [if_neg c1]
    exact g_vret hx hb hr hlocks hM (Nat.zero_le _) (Nat.zero_le _) (by rw [e_t_X2_ripen_0]) dX2_ripen_37
def t_X2_soakOrDry_0 (a6 a7 p0 p1 : Int32) : Int32 := if p1 ≤ 0 then (if a6 < (60 : Int32) then a7 else (if (p0 / (4 : Int32)) ≤ a7 then (if a7 ≤ (p0 / (4 : Int32)) then a7 else (mx (a7 - (1 : Int32)) (5 : Int32))) else (a7 + (1 : Int32)))) else (mn (a7 + p1) (40 : Int32))
set_option maxHeartbeats 4000000 in
set_option maxRecDepth 100000 in
theorem c_X2_soakOrDry (l : Launch) (G : GG) (M : HM) (h0 r0 : Nat) (a0 a1 a2 a3 a4 a5 a6 a7 a8 a9 a10 a11 a12 : Int32) (p0 : Int32) (p1 : Int32) (ha_h0 : M h0 = some (r0, (.inr (3, [.int a0, .int a1, .int a2, .int a3, .int a4, .int a5, .int a6, .int a7, .int a8, .int a9, .int a10, .int a11, .int a12])))) : Mv l yX2_soakOrDry (.code yX2_soakOrDry cX2_soakOrDry 3 none :: AL) 1 21 0 0 [.ref h0, .int p0, .int p1] G M (fun M' => M' = (hu M h0 r0 (.inr (3, [.int a0, .int a1, .int a2, .int a3, .int a4, .int a5, .int a6, .int (t_X2_soakOrDry_0 a6 a7 p0 p1), .int a8, .int a9, .int a10, .int a11, .int a12])))) := by
  refine Mv.go (by decide) (Nat.le_of_ble_eq_true rfl) ?_
  intro p e s m below meth c ls hx hb hr hml hown hlocks hname hts hK hM hl
  have hown : s.vm.findClass RX2 = some m.cls := hown
  have hl : lv_has ls 3 [(0, .ref h0), (1, .int p0), (2, .int p1)] := hl
  refine lv_iload_n hx hb dX2_soakOrDry_0 rfl (lv_at hl 2 rfl) ?_
  refine lv_if_le (tgt := 22) hx hb dX2_soakOrDry_1 (by decide) (fun c1 => ?_) (fun c1 => ?_)
  · refine lv_aload_n hx hb dX2_soakOrDry_22 rfl (lv_at hl 0 rfl) ?_
    refine fg_X2_33 hx hb hts hown hK hM ha_h0 dX2_soakOrDry_23 ?_
    refine lv_bipush (v := (60 : Int32)) hx hb dX2_soakOrDry_26 (by decide) ?_
    refine lv_icmp_lt (tgt := 78) hx hb dX2_soakOrDry_28 (by decide) (fun c2 => ?_) (fun c2 => ?_)
    · have e_t_X2_soakOrDry_0 : (t_X2_soakOrDry_0 a6 a7 p0 p1) = a7 := by unfold t_X2_soakOrDry_0; rw [if_pos c1, if_pos c2]
      replace hM := hM.eq (hu_i ha_h0).symm
      exact g_vret hx hb hr hlocks hM (Nat.zero_le _) (Nat.zero_le _) (by rw [e_t_X2_soakOrDry_0]) dX2_soakOrDry_78
    · refine lv_aload_n hx hb dX2_soakOrDry_31 rfl (lv_at hl 0 rfl) ?_
      refine fg_X2_9 hx hb hts hown hK hM ha_h0 dX2_soakOrDry_32 ?_
      refine lv_iload_n hx hb dX2_soakOrDry_35 rfl (lv_at hl 1 rfl) ?_
      refine lv_iconst (v := (4 : Int32)) hx hb dX2_soakOrDry_36 (by decide) ?_
      refine lv_idiv hx hb dX2_soakOrDry_37 (by decide) ?_
      refine lv_icmp_ge (tgt := 54) hx hb dX2_soakOrDry_38 (by decide) (fun c3 => ?_) (fun c3 => ?_)
      · refine lv_aload_n hx hb dX2_soakOrDry_54 rfl (lv_at hl 0 rfl) ?_
        refine fg_X2_9 hx hb hts hown hK hM ha_h0 dX2_soakOrDry_55 ?_
        refine lv_iload_n hx hb dX2_soakOrDry_58 rfl (lv_at hl 1 rfl) ?_
        refine lv_iconst (v := (4 : Int32)) hx hb dX2_soakOrDry_59 (by decide) ?_
        refine lv_idiv hx hb dX2_soakOrDry_60 (by decide) ?_
        refine lv_icmp_le (tgt := 78) hx hb dX2_soakOrDry_61 (by decide) (fun c4 => ?_) (fun c4 => ?_)
        · have e_t_X2_soakOrDry_0 : (t_X2_soakOrDry_0 a6 a7 p0 p1) = a7 := by unfold t_X2_soakOrDry_0; rw [if_pos c1, if_neg c2, if_pos c3, if_pos c4]
          replace hM := hM.eq (hu_i ha_h0).symm
          exact g_vret hx hb hr hlocks hM (Nat.zero_le _) (Nat.zero_le _) (by rw [e_t_X2_soakOrDry_0]) dX2_soakOrDry_78
        · refine lv_aload_n hx hb dX2_soakOrDry_64 rfl (lv_at hl 0 rfl) ?_
          refine lv_aload_n hx hb dX2_soakOrDry_65 rfl (lv_at hl 0 rfl) ?_
          refine fg_X2_9 hx hb hts hown hK hM ha_h0 dX2_soakOrDry_66 ?_
          refine lv_iconst (v := (1 : Int32)) hx hb dX2_soakOrDry_69 (by decide) ?_
          refine lv_isub hx hb dX2_soakOrDry_70 ?_
          refine lv_iconst (v := (5 : Int32)) hx hb dX2_soakOrDry_71 (by decide) ?_
          refine va_mmax hx hb (hml.trans hl.1.symm) hown (hts _ wm_X2_68) (hts _ wt_mmax) (hts _ wn_java_lang_Math) (hts _ wc_mmax) (Nat.le_of_ble_eq_true rfl) (Nat.le_of_ble_eq_true rfl) (Nat.zero_le _) (Nat.zero_le _) dX2_soakOrDry_72 ?_
          refine fp_X2_9 hx hb hts hown hK hM ha_h0 dX2_soakOrDry_75 (fun H locs hM => ?_)
          have e_t_X2_soakOrDry_0 : (t_X2_soakOrDry_0 a6 a7 p0 p1) = (mx (a7 - (1 : Int32)) (5 : Int32)) := by unfold t_X2_soakOrDry_0; rw [if_pos c1, if_neg c2, if_pos c3, if_neg c4]
          exact g_vret hx hb hr hlocks hM (Nat.zero_le _) (Nat.zero_le _) (by rw [e_t_X2_soakOrDry_0]) dX2_soakOrDry_78
      · refine lv_aload_n hx hb dX2_soakOrDry_41 rfl (lv_at hl 0 rfl) ?_
        refine lv_dup hx hb dX2_soakOrDry_42 rfl ?_
        refine fg_X2_9 hx hb hts hown hK hM ha_h0 dX2_soakOrDry_43 ?_
        refine lv_iconst (v := (1 : Int32)) hx hb dX2_soakOrDry_46 (by decide) ?_
        refine lv_iadd hx hb dX2_soakOrDry_47 ?_
        refine fp_X2_9 hx hb hts hown hK hM ha_h0 dX2_soakOrDry_48 (fun H locs hM => ?_)
        refine lv_goto (tgt := 78) hx hb dX2_soakOrDry_51 (by decide) ?_
        have e_t_X2_soakOrDry_0 : (t_X2_soakOrDry_0 a6 a7 p0 p1) = (a7 + (1 : Int32)) := by unfold t_X2_soakOrDry_0; rw [if_pos c1, if_neg c2, if_neg c3]
        exact g_vret hx hb hr hlocks hM (Nat.zero_le _) (Nat.zero_le _) (by rw [e_t_X2_soakOrDry_0]) dX2_soakOrDry_78
  · refine lv_aload_n hx hb dX2_soakOrDry_4 rfl (lv_at hl 0 rfl) ?_
    refine lv_aload_n hx hb dX2_soakOrDry_5 rfl (lv_at hl 0 rfl) ?_
    refine fg_X2_9 hx hb hts hown hK hM ha_h0 dX2_soakOrDry_6 ?_
    refine lv_iload_n hx hb dX2_soakOrDry_9 rfl (lv_at hl 2 rfl) ?_
    refine lv_iadd hx hb dX2_soakOrDry_10 ?_
    refine lv_bipush (v := (40 : Int32)) hx hb dX2_soakOrDry_11 (by decide) ?_
    refine va_mmin hx hb (hml.trans hl.1.symm) hown (hts _ wm_X2_62) (hts _ wt_mmin) (hts _ wn_java_lang_Math) (hts _ wc_mmin) (Nat.le_of_ble_eq_true rfl) (Nat.le_of_ble_eq_true rfl) (Nat.zero_le _) (Nat.zero_le _) dX2_soakOrDry_13 ?_
    refine fp_X2_9 hx hb hts hown hK hM ha_h0 dX2_soakOrDry_16 (fun H locs hM => ?_)
    refine lv_goto (tgt := 78) hx hb dX2_soakOrDry_19 (by decide) ?_
    have e_t_X2_soakOrDry_0 : (t_X2_soakOrDry_0 a6 a7 p0 p1) = (mn (a7 + p1) (40 : Int32)) := by unfold t_X2_soakOrDry_0; rw [if_neg c1]
    exact g_vret hx hb hr hlocks hM (Nat.zero_le _) (Nat.zero_le _) (by rw [e_t_X2_soakOrDry_0]) dX2_soakOrDry_78
def t_X2_shatter_0 (a6 a7 a8 p0 p1 : Int32) : Int32 := if (100 : Int32) ≤ a6 then (if p0 < (12 : Int32) then (if p1 < (10 : Int32) then (mn a8 (100 : Int32)) else (mn (a8 + (5 : Int32)) (100 : Int32))) else (if (17 : Int32) < p0 then (if p1 < (10 : Int32) then (mn a8 (100 : Int32)) else (mn (a8 + (5 : Int32)) (100 : Int32))) else (if (14 : Int32) ≤ a7 then (if p1 < (10 : Int32) then (mn a8 (100 : Int32)) else (mn (a8 + (5 : Int32)) (100 : Int32))) else (if p1 < (10 : Int32) then (mn (a8 + (1 : Int32)) (100 : Int32)) else (mn ((a8 + (1 : Int32)) + (5 : Int32)) (100 : Int32)))))) else a8
set_option maxHeartbeats 4000000 in
set_option maxRecDepth 100000 in
theorem c_X2_shatter (l : Launch) (G : GG) (M : HM) (h0 r0 : Nat) (a0 a1 a2 a3 a4 a5 a6 a7 a8 a9 a10 a11 a12 : Int32) (p0 : Int32) (p1 : Int32) (ha_h0 : M h0 = some (r0, (.inr (3, [.int a0, .int a1, .int a2, .int a3, .int a4, .int a5, .int a6, .int a7, .int a8, .int a9, .int a10, .int a11, .int a12])))) : Mv l yX2_shatter (.code yX2_shatter cX2_shatter 3 none :: AL) 1 21 0 0 [.ref h0, .int p0, .int p1] G M (fun M' => M' = (hu M h0 r0 (.inr (3, [.int a0, .int a1, .int a2, .int a3, .int a4, .int a5, .int a6, .int a7, .int (t_X2_shatter_0 a6 a7 a8 p0 p1), .int a9, .int a10, .int a11, .int a12])))) := by
  refine Mv.go (by decide) (Nat.le_of_ble_eq_true rfl) ?_
  intro p e s m below meth c ls hx hb hr hml hown hlocks hname hts hK hM hl
  have hown : s.vm.findClass RX2 = some m.cls := hown
  have hl : lv_has ls 3 [(0, .ref h0), (1, .int p0), (2, .int p1)] := hl
  refine lv_aload_n hx hb dX2_shatter_0 rfl (lv_at hl 0 rfl) ?_
  refine fg_X2_33 hx hb hts hown hK hM ha_h0 dX2_shatter_1 ?_
  refine lv_bipush (v := (100 : Int32)) hx hb dX2_shatter_4 (by decide) ?_
  refine lv_icmp_ge (tgt := 10) hx hb dX2_shatter_6 (by decide) (fun c1 => ?_) (fun c1 => ?_)
  · refine lv_iload_n hx hb dX2_shatter_10 rfl (lv_at hl 1 rfl) ?_
    refine lv_bipush (v := (12 : Int32)) hx hb dX2_shatter_11 (by decide) ?_
    refine lv_icmp_lt (tgt := 41) hx hb dX2_shatter_13 (by decide) (fun c2 => ?_) (fun c2 => ?_)
    · refine lv_iload_n hx hb dX2_shatter_41 rfl (lv_at hl 2 rfl) ?_
      refine lv_bipush (v := (10 : Int32)) hx hb dX2_shatter_42 (by decide) ?_
      refine lv_icmp_lt (tgt := 57) hx hb dX2_shatter_44 (by decide) (fun c3 => ?_) (fun c3 => ?_)
      · refine lv_aload_n hx hb dX2_shatter_57 rfl (lv_at hl 0 rfl) ?_
        refine lv_aload_n hx hb dX2_shatter_58 rfl (lv_at hl 0 rfl) ?_
        refine fg_X2_36 hx hb hts hown hK hM ha_h0 dX2_shatter_59 ?_
        refine lv_bipush (v := (100 : Int32)) hx hb dX2_shatter_62 (by decide) ?_
        refine va_mmin hx hb (hml.trans hl.1.symm) hown (hts _ wm_X2_62) (hts _ wt_mmin) (hts _ wn_java_lang_Math) (hts _ wc_mmin) (Nat.le_of_ble_eq_true rfl) (Nat.le_of_ble_eq_true rfl) (Nat.zero_le _) (Nat.zero_le _) dX2_shatter_64 ?_
        refine fp_X2_36 hx hb hts hown hK hM ha_h0 dX2_shatter_67 (fun H locs hM => ?_)
        have e_t_X2_shatter_0 : (t_X2_shatter_0 a6 a7 a8 p0 p1) = (mn a8 (100 : Int32)) := by unfold t_X2_shatter_0; rw [if_pos c1, if_pos c2, if_pos c3]
        exact g_vret hx hb hr hlocks hM (Nat.zero_le _) (Nat.zero_le _) (by rw [e_t_X2_shatter_0]) dX2_shatter_70
      · refine lv_aload_n hx hb dX2_shatter_47 rfl (lv_at hl 0 rfl) ?_
        refine lv_dup hx hb dX2_shatter_48 rfl ?_
        refine fg_X2_36 hx hb hts hown hK hM ha_h0 dX2_shatter_49 ?_
        refine lv_iconst (v := (5 : Int32)) hx hb dX2_shatter_52 (by decide) ?_
        refine lv_iadd hx hb dX2_shatter_53 ?_
        refine fp_X2_36 hx hb hts hown hK hM ha_h0 dX2_shatter_54 (fun H locs hM => ?_)
        refine lv_aload_n hx hb dX2_shatter_57 rfl (lv_at hl 0 rfl) ?_
        refine lv_aload_n hx hb dX2_shatter_58 rfl (lv_at hl 0 rfl) ?_
        refine fg_X2_36 hx hb hts hown hK hM hu_s dX2_shatter_59 ?_
        refine lv_bipush (v := (100 : Int32)) hx hb dX2_shatter_62 (by decide) ?_
        refine va_mmin hx hb (hml.trans hl.1.symm) hown (hts _ wm_X2_62) (hts _ wt_mmin) (hts _ wn_java_lang_Math) (hts _ wc_mmin) (Nat.le_of_ble_eq_true rfl) (Nat.le_of_ble_eq_true rfl) (Nat.zero_le _) (Nat.zero_le _) dX2_shatter_64 ?_
        refine fp_X2_36 hx hb hts hown hK hM hu_s dX2_shatter_67 (fun H locs hM => ?_)
        replace hM := hM.eq (hu_u _ _ _ _ _ _)
        have e_t_X2_shatter_0 : (t_X2_shatter_0 a6 a7 a8 p0 p1) = (mn (a8 + (5 : Int32)) (100 : Int32)) := by unfold t_X2_shatter_0; rw [if_pos c1, if_pos c2, if_neg c3]
        exact g_vret hx hb hr hlocks hM (Nat.zero_le _) (Nat.zero_le _) (by rw [e_t_X2_shatter_0]) dX2_shatter_70
    · refine lv_iload_n hx hb dX2_shatter_16 rfl (lv_at hl 1 rfl) ?_
      refine lv_bipush (v := (17 : Int32)) hx hb dX2_shatter_17 (by decide) ?_
      refine lv_icmp_gt (tgt := 41) hx hb dX2_shatter_19 (by decide) (fun c4 => ?_) (fun c4 => ?_)
      · refine lv_iload_n hx hb dX2_shatter_41 rfl (lv_at hl 2 rfl) ?_
        refine lv_bipush (v := (10 : Int32)) hx hb dX2_shatter_42 (by decide) ?_
        refine lv_icmp_lt (tgt := 57) hx hb dX2_shatter_44 (by decide) (fun c5 => ?_) (fun c5 => ?_)
        · refine lv_aload_n hx hb dX2_shatter_57 rfl (lv_at hl 0 rfl) ?_
          refine lv_aload_n hx hb dX2_shatter_58 rfl (lv_at hl 0 rfl) ?_
          refine fg_X2_36 hx hb hts hown hK hM ha_h0 dX2_shatter_59 ?_
          refine lv_bipush (v := (100 : Int32)) hx hb dX2_shatter_62 (by decide) ?_
          refine va_mmin hx hb (hml.trans hl.1.symm) hown (hts _ wm_X2_62) (hts _ wt_mmin) (hts _ wn_java_lang_Math) (hts _ wc_mmin) (Nat.le_of_ble_eq_true rfl) (Nat.le_of_ble_eq_true rfl) (Nat.zero_le _) (Nat.zero_le _) dX2_shatter_64 ?_
          refine fp_X2_36 hx hb hts hown hK hM ha_h0 dX2_shatter_67 (fun H locs hM => ?_)
          have e_t_X2_shatter_0 : (t_X2_shatter_0 a6 a7 a8 p0 p1) = (mn a8 (100 : Int32)) := by unfold t_X2_shatter_0; rw [if_pos c1, if_neg c2, if_pos c4, if_pos c5]
          exact g_vret hx hb hr hlocks hM (Nat.zero_le _) (Nat.zero_le _) (by rw [e_t_X2_shatter_0]) dX2_shatter_70
        · refine lv_aload_n hx hb dX2_shatter_47 rfl (lv_at hl 0 rfl) ?_
          refine lv_dup hx hb dX2_shatter_48 rfl ?_
          refine fg_X2_36 hx hb hts hown hK hM ha_h0 dX2_shatter_49 ?_
          refine lv_iconst (v := (5 : Int32)) hx hb dX2_shatter_52 (by decide) ?_
          refine lv_iadd hx hb dX2_shatter_53 ?_
          refine fp_X2_36 hx hb hts hown hK hM ha_h0 dX2_shatter_54 (fun H locs hM => ?_)
          refine lv_aload_n hx hb dX2_shatter_57 rfl (lv_at hl 0 rfl) ?_
          refine lv_aload_n hx hb dX2_shatter_58 rfl (lv_at hl 0 rfl) ?_
          refine fg_X2_36 hx hb hts hown hK hM hu_s dX2_shatter_59 ?_
          refine lv_bipush (v := (100 : Int32)) hx hb dX2_shatter_62 (by decide) ?_
          refine va_mmin hx hb (hml.trans hl.1.symm) hown (hts _ wm_X2_62) (hts _ wt_mmin) (hts _ wn_java_lang_Math) (hts _ wc_mmin) (Nat.le_of_ble_eq_true rfl) (Nat.le_of_ble_eq_true rfl) (Nat.zero_le _) (Nat.zero_le _) dX2_shatter_64 ?_
          refine fp_X2_36 hx hb hts hown hK hM hu_s dX2_shatter_67 (fun H locs hM => ?_)
          replace hM := hM.eq (hu_u _ _ _ _ _ _)
          have e_t_X2_shatter_0 : (t_X2_shatter_0 a6 a7 a8 p0 p1) = (mn (a8 + (5 : Int32)) (100 : Int32)) := by unfold t_X2_shatter_0; rw [if_pos c1, if_neg c2, if_pos c4, if_neg c5]
          exact g_vret hx hb hr hlocks hM (Nat.zero_le _) (Nat.zero_le _) (by rw [e_t_X2_shatter_0]) dX2_shatter_70
      · refine lv_aload_n hx hb dX2_shatter_22 rfl (lv_at hl 0 rfl) ?_
        refine fg_X2_9 hx hb hts hown hK hM ha_h0 dX2_shatter_23 ?_
        refine lv_bipush (v := (14 : Int32)) hx hb dX2_shatter_26 (by decide) ?_
        refine lv_icmp_ge (tgt := 41) hx hb dX2_shatter_28 (by decide) (fun c6 => ?_) (fun c6 => ?_)
        · refine lv_iload_n hx hb dX2_shatter_41 rfl (lv_at hl 2 rfl) ?_
          refine lv_bipush (v := (10 : Int32)) hx hb dX2_shatter_42 (by decide) ?_
          refine lv_icmp_lt (tgt := 57) hx hb dX2_shatter_44 (by decide) (fun c7 => ?_) (fun c7 => ?_)
          · refine lv_aload_n hx hb dX2_shatter_57 rfl (lv_at hl 0 rfl) ?_
            refine lv_aload_n hx hb dX2_shatter_58 rfl (lv_at hl 0 rfl) ?_
            refine fg_X2_36 hx hb hts hown hK hM ha_h0 dX2_shatter_59 ?_
            refine lv_bipush (v := (100 : Int32)) hx hb dX2_shatter_62 (by decide) ?_
            refine va_mmin hx hb (hml.trans hl.1.symm) hown (hts _ wm_X2_62) (hts _ wt_mmin) (hts _ wn_java_lang_Math) (hts _ wc_mmin) (Nat.le_of_ble_eq_true rfl) (Nat.le_of_ble_eq_true rfl) (Nat.zero_le _) (Nat.zero_le _) dX2_shatter_64 ?_
            refine fp_X2_36 hx hb hts hown hK hM ha_h0 dX2_shatter_67 (fun H locs hM => ?_)
            have e_t_X2_shatter_0 : (t_X2_shatter_0 a6 a7 a8 p0 p1) = (mn a8 (100 : Int32)) := by unfold t_X2_shatter_0; rw [if_pos c1, if_neg c2, if_neg c4, if_pos c6, if_pos c7]
            exact g_vret hx hb hr hlocks hM (Nat.zero_le _) (Nat.zero_le _) (by rw [e_t_X2_shatter_0]) dX2_shatter_70
          · refine lv_aload_n hx hb dX2_shatter_47 rfl (lv_at hl 0 rfl) ?_
            refine lv_dup hx hb dX2_shatter_48 rfl ?_
            refine fg_X2_36 hx hb hts hown hK hM ha_h0 dX2_shatter_49 ?_
            refine lv_iconst (v := (5 : Int32)) hx hb dX2_shatter_52 (by decide) ?_
            refine lv_iadd hx hb dX2_shatter_53 ?_
            refine fp_X2_36 hx hb hts hown hK hM ha_h0 dX2_shatter_54 (fun H locs hM => ?_)
            refine lv_aload_n hx hb dX2_shatter_57 rfl (lv_at hl 0 rfl) ?_
            refine lv_aload_n hx hb dX2_shatter_58 rfl (lv_at hl 0 rfl) ?_
            refine fg_X2_36 hx hb hts hown hK hM hu_s dX2_shatter_59 ?_
            refine lv_bipush (v := (100 : Int32)) hx hb dX2_shatter_62 (by decide) ?_
            refine va_mmin hx hb (hml.trans hl.1.symm) hown (hts _ wm_X2_62) (hts _ wt_mmin) (hts _ wn_java_lang_Math) (hts _ wc_mmin) (Nat.le_of_ble_eq_true rfl) (Nat.le_of_ble_eq_true rfl) (Nat.zero_le _) (Nat.zero_le _) dX2_shatter_64 ?_
            refine fp_X2_36 hx hb hts hown hK hM hu_s dX2_shatter_67 (fun H locs hM => ?_)
            replace hM := hM.eq (hu_u _ _ _ _ _ _)
            have e_t_X2_shatter_0 : (t_X2_shatter_0 a6 a7 a8 p0 p1) = (mn (a8 + (5 : Int32)) (100 : Int32)) := by unfold t_X2_shatter_0; rw [if_pos c1, if_neg c2, if_neg c4, if_pos c6, if_neg c7]
            exact g_vret hx hb hr hlocks hM (Nat.zero_le _) (Nat.zero_le _) (by rw [e_t_X2_shatter_0]) dX2_shatter_70
        · refine lv_aload_n hx hb dX2_shatter_31 rfl (lv_at hl 0 rfl) ?_
          refine lv_dup hx hb dX2_shatter_32 rfl ?_
          refine fg_X2_36 hx hb hts hown hK hM ha_h0 dX2_shatter_33 ?_
          refine lv_iconst (v := (1 : Int32)) hx hb dX2_shatter_36 (by decide) ?_
          refine lv_iadd hx hb dX2_shatter_37 ?_
          refine fp_X2_36 hx hb hts hown hK hM ha_h0 dX2_shatter_38 (fun H locs hM => ?_)
          refine lv_iload_n hx hb dX2_shatter_41 rfl (lv_at hl 2 rfl) ?_
          refine lv_bipush (v := (10 : Int32)) hx hb dX2_shatter_42 (by decide) ?_
          refine lv_icmp_lt (tgt := 57) hx hb dX2_shatter_44 (by decide) (fun c8 => ?_) (fun c8 => ?_)
          · refine lv_aload_n hx hb dX2_shatter_57 rfl (lv_at hl 0 rfl) ?_
            refine lv_aload_n hx hb dX2_shatter_58 rfl (lv_at hl 0 rfl) ?_
            refine fg_X2_36 hx hb hts hown hK hM hu_s dX2_shatter_59 ?_
            refine lv_bipush (v := (100 : Int32)) hx hb dX2_shatter_62 (by decide) ?_
            refine va_mmin hx hb (hml.trans hl.1.symm) hown (hts _ wm_X2_62) (hts _ wt_mmin) (hts _ wn_java_lang_Math) (hts _ wc_mmin) (Nat.le_of_ble_eq_true rfl) (Nat.le_of_ble_eq_true rfl) (Nat.zero_le _) (Nat.zero_le _) dX2_shatter_64 ?_
            refine fp_X2_36 hx hb hts hown hK hM hu_s dX2_shatter_67 (fun H locs hM => ?_)
            replace hM := hM.eq (hu_u _ _ _ _ _ _)
            have e_t_X2_shatter_0 : (t_X2_shatter_0 a6 a7 a8 p0 p1) = (mn (a8 + (1 : Int32)) (100 : Int32)) := by unfold t_X2_shatter_0; rw [if_pos c1, if_neg c2, if_neg c4, if_neg c6, if_pos c8]
            exact g_vret hx hb hr hlocks hM (Nat.zero_le _) (Nat.zero_le _) (by rw [e_t_X2_shatter_0]) dX2_shatter_70
          · refine lv_aload_n hx hb dX2_shatter_47 rfl (lv_at hl 0 rfl) ?_
            refine lv_dup hx hb dX2_shatter_48 rfl ?_
            refine fg_X2_36 hx hb hts hown hK hM hu_s dX2_shatter_49 ?_
            refine lv_iconst (v := (5 : Int32)) hx hb dX2_shatter_52 (by decide) ?_
            refine lv_iadd hx hb dX2_shatter_53 ?_
            refine fp_X2_36 hx hb hts hown hK hM hu_s dX2_shatter_54 (fun H locs hM => ?_)
            replace hM := hM.eq (hu_u _ _ _ _ _ _)
            refine lv_aload_n hx hb dX2_shatter_57 rfl (lv_at hl 0 rfl) ?_
            refine lv_aload_n hx hb dX2_shatter_58 rfl (lv_at hl 0 rfl) ?_
            refine fg_X2_36 hx hb hts hown hK hM hu_s dX2_shatter_59 ?_
            refine lv_bipush (v := (100 : Int32)) hx hb dX2_shatter_62 (by decide) ?_
            refine va_mmin hx hb (hml.trans hl.1.symm) hown (hts _ wm_X2_62) (hts _ wt_mmin) (hts _ wn_java_lang_Math) (hts _ wc_mmin) (Nat.le_of_ble_eq_true rfl) (Nat.le_of_ble_eq_true rfl) (Nat.zero_le _) (Nat.zero_le _) dX2_shatter_64 ?_
            refine fp_X2_36 hx hb hts hown hK hM hu_s dX2_shatter_67 (fun H locs hM => ?_)
            replace hM := hM.eq (hu_u _ _ _ _ _ _)
            have e_t_X2_shatter_0 : (t_X2_shatter_0 a6 a7 a8 p0 p1) = (mn ((a8 + (1 : Int32)) + (5 : Int32)) (100 : Int32)) := by unfold t_X2_shatter_0; rw [if_pos c1, if_neg c2, if_neg c4, if_neg c6, if_neg c8]
            exact g_vret hx hb hr hlocks hM (Nat.zero_le _) (Nat.zero_le _) (by rw [e_t_X2_shatter_0]) dX2_shatter_70
  · have e_t_X2_shatter_0 : (t_X2_shatter_0 a6 a7 a8 p0 p1) = a8 := by unfold t_X2_shatter_0; rw [if_neg c1]
    replace hM := hM.eq (hu_i ha_h0).symm
    exact g_vret hx hb hr hlocks hM (Nat.zero_le _) (Nat.zero_le _) (by rw [e_t_X2_shatter_0]) dX2_shatter_9
set_option maxHeartbeats 4000000 in
set_option maxRecDepth 100000 in
theorem c_X2_passHour (l : Launch) (G : GG) (M : HM) (h0 r0 : Nat) (a0 a1 a2 a3 a4 a5 a6 a7 a8 a9 a10 a11 a12 : Int32) (p0 : Int32) (p1 : Int32) (p2 : Int32) (p3 : Int32) (ha_h0 : M h0 = some (r0, (.inr (3, [.int a0, .int a1, .int a2, .int a3, .int a4, .int a5, .int a6, .int a7, .int a8, .int a9, .int a10, .int a11, .int a12])))) : Mv l yX2_passHour (.code yX2_passHour cX2_passHour 5 none :: AL) 2 43 0 0 [.ref h0, .int p0, .int p1, .int p2, .int p3] G M (fun M' => M' = (hu M h0 r0 (.inr (3, [.int a0, .int a1, .int a2, .int a3, .int a4, .int a5, .int (t_X2_ripen_0 a6 p1), .int (t_X2_soakOrDry_0 (t_X2_ripen_0 a6 p1) a7 p2 p3), .int (t_X2_shatter_0 (t_X2_ripen_0 a6 p1) (t_X2_soakOrDry_0 (t_X2_ripen_0 a6 p1) a7 p2 p3) a8 p0 p3), .int a9, .int a10, .int a11, .int a12])))) := by
  refine Mv.go (by decide) (Nat.le_of_ble_eq_true rfl) ?_
  intro p e s m below meth c ls hx hb hr hml hown hlocks hname hts hK hM hl
  have hown : s.vm.findClass RX2 = some m.cls := hown
  have hl : lv_has ls 5 [(0, .ref h0), (1, .int p0), (2, .int p1), (3, .int p2), (4, .int p3)] := hl
  refine lv_aload_n hx hb dX2_passHour_0 rfl (lv_at hl 0 rfl) ?_
  refine lv_iload_n hx hb dX2_passHour_1 rfl (lv_at hl 2 rfl) ?_
  refine g_callVv (n9 := 1) (As := [.int p1]) (rest := []) hx hb hml hl.1 hown hts hK hM (c_X2_ripen l G _ h0 r0 a0 a1 a2 a3 a4 a5 a6 a7 a8 a9 a10 a11 a12 p1 ha_h0) wm_X2_51 wi_X2_ripen wl_X2_ripen wn_X2 wc_X2_ripen (by decide +kernel) (hM.recv hK (ci := 3) rfl ha_h0) ⟨Nat.le_of_ble_eq_true rfl, Nat.le_of_ble_eq_true rfl⟩ ⟨Nat.le_of_ble_eq_true rfl, Nat.le_of_ble_eq_true rfl⟩ rfl (Nat.le_of_ble_eq_true rfl) rfl dX2_passHour_2 (fun M1 H locs hq hM => ?_)
  replace hq := hq.symm
  subst hq
  refine lv_aload_n hx hb dX2_passHour_5 rfl (lv_at hl 0 rfl) ?_
  refine lv_iload_n hx hb dX2_passHour_6 rfl (lv_at hl 3 rfl) ?_
  refine lv_iload hx hb dX2_passHour_7 (lv_at hl 4 rfl) ?_
  refine g_callVv (n9 := 2) (As := [.int p2, .int p3]) (rest := []) hx hb hml hl.1 hown hts hK hM (c_X2_soakOrDry l G _ h0 r0 a0 a1 a2 a3 a4 a5 (t_X2_ripen_0 a6 p1) a7 a8 a9 a10 a11 a12 p2 p3 hu_s) wm_X2_55 wi_X2_soakOrDry wl_X2_soakOrDry wn_X2 wc_X2_soakOrDry (by decide +kernel) (hM.recv hK (ci := 3) rfl hu_s) ⟨Nat.le_of_ble_eq_true rfl, Nat.le_of_ble_eq_true rfl⟩ ⟨Nat.le_of_ble_eq_true rfl, Nat.le_of_ble_eq_true rfl⟩ rfl (Nat.le_of_ble_eq_true rfl) rfl dX2_passHour_9 (fun M1 H locs hq hM => ?_)
  replace hq := hq.symm
  subst hq
  replace hM := hM.eq (hu_u _ _ _ _ _ _)
  refine lv_aload_n hx hb dX2_passHour_12 rfl (lv_at hl 0 rfl) ?_
  refine lv_iload_n hx hb dX2_passHour_13 rfl (lv_at hl 1 rfl) ?_
  refine lv_iload hx hb dX2_passHour_14 (lv_at hl 4 rfl) ?_
  refine g_callVv (n9 := 2) (As := [.int p0, .int p3]) (rest := []) hx hb hml hl.1 hown hts hK hM (c_X2_shatter l G _ h0 r0 a0 a1 a2 a3 a4 a5 (t_X2_ripen_0 a6 p1) (t_X2_soakOrDry_0 (t_X2_ripen_0 a6 p1) a7 p2 p3) a8 a9 a10 a11 a12 p0 p3 hu_s) wm_X2_59 wi_X2_shatter wl_X2_shatter wn_X2 wc_X2_shatter (by decide +kernel) (hM.recv hK (ci := 3) rfl hu_s) ⟨Nat.le_of_ble_eq_true rfl, Nat.le_of_ble_eq_true rfl⟩ ⟨Nat.le_of_ble_eq_true rfl, Nat.le_of_ble_eq_true rfl⟩ rfl (Nat.le_of_ble_eq_true rfl) rfl dX2_passHour_16 (fun M1 H locs hq hM => ?_)
  replace hq := hq.symm
  subst hq
  replace hM := hM.eq (hu_u _ _ _ _ _ _)
  exact g_vret hx hb hr hlocks hM (Nat.zero_le _) (Nat.zero_le _) rfl dX2_passHour_19
def t_X2_isFit_0 (a6 a7 p0 : Int32) : Int32 := if a6 < (80 : Int32) then (0 : Int32) else (if (20 : Int32) ≤ a7 then (0 : Int32) else (if p0 < (8 : Int32) then (0 : Int32) else (1 : Int32)))
theorem t_X2_isFit_0_01 {a6 a7 p0 : Int32} : (t_X2_isFit_0 a6 a7 p0) = 0 ∨ (t_X2_isFit_0 a6 a7 p0) = 1 := by unfold t_X2_isFit_0; (repeat' split) <;> first | exact Or.inl rfl | exact Or.inr rfl | assumption
set_option maxHeartbeats 4000000 in
set_option maxRecDepth 100000 in
theorem c_X2_isFit (l : Launch) (G : GG) (M : HM) (h0 r0 : Nat) (a0 a1 a2 a3 a4 a5 a6 a7 a8 a9 a10 a11 a12 : Int32) (p0 : Int32) (ha_h0 : M h0 = some (r0, (.inr (3, [.int a0, .int a1, .int a2, .int a3, .int a4, .int a5, .int a6, .int a7, .int a8, .int a9, .int a10, .int a11, .int a12])))) : Mi l yX2_isFit (.code yX2_isFit cX2_isFit 2 (some .boolean) :: AL) 0 0 0 0 [.ref h0, .int p0] G M (fun r M' => r = (t_X2_isFit_0 a6 a7 p0) ∧ M' = M) := by
  refine Mi.go (by decide) (Nat.le_of_ble_eq_true rfl) ?_
  intro p e s m below meth c ls hx hb hr hml hown hlocks hname hts hK hM hl
  have hown : s.vm.findClass RX2 = some m.cls := hown
  have hl : lv_has ls 2 [(0, .ref h0), (1, .int p0)] := hl
  refine lv_aload_n hx hb dX2_isFit_0 rfl (lv_at hl 0 rfl) ?_
  refine fg_X2_33 hx hb hts hown hK hM ha_h0 dX2_isFit_1 ?_
  refine lv_bipush (v := (80 : Int32)) hx hb dX2_isFit_4 (by decide) ?_
  refine lv_icmp_lt (tgt := 28) hx hb dX2_isFit_6 (by decide) (fun c1 => ?_) (fun c1 => ?_)
  · refine lv_iconst (v := (0 : Int32)) hx hb dX2_isFit_28 (by decide) ?_
    exact g_zret hx hb hr hlocks hM (Nat.zero_le _) (Nat.zero_le _) (nz01 (Or.inl rfl)) ⟨(show (0 : Int32) = (t_X2_isFit_0 a6 a7 p0) from Eq.symm (by unfold t_X2_isFit_0; rw [if_pos c1])), rfl⟩ dX2_isFit_29
  · refine lv_aload_n hx hb dX2_isFit_9 rfl (lv_at hl 0 rfl) ?_
    refine fg_X2_9 hx hb hts hown hK hM ha_h0 dX2_isFit_10 ?_
    refine lv_bipush (v := (20 : Int32)) hx hb dX2_isFit_13 (by decide) ?_
    refine lv_icmp_ge (tgt := 28) hx hb dX2_isFit_15 (by decide) (fun c2 => ?_) (fun c2 => ?_)
    · refine lv_iconst (v := (0 : Int32)) hx hb dX2_isFit_28 (by decide) ?_
      exact g_zret hx hb hr hlocks hM (Nat.zero_le _) (Nat.zero_le _) (nz01 (Or.inl rfl)) ⟨(show (0 : Int32) = (t_X2_isFit_0 a6 a7 p0) from Eq.symm (by unfold t_X2_isFit_0; rw [if_neg c1, if_pos c2])), rfl⟩ dX2_isFit_29
    · refine lv_iload_n hx hb dX2_isFit_18 rfl (lv_at hl 1 rfl) ?_
      refine lv_bipush (v := (8 : Int32)) hx hb dX2_isFit_19 (by decide) ?_
      refine lv_icmp_lt (tgt := 28) hx hb dX2_isFit_21 (by decide) (fun c3 => ?_) (fun c3 => ?_)
      · refine lv_iconst (v := (0 : Int32)) hx hb dX2_isFit_28 (by decide) ?_
        exact g_zret hx hb hr hlocks hM (Nat.zero_le _) (Nat.zero_le _) (nz01 (Or.inl rfl)) ⟨(show (0 : Int32) = (t_X2_isFit_0 a6 a7 p0) from Eq.symm (by unfold t_X2_isFit_0; rw [if_neg c1, if_neg c2, if_pos c3])), rfl⟩ dX2_isFit_29
      · refine lv_iconst (v := (1 : Int32)) hx hb dX2_isFit_24 (by decide) ?_
        refine lv_goto (tgt := 29) hx hb dX2_isFit_25 (by decide) ?_
        exact g_zret hx hb hr hlocks hM (Nat.zero_le _) (Nat.zero_le _) (nz01 (Or.inr rfl)) ⟨(show (1 : Int32) = (t_X2_isFit_0 a6 a7 p0) from Eq.symm (by unfold t_X2_isFit_0; rw [if_neg c1, if_neg c2, if_neg c3])), rfl⟩ dX2_isFit_29
def t_X2_uncut_0 (a2 a5 : Int32) : Int32 := (a2 - a5)
set_option maxHeartbeats 4000000 in
set_option maxRecDepth 100000 in
theorem c_X2_uncut (l : Launch) (G : GG) (M : HM) (h0 r0 : Nat) (a0 a1 a2 a3 a4 a5 a6 a7 a8 a9 a10 a11 a12 : Int32) (ha_h0 : M h0 = some (r0, (.inr (3, [.int a0, .int a1, .int a2, .int a3, .int a4, .int a5, .int a6, .int a7, .int a8, .int a9, .int a10, .int a11, .int a12])))) : Mi l yX2_uncut (.code yX2_uncut cX2_uncut 1 (some .int) :: AL) 0 0 0 0 [.ref h0] G M (fun r M' => r = (t_X2_uncut_0 a2 a5) ∧ M' = M) := by
  refine Mi.go (by decide) (Nat.le_of_ble_eq_true rfl) ?_
  intro p e s m below meth c ls hx hb hr hml hown hlocks hname hts hK hM hl
  have hown : s.vm.findClass RX2 = some m.cls := hown
  have hl : lv_has ls 1 [(0, .ref h0)] := hl
  refine lv_aload_n hx hb dX2_uncut_0 rfl (lv_at hl 0 rfl) ?_
  refine fg_X2_21 hx hb hts hown hK hM ha_h0 dX2_uncut_1 ?_
  refine lv_aload_n hx hb dX2_uncut_4 rfl (lv_at hl 0 rfl) ?_
  refine fg_X2_30 hx hb hts hown hK hM ha_h0 dX2_uncut_5 ?_
  refine lv_isub hx hb dX2_uncut_8 ?_
  exact g_iret hx hb hr hlocks hM (Nat.zero_le _) (Nat.zero_le _) ⟨rfl, rfl⟩ dX2_uncut_9
def t_X2_brings_0 (a3 a8 : Int32) : Int32 := ((a3 * ((100 : Int32) - a8)) / (100 : Int32))
set_option maxHeartbeats 4000000 in
set_option maxRecDepth 100000 in
theorem c_X2_brings (l : Launch) (G : GG) (M : HM) (h0 r0 : Nat) (a0 a1 a2 a3 a4 a5 a6 a7 a8 a9 a10 a11 a12 : Int32) (ha_h0 : M h0 = some (r0, (.inr (3, [.int a0, .int a1, .int a2, .int a3, .int a4, .int a5, .int a6, .int a7, .int a8, .int a9, .int a10, .int a11, .int a12])))) : Mi l yX2_brings (.code yX2_brings cX2_brings 1 (some .int) :: AL) 0 0 0 0 [.ref h0] G M (fun r M' => r = (t_X2_brings_0 a3 a8) ∧ M' = M) := by
  refine Mi.go (by decide) (Nat.le_of_ble_eq_true rfl) ?_
  intro p e s m below meth c ls hx hb hr hml hown hlocks hname hts hK hM hl
  have hown : s.vm.findClass RX2 = some m.cls := hown
  have hl : lv_has ls 1 [(0, .ref h0)] := hl
  refine lv_aload_n hx hb dX2_brings_0 rfl (lv_at hl 0 rfl) ?_
  refine fg_X2_24 hx hb hts hown hK hM ha_h0 dX2_brings_1 ?_
  refine lv_bipush (v := (100 : Int32)) hx hb dX2_brings_4 (by decide) ?_
  refine lv_aload_n hx hb dX2_brings_6 rfl (lv_at hl 0 rfl) ?_
  refine fg_X2_36 hx hb hts hown hK hM ha_h0 dX2_brings_7 ?_
  refine lv_isub hx hb dX2_brings_10 ?_
  refine lv_imul hx hb dX2_brings_11 ?_
  refine lv_bipush (v := (100 : Int32)) hx hb dX2_brings_12 (by decide) ?_
  refine lv_idiv hx hb dX2_brings_14 (by decide) ?_
  exact g_iret hx hb hr hlocks hM (Nat.zero_le _) (Nat.zero_le _) ⟨rfl, rfl⟩ dX2_brings_15
def t_X2_correction_0 (a9 a10 p0 : Int32) : Int32 := if a9 = 0 then (-1 : Int32) else (if p0 ≤ 0 then ((a10 * (1000 : Int32)) / a9) else (-1 : Int32))
set_option maxHeartbeats 4000000 in
set_option maxRecDepth 100000 in
theorem c_X2_correction (l : Launch) (G : GG) (M : HM) (h0 r0 : Nat) (a0 a1 a2 a3 a4 a5 a6 a7 a8 a9 a10 a11 a12 : Int32) (p0 : Int32) (ha_h0 : M h0 = some (r0, (.inr (3, [.int a0, .int a1, .int a2, .int a3, .int a4, .int a5, .int a6, .int a7, .int a8, .int a9, .int a10, .int a11, .int a12])))) : Mi l yX2_correction (.code yX2_correction cX2_correction 2 (some .int) :: AL) 0 0 0 0 [.ref h0, .int p0] G M (fun r M' => r = (t_X2_correction_0 a9 a10 p0) ∧ M' = M) := by
  refine Mi.go (by decide) (Nat.le_of_ble_eq_true rfl) ?_
  intro p e s m below meth c ls hx hb hr hml hown hlocks hname hts hK hM hl
  have hown : s.vm.findClass RX2 = some m.cls := hown
  have hl : lv_has ls 2 [(0, .ref h0), (1, .int p0)] := hl
  refine lv_aload_n hx hb dX2_correction_0 rfl (lv_at hl 0 rfl) ?_
  refine fg_X2_39 hx hb hts hown hK hM ha_h0 dX2_correction_1 ?_
  refine lv_if_eq (tgt := 11) hx hb dX2_correction_4 (by decide) (fun c1 => ?_) (fun c1 => ?_)
  · refine lv_iconst (v := (-1 : Int32)) hx hb dX2_correction_11 (by decide) ?_
    refine lv_goto (tgt := 28) hx hb dX2_correction_12 (by decide) ?_
    exact g_iret hx hb hr hlocks hM (Nat.zero_le _) (Nat.zero_le _) ⟨(show (-1 : Int32) = (t_X2_correction_0 a9 a10 p0) from Eq.symm (by unfold t_X2_correction_0; rw [if_pos c1])), rfl⟩ dX2_correction_28
  · refine lv_iload_n hx hb dX2_correction_7 rfl (lv_at hl 1 rfl) ?_
    refine lv_if_le (tgt := 15) hx hb dX2_correction_8 (by decide) (fun c2 => ?_) (fun c2 => ?_)
    · refine lv_aload_n hx hb dX2_correction_15 rfl (lv_at hl 0 rfl) ?_
      refine fg_X2_42 hx hb hts hown hK hM ha_h0 dX2_correction_16 ?_
      refine lv_sipush (v := (1000 : Int32)) hx hb dX2_correction_19 (by decide) ?_
      refine lv_imul hx hb dX2_correction_22 ?_
      refine lv_aload_n hx hb dX2_correction_23 rfl (lv_at hl 0 rfl) ?_
      refine fg_X2_39 hx hb hts hown hK hM ha_h0 dX2_correction_24 ?_
      refine lv_idiv hx hb dX2_correction_27 c1 ?_
      exact g_iret hx hb hr hlocks hM (Nat.zero_le _) (Nat.zero_le _) ⟨(show ((a10 * (1000 : Int32)) / a9) = (t_X2_correction_0 a9 a10 p0) from Eq.symm (by unfold t_X2_correction_0; rw [if_neg c1, if_pos c2])), rfl⟩ dX2_correction_28
    · refine lv_iconst (v := (-1 : Int32)) hx hb dX2_correction_11 (by decide) ?_
      refine lv_goto (tgt := 28) hx hb dX2_correction_12 (by decide) ?_
      exact g_iret hx hb hr hlocks hM (Nat.zero_le _) (Nat.zero_le _) ⟨(show (-1 : Int32) = (t_X2_correction_0 a9 a10 p0) from Eq.symm (by unfold t_X2_correction_0; rw [if_neg c1, if_neg c2])), rfl⟩ dX2_correction_28
set_option maxHeartbeats 4000000 in
set_option maxRecDepth 100000 in
theorem c_X2_credit (l : Launch) (G : GG) (M : HM) (h0 r0 : Nat) (a0 a1 a2 a3 a4 a5 a6 a7 a8 a9 a10 a11 a12 : Int32) (p0 : Int32) (p1 : Int32) (ha_h0 : M h0 = some (r0, (.inr (3, [.int a0, .int a1, .int a2, .int a3, .int a4, .int a5, .int a6, .int a7, .int a8, .int a9, .int a10, .int a11, .int a12])))) : Mv l yX2_credit (.code yX2_credit cX2_credit 4 none :: AL) 0 0 0 0 [.ref h0, .int p0, .int p1] G M (fun M' => M' = (hu M h0 r0 (.inr (3, [.int a0, .int a1, .int a2, .int a3, .int a4, .int a5, .int a6, .int a7, .int a8, .int a9, .int (a10 + p0), .int (a11 + (p1 - ((p1 * a4) / (100 : Int32)))), .int (a12 + ((p1 * a4) / (100 : Int32)))])))) := by
  refine Mv.go (by decide) (Nat.le_of_ble_eq_true rfl) ?_
  intro p e s m below meth c ls hx hb hr hml hown hlocks hname hts hK hM hl
  have hown : s.vm.findClass RX2 = some m.cls := hown
  have hl : lv_has ls 4 [(0, .ref h0), (1, .int p0), (2, .int p1)] := hl
  refine lv_iload_n hx hb dX2_credit_0 rfl (lv_at hl 2 rfl) ?_
  refine lv_aload_n hx hb dX2_credit_1 rfl (lv_at hl 0 rfl) ?_
  refine fg_X2_27 hx hb hts hown hK hM ha_h0 dX2_credit_2 ?_
  refine lv_imul hx hb dX2_credit_5 ?_
  refine lv_bipush (v := (100 : Int32)) hx hb dX2_credit_6 (by decide) ?_
  refine lv_idiv hx hb dX2_credit_8 (by decide) ?_
  refine lv_istore_n (lv' := [(3, .int ((p1 * a4) / (100 : Int32))), (0, .ref h0), (1, .int p0), (2, .int p1)]) hx hb dX2_credit_9 rfl hl (by decide) rfl (fun ls hl => ?_)
  refine lv_aload_n hx hb dX2_credit_10 rfl (lv_at hl 1 rfl) ?_
  refine lv_dup hx hb dX2_credit_11 rfl ?_
  refine fg_X2_42 hx hb hts hown hK hM ha_h0 dX2_credit_12 ?_
  refine lv_iload_n hx hb dX2_credit_15 rfl (lv_at hl 2 rfl) ?_
  refine lv_iadd hx hb dX2_credit_16 ?_
  refine fp_X2_42 hx hb hts hown hK hM ha_h0 dX2_credit_17 (fun H locs hM => ?_)
  refine lv_aload_n hx hb dX2_credit_20 rfl (lv_at hl 1 rfl) ?_
  refine lv_dup hx hb dX2_credit_21 rfl ?_
  refine fg_X2_48 hx hb hts hown hK hM hu_s dX2_credit_22 ?_
  refine lv_iload_n hx hb dX2_credit_25 rfl (lv_at hl 0 rfl) ?_
  refine lv_iadd hx hb dX2_credit_26 ?_
  refine fp_X2_48 hx hb hts hown hK hM hu_s dX2_credit_27 (fun H locs hM => ?_)
  replace hM := hM.eq (hu_u _ _ _ _ _ _)
  refine lv_aload_n hx hb dX2_credit_30 rfl (lv_at hl 1 rfl) ?_
  refine lv_dup hx hb dX2_credit_31 rfl ?_
  refine fg_X2_45 hx hb hts hown hK hM hu_s dX2_credit_32 ?_
  refine lv_iload_n hx hb dX2_credit_35 rfl (lv_at hl 3 rfl) ?_
  refine lv_iload_n hx hb dX2_credit_36 rfl (lv_at hl 0 rfl) ?_
  refine lv_isub hx hb dX2_credit_37 ?_
  refine lv_iadd hx hb dX2_credit_38 ?_
  refine fp_X2_45 hx hb hts hown hK hM hu_s dX2_credit_39 (fun H locs hM => ?_)
  replace hM := hM.eq (hu_u _ _ _ _ _ _)
  exact g_vret hx hb hr hlocks hM (Nat.zero_le _) (Nat.zero_le _) rfl dX2_credit_42
set_option maxHeartbeats 4000000 in
set_option maxRecDepth 100000 in
theorem c_X2_copyFrom (l : Launch) (G : GG) (M : HM) (h0 r0 : Nat) (h1 r1 : Nat) (a0 a1 a2 a3 a4 a5 a6 a7 a8 a9 a10 a11 a12 : Int32) (b0 b1 b2 b3 b4 b5 b6 b7 b8 b9 b10 b11 b12 : Int32) (ha_h0 : M h0 = some (r0, (.inr (3, [.int a0, .int a1, .int a2, .int a3, .int a4, .int a5, .int a6, .int a7, .int a8, .int a9, .int a10, .int a11, .int a12])))) (ha_h1 : M h1 = some (r1, (.inr (3, [.int b0, .int b1, .int b2, .int b3, .int b4, .int b5, .int b6, .int b7, .int b8, .int b9, .int b10, .int b11, .int b12])))) (ne_h0_h1 : h0 ≠ h1) : Mv l yX2_copyFrom (.code yX2_copyFrom cX2_copyFrom 2 none :: AL) 0 0 0 0 [.ref h0, .ref h1] G M (fun M' => M' = (hu M h0 r0 (.inr (3, [.int b0, .int b1, .int b2, .int b3, .int b4, .int b5, .int b6, .int b7, .int b8, .int b9, .int b10, .int b11, .int b12])))) := by
  refine Mv.go (by decide) (Nat.le_of_ble_eq_true rfl) ?_
  intro p e s m below meth c ls hx hb hr hml hown hlocks hname hts hK hM hl
  have hown : s.vm.findClass RX2 = some m.cls := hown
  have hl : lv_has ls 2 [(0, .ref h0), (1, .ref h1)] := hl
  have ne_h1_h0 : h1 ≠ h0 := Ne.symm ne_h0_h1
  refine lv_aload_n hx hb dX2_copyFrom_0 rfl (lv_at hl 0 rfl) ?_
  refine lv_aload_n hx hb dX2_copyFrom_1 rfl (lv_at hl 1 rfl) ?_
  refine fg_X2_15 hx hb hts hown hK hM ha_h1 dX2_copyFrom_2 ?_
  refine fp_X2_15 hx hb hts hown hK hM ha_h0 dX2_copyFrom_5 (fun H locs hM => ?_)
  refine lv_aload_n hx hb dX2_copyFrom_8 rfl (lv_at hl 0 rfl) ?_
  refine lv_aload_n hx hb dX2_copyFrom_9 rfl (lv_at hl 1 rfl) ?_
  refine fg_X2_18 hx hb hts hown hK hM (hu_n ne_h1_h0 ha_h1) dX2_copyFrom_10 ?_
  refine fp_X2_18 hx hb hts hown hK hM hu_s dX2_copyFrom_13 (fun H locs hM => ?_)
  replace hM := hM.eq (hu_u _ _ _ _ _ _)
  refine lv_aload_n hx hb dX2_copyFrom_16 rfl (lv_at hl 0 rfl) ?_
  refine lv_aload_n hx hb dX2_copyFrom_17 rfl (lv_at hl 1 rfl) ?_
  refine fg_X2_21 hx hb hts hown hK hM (hu_n ne_h1_h0 ha_h1) dX2_copyFrom_18 ?_
  refine fp_X2_21 hx hb hts hown hK hM hu_s dX2_copyFrom_21 (fun H locs hM => ?_)
  replace hM := hM.eq (hu_u _ _ _ _ _ _)
  refine lv_aload_n hx hb dX2_copyFrom_24 rfl (lv_at hl 0 rfl) ?_
  refine lv_aload_n hx hb dX2_copyFrom_25 rfl (lv_at hl 1 rfl) ?_
  refine fg_X2_24 hx hb hts hown hK hM (hu_n ne_h1_h0 ha_h1) dX2_copyFrom_26 ?_
  refine fp_X2_24 hx hb hts hown hK hM hu_s dX2_copyFrom_29 (fun H locs hM => ?_)
  replace hM := hM.eq (hu_u _ _ _ _ _ _)
  refine lv_aload_n hx hb dX2_copyFrom_32 rfl (lv_at hl 0 rfl) ?_
  refine lv_aload_n hx hb dX2_copyFrom_33 rfl (lv_at hl 1 rfl) ?_
  refine fg_X2_27 hx hb hts hown hK hM (hu_n ne_h1_h0 ha_h1) dX2_copyFrom_34 ?_
  refine fp_X2_27 hx hb hts hown hK hM hu_s dX2_copyFrom_37 (fun H locs hM => ?_)
  replace hM := hM.eq (hu_u _ _ _ _ _ _)
  refine lv_aload_n hx hb dX2_copyFrom_40 rfl (lv_at hl 0 rfl) ?_
  refine lv_aload_n hx hb dX2_copyFrom_41 rfl (lv_at hl 1 rfl) ?_
  refine fg_X2_30 hx hb hts hown hK hM (hu_n ne_h1_h0 ha_h1) dX2_copyFrom_42 ?_
  refine fp_X2_30 hx hb hts hown hK hM hu_s dX2_copyFrom_45 (fun H locs hM => ?_)
  replace hM := hM.eq (hu_u _ _ _ _ _ _)
  refine lv_aload_n hx hb dX2_copyFrom_48 rfl (lv_at hl 0 rfl) ?_
  refine lv_aload_n hx hb dX2_copyFrom_49 rfl (lv_at hl 1 rfl) ?_
  refine fg_X2_33 hx hb hts hown hK hM (hu_n ne_h1_h0 ha_h1) dX2_copyFrom_50 ?_
  refine fp_X2_33 hx hb hts hown hK hM hu_s dX2_copyFrom_53 (fun H locs hM => ?_)
  replace hM := hM.eq (hu_u _ _ _ _ _ _)
  refine lv_aload_n hx hb dX2_copyFrom_56 rfl (lv_at hl 0 rfl) ?_
  refine lv_aload_n hx hb dX2_copyFrom_57 rfl (lv_at hl 1 rfl) ?_
  refine fg_X2_9 hx hb hts hown hK hM (hu_n ne_h1_h0 ha_h1) dX2_copyFrom_58 ?_
  refine fp_X2_9 hx hb hts hown hK hM hu_s dX2_copyFrom_61 (fun H locs hM => ?_)
  replace hM := hM.eq (hu_u _ _ _ _ _ _)
  refine lv_aload_n hx hb dX2_copyFrom_64 rfl (lv_at hl 0 rfl) ?_
  refine lv_aload_n hx hb dX2_copyFrom_65 rfl (lv_at hl 1 rfl) ?_
  refine fg_X2_36 hx hb hts hown hK hM (hu_n ne_h1_h0 ha_h1) dX2_copyFrom_66 ?_
  refine fp_X2_36 hx hb hts hown hK hM hu_s dX2_copyFrom_69 (fun H locs hM => ?_)
  replace hM := hM.eq (hu_u _ _ _ _ _ _)
  refine lv_aload_n hx hb dX2_copyFrom_72 rfl (lv_at hl 0 rfl) ?_
  refine lv_aload_n hx hb dX2_copyFrom_73 rfl (lv_at hl 1 rfl) ?_
  refine fg_X2_39 hx hb hts hown hK hM (hu_n ne_h1_h0 ha_h1) dX2_copyFrom_74 ?_
  refine fp_X2_39 hx hb hts hown hK hM hu_s dX2_copyFrom_77 (fun H locs hM => ?_)
  replace hM := hM.eq (hu_u _ _ _ _ _ _)
  refine lv_aload_n hx hb dX2_copyFrom_80 rfl (lv_at hl 0 rfl) ?_
  refine lv_aload_n hx hb dX2_copyFrom_81 rfl (lv_at hl 1 rfl) ?_
  refine fg_X2_42 hx hb hts hown hK hM (hu_n ne_h1_h0 ha_h1) dX2_copyFrom_82 ?_
  refine fp_X2_42 hx hb hts hown hK hM hu_s dX2_copyFrom_85 (fun H locs hM => ?_)
  replace hM := hM.eq (hu_u _ _ _ _ _ _)
  refine lv_aload_n hx hb dX2_copyFrom_88 rfl (lv_at hl 0 rfl) ?_
  refine lv_aload_n hx hb dX2_copyFrom_89 rfl (lv_at hl 1 rfl) ?_
  refine fg_X2_45 hx hb hts hown hK hM (hu_n ne_h1_h0 ha_h1) dX2_copyFrom_90 ?_
  refine fp_X2_45 hx hb hts hown hK hM hu_s dX2_copyFrom_93 (fun H locs hM => ?_)
  replace hM := hM.eq (hu_u _ _ _ _ _ _)
  refine lv_aload_n hx hb dX2_copyFrom_96 rfl (lv_at hl 0 rfl) ?_
  refine lv_aload_n hx hb dX2_copyFrom_97 rfl (lv_at hl 1 rfl) ?_
  refine fg_X2_48 hx hb hts hown hK hM (hu_n ne_h1_h0 ha_h1) dX2_copyFrom_98 ?_
  refine fp_X2_48 hx hb hts hown hK hM hu_s dX2_copyFrom_101 (fun H locs hM => ?_)
  replace hM := hM.eq (hu_u _ _ _ _ _ _)
  exact g_vret hx hb hr hlocks hM (Nat.zero_le _) (Nat.zero_le _) rfl dX2_copyFrom_104
set_option maxHeartbeats 4000000 in
set_option maxRecDepth 100000 in
theorem c_X2_init (l : Launch) (G : GG) (M : HM) (h0 r0 : Nat) (a0 a1 a2 a3 a4 a5 a6 a7 a8 a9 a10 a11 a12 : Int32) (p0 : Int32) (p1 : Int32) (p2 : Int32) (p3 : Int32) (p4 : Int32) (ha_h0 : M h0 = some (r0, (.inr (3, [.int a0, .int a1, .int a2, .int a3, .int a4, .int a5, .int a6, .int a7, .int a8, .int a9, .int a10, .int a11, .int a12])))) : Mv l yX2_init (.code yX2_init cX2_init 6 none :: AL) 1 20 0 0 [.ref h0, .int p0, .int p1, .int p2, .int p3, .int p4] G M (fun M' => M' = (hu M h0 r0 (.inr (3, [.int p0, .int p1, .int p2, .int p3, .int p4, .int a5, .int a6, .int (30 : Int32), .int a8, .int a9, .int a10, .int a11, .int a12])))) := by
  refine Mv.go (by decide) (Nat.le_of_ble_eq_true rfl) ?_
  intro p e s m below meth c ls hx hb hr hml hown hlocks hname hts hK hM hl
  have hown : s.vm.findClass RX2 = some m.cls := hown
  have hl : lv_has ls 6 [(0, .ref h0), (1, .int p0), (2, .int p1), (3, .int p2), (4, .int p3), (5, .int p4)] := hl
  refine lv_aload_n hx hb dX2_init_0 rfl (lv_at hl 0 rfl) ?_
  refine W.objInit hx hb hown (hts _ wm_X2_3) (hts _ wi_objinit) (hts _ wc_objinit) rfl (hl.1.trans hml.symm) rfl dX2_init_1 (Nat.le_of_ble_eq_true rfl) (Nat.le_of_ble_eq_true rfl) ?_
  refine W.eq (g2 := F0 m 4 ls []) rfl ?_
  refine lv_aload_n hx hb dX2_init_4 rfl (lv_at hl 0 rfl) ?_
  refine lv_bipush (v := (30 : Int32)) hx hb dX2_init_5 (by decide) ?_
  refine fp_X2_9 hx hb hts hown hK hM ha_h0 dX2_init_7 (fun H locs hM => ?_)
  refine lv_aload_n hx hb dX2_init_10 rfl (lv_at hl 0 rfl) ?_
  refine lv_iload_n hx hb dX2_init_11 rfl (lv_at hl 1 rfl) ?_
  refine fp_X2_15 hx hb hts hown hK hM hu_s dX2_init_12 (fun H locs hM => ?_)
  replace hM := hM.eq (hu_u _ _ _ _ _ _)
  refine lv_aload_n hx hb dX2_init_15 rfl (lv_at hl 0 rfl) ?_
  refine lv_iload_n hx hb dX2_init_16 rfl (lv_at hl 2 rfl) ?_
  refine fp_X2_18 hx hb hts hown hK hM hu_s dX2_init_17 (fun H locs hM => ?_)
  replace hM := hM.eq (hu_u _ _ _ _ _ _)
  refine lv_aload_n hx hb dX2_init_20 rfl (lv_at hl 0 rfl) ?_
  refine lv_iload_n hx hb dX2_init_21 rfl (lv_at hl 3 rfl) ?_
  refine fp_X2_21 hx hb hts hown hK hM hu_s dX2_init_22 (fun H locs hM => ?_)
  replace hM := hM.eq (hu_u _ _ _ _ _ _)
  refine lv_aload_n hx hb dX2_init_25 rfl (lv_at hl 0 rfl) ?_
  refine lv_iload hx hb dX2_init_26 (lv_at hl 4 rfl) ?_
  refine fp_X2_24 hx hb hts hown hK hM hu_s dX2_init_28 (fun H locs hM => ?_)
  replace hM := hM.eq (hu_u _ _ _ _ _ _)
  refine lv_aload_n hx hb dX2_init_31 rfl (lv_at hl 0 rfl) ?_
  refine lv_iload hx hb dX2_init_32 (lv_at hl 5 rfl) ?_
  refine fp_X2_27 hx hb hts hown hK hM hu_s dX2_init_34 (fun H locs hM => ?_)
  replace hM := hM.eq (hu_u _ _ _ _ _ _)
  exact g_vret hx hb hr hlocks hM (Nat.zero_le _) (Nat.zero_le _) rfl dX2_init_37

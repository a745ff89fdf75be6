theorem nfX3 : ∀ j, j < 9 → defaultValue (tyX3 j) = vp_V [.null, .null, .null, .null, .null, .int 0, .int 0, .int 0, .int 0] j := by
  intro j hj
  match j, hj with
  | 0, _ => rfl
  | 1, _ => rfl
  | 2, _ => rfl
  | 3, _ => rfl
  | 4, _ => rfl
  | 5, _ => rfl
  | 6, _ => rfl
  | 7, _ => rfl
  | 8, _ => rfl
set_option maxHeartbeats 4000000 in
set_option maxRecDepth 100000 in
theorem c_X6_init (l : Launch) (G : GG) (M : HM) (xa rx t t2 r3 : Nat) (T0 T1 : Tb) (hh : M xa = some (rx, (.inr (7, [.null, .null, .null])))) (d01 : t ≠ rx) (d02 : t2 ≠ rx) (d03 : r3 ≠ rx) (d12 : t ≠ t2) (d13 : t ≠ r3) (d23 : t2 ≠ r3) (d10 : rx ≠ t) (d20 : rx ≠ t2) (d30 : rx ≠ r3) : Mv l yX6_init (.code yX6_init cX6_init 1 none :: AL) 5 101 13 61 [.ref xa] G M (fun M' => ∃ h0 h2 h3 Y Yt ft, M' xa = some (rx, .inr (7, [.ref h0, .ref h2, .ref h3])) ∧ LdR G M' t h0 Y (fun _ => 0) T0 0 0 400 1000 ∧ LdR G M' t2 h2 Yt (fun _ => 0) T1 1 0 400 1000 ∧ M' h3 = some (r3, eC 0 ft) ∧ ∀ q r e, r ≠ t → r ≠ t2 → r ≠ r3 → r ≠ rx → M q = some (r, e) → M' q = some (r, e)) := by
  refine Mv.go (by decide) (Nat.le_of_ble_eq_true rfl) ?_
  intro p e s m below meth c ls hx hb hr hml hown hlocks hname hts hK hM hl
  have hown : s.vm.findClass RX6 = some m.cls := hown
  have hl : lv_has ls 1 [(0, .ref xa)] := hl
  refine lv_aload_n hx hb dX6_init_0 rfl (lv_at hl 0 rfl) ?_
  refine W.objInit hx hb hown (hts _ wm_X6_1) (hts _ wi_objinit) (hts _ wc_objinit) rfl (hl.1.trans hml.symm) rfl dX6_init_1 (Nat.le_of_ble_eq_true rfl) (Nat.le_of_ble_eq_true rfl) ?_
  refine W.eq (g2 := F0 m 4 ls []) rfl ?_
  refine lv_aload_n hx hb dX6_init_4 rfl (lv_at hl 0 rfl) ?_
  refine g_new (ci := 4) (fs := [.null, .null, .null, .null, .null, .int 0, .int 0, .int 0, .int 0]) hx hb hts hown hK hM iaX3 rfl tyX3 tyX3_ok wk_X6_7 wb_X3 wn_X3 nfX3 t (Nat.le_of_ble_eq_true rfl) (Nat.le_of_ble_eq_true rfl) dX6_init_5 (fun q0 H hq0 hM => ?_)
  refine lv_dup hx hb dX6_init_8 rfl ?_
  refine lv_iconst (v := (0 : Int32)) hx hb dX6_init_9 (by decide) ?_
  refine g_callIv (n9 := 1) (As := [.int (0 : Int32)]) (rest := [.ref q0, .ref xa]) hx hb hml hl.1 hown hts hK hM (c_X3_init l G _ q0 t 0 T0 hu_s (Or.inl rfl)) wm_X6_9 wi_X3_init wn_X3 rfl wc_X3_init (by decide +kernel) ⟨Nat.le_of_ble_eq_true rfl, Nat.le_of_ble_eq_true rfl⟩ ⟨Nat.le_of_ble_eq_true rfl, Nat.le_of_ble_eq_true rfl⟩ rfl (Nat.le_of_ble_eq_true rfl) rfl dX6_init_10 (fun N0 H locs hq hM => ?_)
  obtain ⟨Y0, gL0, gF0⟩ := hq
  have gG0 : Fr t M N0 := Fr.tr (Fr.new hq0) gF0
  have gx0 : N0 xa = some (rx, (.inr (7, [.null, .null, .null]))) := gG0 _ _ _ (by assumption) hh
  refine fp_X6_12 hx hb hts hown hK hM hname gx0 dX6_init_13 (fun H locs hM => ?_)
  obtain ⟨M1, eM1⟩ : ∃ z, z = hu N0 xa rx (.inr (7, [.ref q0, .null, .null])) := ⟨_, rfl⟩
  replace hM := hM.eq eM1.symm
  have hh1 : M1 xa = some (rx, (.inr (7, [.ref q0, .null, .null]))) := by rw [eM1]; exact hu_s
  have fx1 : Fr rx N0 M1 := by rw [eM1]; exact Fr.up gx0
  refine lv_aload_n hx hb dX6_init_16 rfl (lv_at hl 0 rfl) ?_
  refine g_new (ci := 4) (fs := [.null, .null, .null, .null, .null, .int 0, .int 0, .int 0, .int 0]) hx hb hts hown hK hM iaX3 rfl tyX3 tyX3_ok wk_X6_7 wb_X3 wn_X3 nfX3 t2 (Nat.le_of_ble_eq_true rfl) (Nat.le_of_ble_eq_true rfl) dX6_init_17 (fun q1 H hq1 hM => ?_)
  refine lv_dup hx hb dX6_init_20 rfl ?_
  refine lv_iconst (v := (1 : Int32)) hx hb dX6_init_21 (by decide) ?_
  refine g_callIv (n9 := 1) (As := [.int (1 : Int32)]) (rest := [.ref q1, .ref xa]) hx hb hml hl.1 hown hts hK hM (c_X3_init l G _ q1 t2 1 T1 hu_s (Or.inr rfl)) wm_X6_9 wi_X3_init wn_X3 rfl wc_X3_init (by decide +kernel) ⟨Nat.le_of_ble_eq_true rfl, Nat.le_of_ble_eq_true rfl⟩ ⟨Nat.le_of_ble_eq_true rfl, Nat.le_of_ble_eq_true rfl⟩ rfl (Nat.le_of_ble_eq_true rfl) rfl dX6_init_22 (fun N1 H locs hq hM => ?_)
  obtain ⟨Y1, gL1, gF1⟩ := hq
  have gG1 : Fr t2 M1 N1 := Fr.tr (Fr.new hq1) gF1
  have gx1 : N1 xa = some (rx, (.inr (7, [.ref q0, .null, .null]))) := gG1 _ _ _ (by assumption) hh1
  refine fp_X6_18 hx hb hts hown hK hM hname gx1 dX6_init_25 (fun H locs hM => ?_)
  obtain ⟨M2, eM2⟩ : ∃ z, z = hu N1 xa rx (.inr (7, [.ref q0, .ref q1, .null])) := ⟨_, rfl⟩
  replace hM := hM.eq eM2.symm
  have hh2 : M2 xa = some (rx, (.inr (7, [.ref q0, .ref q1, .null]))) := by rw [eM2]; exact hu_s
  have fx2 : Fr rx N1 M2 := by rw [eM2]; exact Fr.up gx1
  refine lv_aload_n hx hb dX6_init_28 rfl (lv_at hl 0 rfl) ?_
  refine g_new (ci := 3) (fs := [.int 0, .int 0, .int 0, .int 0, .int 0, .int 0, .int 0, .int 0, .int 0, .int 0, .int 0, .int 0, .int 0]) hx hb hts hown hK hM iaX2 rfl tyX2 tyX2_ok wk_X6_21 wb_X2 wn_X2 nfX2 r3 (Nat.le_of_ble_eq_true rfl) (Nat.le_of_ble_eq_true rfl) dX6_init_29 (fun q2 H hq2 hM => ?_)
  refine lv_dup hx hb dX6_init_32 rfl ?_
  refine lv_iconst (v := (0 : Int32)) hx hb dX6_init_33 (by decide) ?_
  refine lv_iconst (v := (0 : Int32)) hx hb dX6_init_34 (by decide) ?_
  refine lv_iconst (v := (0 : Int32)) hx hb dX6_init_35 (by decide) ?_
  refine lv_iconst (v := (0 : Int32)) hx hb dX6_init_36 (by decide) ?_
  refine lv_iconst (v := (0 : Int32)) hx hb dX6_init_37 (by decide) ?_
  refine g_callIv (n9 := 5) (As := [.int (0 : Int32), .int (0 : Int32), .int (0 : Int32), .int (0 : Int32), .int (0 : Int32)]) (rest := [.ref q2, .ref xa]) hx hb hml hl.1 hown hts hK hM (cr_X2_init l G _ q2 r3 (fun _ => 0) (0 : Int32) (0 : Int32) (0 : Int32) (0 : Int32) (0 : Int32) hu_s) wm_X6_23 wi_X2_init wn_X2 rfl wc_X2_init (by decide +kernel) ⟨Nat.le_of_ble_eq_true rfl, Nat.le_of_ble_eq_true rfl⟩ ⟨Nat.le_of_ble_eq_true rfl, Nat.le_of_ble_eq_true rfl⟩ rfl (Nat.le_of_ble_eq_true rfl) rfl dX6_init_38 (fun N2 H locs hq hM => ?_)
  have gG2 : Fr r3 M2 N2 := by rw [hq, hu_u]; exact Fr.new hq2
  have gf2 : N2 q2 = some (r3, eC 0 (R_X2_init_0 (fun _ => 0) (0 : Int32) (0 : Int32) (0 : Int32) (0 : Int32) (0 : Int32))) := by rw [hq]; exact hu_s
  have gx2 : N2 xa = some (rx, (.inr (7, [.ref q0, .ref q1, .null]))) := gG2 _ _ _ (by assumption) hh2
  refine fp_X6_26 hx hb hts hown hK hM hname gx2 dX6_init_41 (fun H locs hM => ?_)
  obtain ⟨M3, eM3⟩ : ∃ z, z = hu N2 xa rx (.inr (7, [.ref q0, .ref q1, .ref q2])) := ⟨_, rfl⟩
  replace hM := hM.eq eM3.symm
  have hh3 : M3 xa = some (rx, (.inr (7, [.ref q0, .ref q1, .ref q2]))) := by rw [eM3]; exact hu_s
  have fx3 : Fr rx N2 M3 := by rw [eM3]; exact Fr.up gx2
  have a1 := (gL0.frame d01 fx1)
  have a2 := (a1.frame d12 gG1)
  have a3 := ((a2.frame d01 fx2).frame d13 gG2).frame d01 fx3
  have b3 := ((gL1.frame d02 fx2).frame d23 gG2).frame d02 fx3
  have c3 := fx3 _ _ _ d03 gf2
  exact g_vret hx hb hr hlocks hM (Nat.le_of_ble_eq_true rfl) (Nat.le_of_ble_eq_true rfl) ⟨q0, q1, q2, Y0, Y1, _, hh3, a3, b3, c3, fun q r e z1 z2 z3 z4 hq => fx3 _ _ _ z4 (gG2 _ _ _ z3 (fx2 _ _ _ z4 (gG1 _ _ _ z2 (fx1 _ _ _ z4 (gG0 _ _ _ z1 hq)))))⟩ dX6_init_44

theorem nfX6 : ∀ j, j < 3 → defaultValue (tyX6 j) = vp_V [.null, .null, .null] j := by
  intro j hj
  match j, hj with
  | 0, _ => rfl
  | 1, _ => rfl
  | 2, _ => rfl
def T0 : Tb := fun _ _ _ => 0
set_option maxHeartbeats 4000000 in
set_option maxRecDepth 100000 in
theorem c_X7_init (l : Launch) (G : GG) (M : HM) (ρ tt b d : Nat) (hh : M tt = some (ρ, .inr (8, [.null, .null, .int 0, .null, .null, .null, .null, .null, .null, .int 0, .int 0, .int 0]))) : Mv l yX7_init (.code yX7_init cX7_init 3 none :: AL) 6 150 20 72 [.ref tt, .ref b, .int (nI d)] G M (fun M' => ∃ xa, TO G M' ρ tt xa b d 0 0 0 0 (fun _ => 0) 0 (fun _ => 0) T0 0 1000 ∧ Sb ρ M M') := by
  refine Mv.go (by decide) (Nat.le_of_ble_eq_true rfl) ?_
  intro p e s m below meth c ls hx hb hr hml hown hlocks hname hts hK hM hl
  have hown : s.vm.findClass RX7 = some m.cls := hown
  have hl : lv_has ls 3 [(0, .ref tt), (1, .ref b), (2, .int (nI d))] := hl
  refine lv_aload_n hx hb dX7_init_0 rfl (lv_at hl 0 rfl) ?_
  refine W.objInit hx hb hown (hts _ wm_X7_1) (hts _ wi_objinit) (hts _ wc_objinit) rfl (hl.1.trans hml.symm) rfl dX7_init_1 (Nat.le_of_ble_eq_true rfl) (Nat.le_of_ble_eq_true rfl) ?_
  refine W.eq (g2 := F0 m 4 ls []) rfl ?_
  refine lv_aload_n hx hb dX7_init_4 rfl (lv_at hl 0 rfl) ?_
  refine g_new (ci := 7) (fs := [.null, .null, .null]) hx hb hts hown hK hM iaX6 rfl tyX6 tyX6_ok wk_X7_7 wb_X6 wn_X6 nfX6 (ρ + 1) (Nat.le_of_ble_eq_true rfl) (Nat.le_of_ble_eq_true rfl) dX7_init_5 (fun xa H hxn hM => ?_)
  refine lv_dup hx hb dX7_init_8 rfl ?_
  refine g_callIv (n9 := 0) (As := []) (rest := [.ref xa, .ref tt]) hx hb hml hl.1 hown hts hK hM (c_X6_init l G _ xa (ρ + 1) (ρ + 2) (ρ + 3) (ρ + 4) T0 T0 hu_s (by omega) (by omega) (by omega) (by omega) (by omega) (by omega) (by omega) (by omega) (by omega)) wm_X7_9 wi_X6_init wn_X6 rfl wc_X6_init (by decide +kernel) ⟨Nat.le_of_ble_eq_true rfl, Nat.le_of_ble_eq_true rfl⟩ ⟨Nat.le_of_ble_eq_true rfl, Nat.le_of_ble_eq_true rfl⟩ rfl (Nat.le_of_ble_eq_true rfl) rfl dX7_init_9 (fun M0 H locs hq hM => ?_)
  obtain ⟨h0, h2, h3, Y, Yt, ft, w1, w2, w3, w4, w5⟩ := hq
  have v0 : WR G M0 ρ xa (fun _ => 0) T0 0 1000 := ⟨h0, h2, h3, Y, Yt, fun _ => 0, T0, 0, 400, 1000, ft, w1, w2, w3, w4, Nat.le_refl _, Nat.le_refl _, Nat.le_refl _, Nat.le_refl _, rfl⟩
  have b0 : Sb ρ M M0 := fun q r e hr hq => w5 q r e (by omega) (by omega) (by omega) (by omega) (hu_n (hu_ne hq hxn (by simp)) hq)
  have t0 : M0 tt = some (ρ, .inr (8, [.null, .null, .int 0, .null, .null, .null, .null, .null, .null, .int 0, .int 0, .int 0])) := w5 _ _ _ (by omega) (by omega) (by omega) (by omega) (hu_n (hu_ne hh hxn (by simp)) hh)
  refine fp_X7_10 (q := xa) hx hb hts hown hK hM hname t0 dX7_init_12 (fun H locs hM => ?_)
  obtain ⟨M1, eM1⟩ : ∃ A, A = hu M0 tt ρ (.inr (8, [.ref xa, .null, .int 0, .null, .null, .null, .null, .null, .null, .int 0, .int 0, .int 0])) := ⟨_, rfl⟩
  replace hM := hM.eq eM1.symm
  have t1 : M1 tt = some (ρ, .inr (8, [.ref xa, .null, .int 0, .null, .null, .null, .null, .null, .null, .int 0, .int 0, .int 0])) := by rw [eM1]; exact hu_s
  have b1 : Sb ρ M M1 := b0.tr (by rw [eM1]; exact Sb.up t0)
  have v1 : WR G M1 ρ xa (fun _ => 0) T0 0 1000 := by rw [eM1]; exact v0.up t0 (by omega)
  refine lv_aload_n hx hb dX7_init_15 rfl (lv_at hl 0 rfl) ?_
  refine lv_iconst (v := (0 : Int32)) hx hb dX7_init_16 (by decide) ?_
  refine g_newA hx hb hts hown hK hM wk_X7_16 (N' := 0) (by decide) (by decide) (by decide) ρ (Nat.le_of_ble_eq_true rfl) (Nat.le_of_ble_eq_true rfl) dX7_init_17 (fun q0 H hn0 hM => ?_)
  obtain ⟨M2, eM2⟩ : ∃ A, A = hu M1 q0 ρ (qE G 0 (fun _ => none)) := ⟨_, rfl⟩
  replace hM := hM.eq eM2.symm
  have t2 : M2 tt = some (ρ, .inr (8, [.ref xa, .null, .int 0, .null, .null, .null, .null, .null, .null, .int 0, .int 0, .int 0])) := by rw [eM2]; exact hu_n (hu_ne t1 hn0 (by simp)) t1
  have b2 : Sb ρ M M2 := b1.tr (by rw [eM2]; exact Sb.nw hn0)
  have v2 : WR G M2 ρ xa (fun _ => 0) T0 0 1000 := by rw [eM2]; exact v1.nw hn0
  have z0_2 : M2 q0 = some (ρ, qE G 0 (fun _ => none)) := by rw [eM2]; exact hu_s
  refine fp_X7_18 (q := q0) hx hb hts hown hK hM t2 dX7_init_20 (fun H locs hM => ?_)
  obtain ⟨M3, eM3⟩ : ∃ A, A = hu M2 tt ρ (.inr (8, [.ref xa, .null, .int 0, .ref q0, .null, .null, .null, .null, .null, .int 0, .int 0, .int 0])) := ⟨_, rfl⟩
  replace hM := hM.eq eM3.symm
  have t3 : M3 tt = some (ρ, .inr (8, [.ref xa, .null, .int 0, .ref q0, .null, .null, .null, .null, .null, .int 0, .int 0, .int 0])) := by rw [eM3]; exact hu_s
  have b3 : Sb ρ M M3 := b2.tr (by rw [eM3]; exact Sb.up t2)
  have v3 : WR G M3 ρ xa (fun _ => 0) T0 0 1000 := by rw [eM3]; exact v2.up t2 (by omega)
  have z0_3 : M3 q0 = some (ρ, qE G 0 (fun _ => none)) := (show Ka ρ M2 M3 by rw [eM3]; exact Ka.obj t2) _ _ z0_2
  refine lv_aload_n hx hb dX7_init_23 rfl (lv_at hl 0 rfl) ?_
  refine lv_iconst (v := (0 : Int32)) hx hb dX7_init_24 (by decide) ?_
  refine g_newA hx hb hts hown hK hM wk_X7_16 (N' := 0) (by decide) (by decide) (by decide) ρ (Nat.le_of_ble_eq_true rfl) (Nat.le_of_ble_eq_true rfl) dX7_init_25 (fun q1 H hn1 hM => ?_)
  obtain ⟨M4, eM4⟩ : ∃ A, A = hu M3 q1 ρ (qE G 0 (fun _ => none)) := ⟨_, rfl⟩
  replace hM := hM.eq eM4.symm
  have t4 : M4 tt = some (ρ, .inr (8, [.ref xa, .null, .int 0, .ref q0, .null, .null, .null, .null, .null, .int 0, .int 0, .int 0])) := by rw [eM4]; exact hu_n (hu_ne t3 hn1 (by simp)) t3
  have b4 : Sb ρ M M4 := b3.tr (by rw [eM4]; exact Sb.nw hn1)
  have v4 : WR G M4 ρ xa (fun _ => 0) T0 0 1000 := by rw [eM4]; exact v3.nw hn1
  have z1_4 : M4 q1 = some (ρ, qE G 0 (fun _ => none)) := by rw [eM4]; exact hu_s
  have z0_4 : M4 q0 = some (ρ, qE G 0 (fun _ => none)) := (show Ka ρ M3 M4 by rw [eM4]; exact Ka.new hn1) _ _ z0_3
  refine fp_X7_22 (q := q1) hx hb hts hown hK hM t4 dX7_init_28 (fun H locs hM => ?_)
  obtain ⟨M5, eM5⟩ : ∃ A, A = hu M4 tt ρ (.inr (8, [.ref xa, .null, .int 0, .ref q0, .ref q1, .null, .null, .null, .null, .int 0, .int 0, .int 0])) := ⟨_, rfl⟩
  replace hM := hM.eq eM5.symm
  have t5 : M5 tt = some (ρ, .inr (8, [.ref xa, .null, .int 0, .ref q0, .ref q1, .null, .null, .null, .null, .int 0, .int 0, .int 0])) := by rw [eM5]; exact hu_s
  have b5 : Sb ρ M M5 := b4.tr (by rw [eM5]; exact Sb.up t4)
  have v5 : WR G M5 ρ xa (fun _ => 0) T0 0 1000 := by rw [eM5]; exact v4.up t4 (by omega)
  have z0_5 : M5 q0 = some (ρ, qE G 0 (fun _ => none)) := (show Ka ρ M4 M5 by rw [eM5]; exact Ka.obj t4) _ _ z0_4
  have z1_5 : M5 q1 = some (ρ, qE G 0 (fun _ => none)) := (show Ka ρ M4 M5 by rw [eM5]; exact Ka.obj t4) _ _ z1_4
  refine lv_aload_n hx hb dX7_init_31 rfl (lv_at hl 0 rfl) ?_
  refine lv_iconst (v := (0 : Int32)) hx hb dX7_init_32 (by decide) ?_
  refine g_newA hx hb hts hown hK hM wk_X7_16 (N' := 0) (by decide) (by decide) (by decide) ρ (Nat.le_of_ble_eq_true rfl) (Nat.le_of_ble_eq_true rfl) dX7_init_33 (fun q2 H hn2 hM => ?_)
  obtain ⟨M6, eM6⟩ : ∃ A, A = hu M5 q2 ρ (qE G 0 (fun _ => none)) := ⟨_, rfl⟩
  replace hM := hM.eq eM6.symm
  have t6 : M6 tt = some (ρ, .inr (8, [.ref xa, .null, .int 0, .ref q0, .ref q1, .null, .null, .null, .null, .int 0, .int 0, .int 0])) := by rw [eM6]; exact hu_n (hu_ne t5 hn2 (by simp)) t5
  have b6 : Sb ρ M M6 := b5.tr (by rw [eM6]; exact Sb.nw hn2)
  have v6 : WR G M6 ρ xa (fun _ => 0) T0 0 1000 := by rw [eM6]; exact v5.nw hn2
  have z2_6 : M6 q2 = some (ρ, qE G 0 (fun _ => none)) := by rw [eM6]; exact hu_s
  have z0_6 : M6 q0 = some (ρ, qE G 0 (fun _ => none)) := (show Ka ρ M5 M6 by rw [eM6]; exact Ka.new hn2) _ _ z0_5
  have z1_6 : M6 q1 = some (ρ, qE G 0 (fun _ => none)) := (show Ka ρ M5 M6 by rw [eM6]; exact Ka.new hn2) _ _ z1_5
  refine fp_X7_25 (q := q2) hx hb hts hown hK hM t6 dX7_init_36 (fun H locs hM => ?_)
  obtain ⟨M7, eM7⟩ : ∃ A, A = hu M6 tt ρ (.inr (8, [.ref xa, .null, .int 0, .ref q0, .ref q1, .ref q2, .null, .null, .null, .int 0, .int 0, .int 0])) := ⟨_, rfl⟩
  replace hM := hM.eq eM7.symm
  have t7 : M7 tt = some (ρ, .inr (8, [.ref xa, .null, .int 0, .ref q0, .ref q1, .ref q2, .null, .null, .null, .int 0, .int 0, .int 0])) := by rw [eM7]; exact hu_s
  have b7 : Sb ρ M M7 := b6.tr (by rw [eM7]; exact Sb.up t6)
  have v7 : WR G M7 ρ xa (fun _ => 0) T0 0 1000 := by rw [eM7]; exact v6.up t6 (by omega)
  have z0_7 : M7 q0 = some (ρ, qE G 0 (fun _ => none)) := (show Ka ρ M6 M7 by rw [eM7]; exact Ka.obj t6) _ _ z0_6
  have z1_7 : M7 q1 = some (ρ, qE G 0 (fun _ => none)) := (show Ka ρ M6 M7 by rw [eM7]; exact Ka.obj t6) _ _ z1_6
  have z2_7 : M7 q2 = some (ρ, qE G 0 (fun _ => none)) := (show Ka ρ M6 M7 by rw [eM7]; exact Ka.obj t6) _ _ z2_6
  refine lv_aload_n hx hb dX7_init_39 rfl (lv_at hl 0 rfl) ?_
  refine lv_iconst (v := (0 : Int32)) hx hb dX7_init_40 (by decide) ?_
  refine g_newA hx hb hts hown hK hM wk_X7_16 (N' := 0) (by decide) (by decide) (by decide) ρ (Nat.le_of_ble_eq_true rfl) (Nat.le_of_ble_eq_true rfl) dX7_init_41 (fun q3 H hn3 hM => ?_)
  obtain ⟨M8, eM8⟩ : ∃ A, A = hu M7 q3 ρ (qE G 0 (fun _ => none)) := ⟨_, rfl⟩
  replace hM := hM.eq eM8.symm
  have t8 : M8 tt = some (ρ, .inr (8, [.ref xa, .null, .int 0, .ref q0, .ref q1, .ref q2, .null, .null, .null, .int 0, .int 0, .int 0])) := by rw [eM8]; exact hu_n (hu_ne t7 hn3 (by simp)) t7
  have b8 : Sb ρ M M8 := b7.tr (by rw [eM8]; exact Sb.nw hn3)
  have v8 : WR G M8 ρ xa (fun _ => 0) T0 0 1000 := by rw [eM8]; exact v7.nw hn3
  have z3_8 : M8 q3 = some (ρ, qE G 0 (fun _ => none)) := by rw [eM8]; exact hu_s
  have z0_8 : M8 q0 = some (ρ, qE G 0 (fun _ => none)) := (show Ka ρ M7 M8 by rw [eM8]; exact Ka.new hn3) _ _ z0_7
  have z1_8 : M8 q1 = some (ρ, qE G 0 (fun _ => none)) := (show Ka ρ M7 M8 by rw [eM8]; exact Ka.new hn3) _ _ z1_7
  have z2_8 : M8 q2 = some (ρ, qE G 0 (fun _ => none)) := (show Ka ρ M7 M8 by rw [eM8]; exact Ka.new hn3) _ _ z2_7
  refine fp_X7_28 (q := q3) hx hb hts hown hK hM t8 dX7_init_44 (fun H locs hM => ?_)
  obtain ⟨M9, eM9⟩ : ∃ A, A = hu M8 tt ρ (.inr (8, [.ref xa, .null, .int 0, .ref q0, .ref q1, .ref q2, .ref q3, .null, .null, .int 0, .int 0, .int 0])) := ⟨_, rfl⟩
  replace hM := hM.eq eM9.symm
  have t9 : M9 tt = some (ρ, .inr (8, [.ref xa, .null, .int 0, .ref q0, .ref q1, .ref q2, .ref q3, .null, .null, .int 0, .int 0, .int 0])) := by rw [eM9]; exact hu_s
  have b9 : Sb ρ M M9 := b8.tr (by rw [eM9]; exact Sb.up t8)
  have v9 : WR G M9 ρ xa (fun _ => 0) T0 0 1000 := by rw [eM9]; exact v8.up t8 (by omega)
  have z0_9 : M9 q0 = some (ρ, qE G 0 (fun _ => none)) := (show Ka ρ M8 M9 by rw [eM9]; exact Ka.obj t8) _ _ z0_8
  have z1_9 : M9 q1 = some (ρ, qE G 0 (fun _ => none)) := (show Ka ρ M8 M9 by rw [eM9]; exact Ka.obj t8) _ _ z1_8
  have z2_9 : M9 q2 = some (ρ, qE G 0 (fun _ => none)) := (show Ka ρ M8 M9 by rw [eM9]; exact Ka.obj t8) _ _ z2_8
  have z3_9 : M9 q3 = some (ρ, qE G 0 (fun _ => none)) := (show Ka ρ M8 M9 by rw [eM9]; exact Ka.obj t8) _ _ z3_8
  refine lv_aload_n hx hb dX7_init_47 rfl (lv_at hl 0 rfl) ?_
  refine lv_iconst (v := (0 : Int32)) hx hb dX7_init_48 (by decide) ?_
  refine g_newA hx hb hts hown hK hM wk_X7_16 (N' := 0) (by decide) (by decide) (by decide) ρ (Nat.le_of_ble_eq_true rfl) (Nat.le_of_ble_eq_true rfl) dX7_init_49 (fun q4 H hn4 hM => ?_)
  obtain ⟨M10, eM10⟩ : ∃ A, A = hu M9 q4 ρ (qE G 0 (fun _ => none)) := ⟨_, rfl⟩
  replace hM := hM.eq eM10.symm
  have t10 : M10 tt = some (ρ, .inr (8, [.ref xa, .null, .int 0, .ref q0, .ref q1, .ref q2, .ref q3, .null, .null, .int 0, .int 0, .int 0])) := by rw [eM10]; exact hu_n (hu_ne t9 hn4 (by simp)) t9
  have b10 : Sb ρ M M10 := b9.tr (by rw [eM10]; exact Sb.nw hn4)
  have v10 : WR G M10 ρ xa (fun _ => 0) T0 0 1000 := by rw [eM10]; exact v9.nw hn4
  have z4_10 : M10 q4 = some (ρ, qE G 0 (fun _ => none)) := by rw [eM10]; exact hu_s
  have z0_10 : M10 q0 = some (ρ, qE G 0 (fun _ => none)) := (show Ka ρ M9 M10 by rw [eM10]; exact Ka.new hn4) _ _ z0_9
  have z1_10 : M10 q1 = some (ρ, qE G 0 (fun _ => none)) := (show Ka ρ M9 M10 by rw [eM10]; exact Ka.new hn4) _ _ z1_9
  have z2_10 : M10 q2 = some (ρ, qE G 0 (fun _ => none)) := (show Ka ρ M9 M10 by rw [eM10]; exact Ka.new hn4) _ _ z2_9
  have z3_10 : M10 q3 = some (ρ, qE G 0 (fun _ => none)) := (show Ka ρ M9 M10 by rw [eM10]; exact Ka.new hn4) _ _ z3_9
  refine fp_X7_31 (q := q4) hx hb hts hown hK hM t10 dX7_init_52 (fun H locs hM => ?_)
  obtain ⟨M11, eM11⟩ : ∃ A, A = hu M10 tt ρ (.inr (8, [.ref xa, .null, .int 0, .ref q0, .ref q1, .ref q2, .ref q3, .ref q4, .null, .int 0, .int 0, .int 0])) := ⟨_, rfl⟩
  replace hM := hM.eq eM11.symm
  have t11 : M11 tt = some (ρ, .inr (8, [.ref xa, .null, .int 0, .ref q0, .ref q1, .ref q2, .ref q3, .ref q4, .null, .int 0, .int 0, .int 0])) := by rw [eM11]; exact hu_s
  have b11 : Sb ρ M M11 := b10.tr (by rw [eM11]; exact Sb.up t10)
  have v11 : WR G M11 ρ xa (fun _ => 0) T0 0 1000 := by rw [eM11]; exact v10.up t10 (by omega)
  have z0_11 : M11 q0 = some (ρ, qE G 0 (fun _ => none)) := (show Ka ρ M10 M11 by rw [eM11]; exact Ka.obj t10) _ _ z0_10
  have z1_11 : M11 q1 = some (ρ, qE G 0 (fun _ => none)) := (show Ka ρ M10 M11 by rw [eM11]; exact Ka.obj t10) _ _ z1_10
  have z2_11 : M11 q2 = some (ρ, qE G 0 (fun _ => none)) := (show Ka ρ M10 M11 by rw [eM11]; exact Ka.obj t10) _ _ z2_10
  have z3_11 : M11 q3 = some (ρ, qE G 0 (fun _ => none)) := (show Ka ρ M10 M11 by rw [eM11]; exact Ka.obj t10) _ _ z3_10
  have z4_11 : M11 q4 = some (ρ, qE G 0 (fun _ => none)) := (show Ka ρ M10 M11 by rw [eM11]; exact Ka.obj t10) _ _ z4_10
  refine lv_aload_n hx hb dX7_init_55 rfl (lv_at hl 0 rfl) ?_
  refine lv_bipush (v := (8 : Int32)) hx hb dX7_init_56 (by decide) ?_
  refine g_newa (atype := .int) (ty := .int) (j := 0) (a0 := (8, .inl (fun _ => 0))) hx hb hK hM hts wa_int rfl rfl (N' := 8) (fun _ => rfl) (by decide) (by decide) (by decide) ρ (Nat.le_of_ble_eq_true rfl) (Nat.le_of_ble_eq_true rfl) dX7_init_58 (fun q5 H hn5 hM => ?_)
  obtain ⟨M12, eM12⟩ : ∃ A, A = hu M11 q5 ρ (iE G 8 (fun _ => 0)) := ⟨_, rfl⟩
  replace hM := hM.eq eM12.symm
  have t12 : M12 tt = some (ρ, .inr (8, [.ref xa, .null, .int 0, .ref q0, .ref q1, .ref q2, .ref q3, .ref q4, .null, .int 0, .int 0, .int 0])) := by rw [eM12]; exact hu_n (hu_ne t11 hn5 (by simp)) t11
  have b12 : Sb ρ M M12 := b11.tr (by rw [eM12]; exact Sb.nw hn5)
  have v12 : WR G M12 ρ xa (fun _ => 0) T0 0 1000 := by rw [eM12]; exact v11.nw hn5
  have z0_12 : M12 q0 = some (ρ, qE G 0 (fun _ => none)) := (show Ka ρ M11 M12 by rw [eM12]; exact Ka.new hn5) _ _ z0_11
  have z1_12 : M12 q1 = some (ρ, qE G 0 (fun _ => none)) := (show Ka ρ M11 M12 by rw [eM12]; exact Ka.new hn5) _ _ z1_11
  have z2_12 : M12 q2 = some (ρ, qE G 0 (fun _ => none)) := (show Ka ρ M11 M12 by rw [eM12]; exact Ka.new hn5) _ _ z2_11
  have z3_12 : M12 q3 = some (ρ, qE G 0 (fun _ => none)) := (show Ka ρ M11 M12 by rw [eM12]; exact Ka.new hn5) _ _ z3_11
  have z4_12 : M12 q4 = some (ρ, qE G 0 (fun _ => none)) := (show Ka ρ M11 M12 by rw [eM12]; exact Ka.new hn5) _ _ z4_11
  refine fp_X7_34 (q := q5) hx hb hts hown hK hM hname t12 dX7_init_60 (fun H locs hM => ?_)
  obtain ⟨M13, eM13⟩ : ∃ A, A = hu M12 tt ρ (.inr (8, [.ref xa, .null, .int 0, .ref q0, .ref q1, .ref q2, .ref q3, .ref q4, .ref q5, .int 0, .int 0, .int 0])) := ⟨_, rfl⟩
  replace hM := hM.eq eM13.symm
  have t13 : M13 tt = some (ρ, .inr (8, [.ref xa, .null, .int 0, .ref q0, .ref q1, .ref q2, .ref q3, .ref q4, .ref q5, .int 0, .int 0, .int 0])) := by rw [eM13]; exact hu_s
  have b13 : Sb ρ M M13 := b12.tr (by rw [eM13]; exact Sb.up t12)
  have v13 : WR G M13 ρ xa (fun _ => 0) T0 0 1000 := by rw [eM13]; exact v12.up t12 (by omega)
  have z0_13 : M13 q0 = some (ρ, qE G 0 (fun _ => none)) := (show Ka ρ M12 M13 by rw [eM13]; exact Ka.obj t12) _ _ z0_12
  have z1_13 : M13 q1 = some (ρ, qE G 0 (fun _ => none)) := (show Ka ρ M12 M13 by rw [eM13]; exact Ka.obj t12) _ _ z1_12
  have z2_13 : M13 q2 = some (ρ, qE G 0 (fun _ => none)) := (show Ka ρ M12 M13 by rw [eM13]; exact Ka.obj t12) _ _ z2_12
  have z3_13 : M13 q3 = some (ρ, qE G 0 (fun _ => none)) := (show Ka ρ M12 M13 by rw [eM13]; exact Ka.obj t12) _ _ z3_12
  have z4_13 : M13 q4 = some (ρ, qE G 0 (fun _ => none)) := (show Ka ρ M12 M13 by rw [eM13]; exact Ka.obj t12) _ _ z4_12
  refine lv_aload_n hx hb dX7_init_63 rfl (lv_at hl 0 rfl) ?_
  refine lv_sipush (v := (400 : Int32)) hx hb dX7_init_64 (by decide) ?_
  refine fp_X7_37 hx hb hts hown hK hM t13 dX7_init_67 (fun H locs hM => ?_)
  obtain ⟨M14, eM14⟩ : ∃ A, A = hu M13 tt ρ (.inr (8, [.ref xa, .null, .int 0, .ref q0, .ref q1, .ref q2, .ref q3, .ref q4, .ref q5, .int 0, .int 400, .int 0])) := ⟨_, rfl⟩
  replace hM := hM.eq eM14.symm
  have t14 : M14 tt = some (ρ, .inr (8, [.ref xa, .null, .int 0, .ref q0, .ref q1, .ref q2, .ref q3, .ref q4, .ref q5, .int 0, .int 400, .int 0])) := by rw [eM14]; exact hu_s
  have b14 : Sb ρ M M14 := b13.tr (by rw [eM14]; exact Sb.up t13)
  have v14 : WR G M14 ρ xa (fun _ => 0) T0 0 1000 := by rw [eM14]; exact v13.up t13 (by omega)
  have z0_14 : M14 q0 = some (ρ, qE G 0 (fun _ => none)) := (show Ka ρ M13 M14 by rw [eM14]; exact Ka.obj t13) _ _ z0_13
  have z1_14 : M14 q1 = some (ρ, qE G 0 (fun _ => none)) := (show Ka ρ M13 M14 by rw [eM14]; exact Ka.obj t13) _ _ z1_13
  have z2_14 : M14 q2 = some (ρ, qE G 0 (fun _ => none)) := (show Ka ρ M13 M14 by rw [eM14]; exact Ka.obj t13) _ _ z2_13
  have z3_14 : M14 q3 = some (ρ, qE G 0 (fun _ => none)) := (show Ka ρ M13 M14 by rw [eM14]; exact Ka.obj t13) _ _ z3_13
  have z4_14 : M14 q4 = some (ρ, qE G 0 (fun _ => none)) := (show Ka ρ M13 M14 by rw [eM14]; exact Ka.obj t13) _ _ z4_13
  refine lv_aload_n hx hb dX7_init_70 rfl (lv_at hl 0 rfl) ?_
  refine lv_sipush (v := (1000 : Int32)) hx hb dX7_init_71 (by decide) ?_
  refine fp_X7_41 hx hb hts hown hK hM t14 dX7_init_74 (fun H locs hM => ?_)
  obtain ⟨M15, eM15⟩ : ∃ A, A = hu M14 tt ρ (.inr (8, [.ref xa, .null, .int 0, .ref q0, .ref q1, .ref q2, .ref q3, .ref q4, .ref q5, .int 0, .int 400, .int 1000])) := ⟨_, rfl⟩
  replace hM := hM.eq eM15.symm
  have t15 : M15 tt = some (ρ, .inr (8, [.ref xa, .null, .int 0, .ref q0, .ref q1, .ref q2, .ref q3, .ref q4, .ref q5, .int 0, .int 400, .int 1000])) := by rw [eM15]; exact hu_s
  have b15 : Sb ρ M M15 := b14.tr (by rw [eM15]; exact Sb.up t14)
  have v15 : WR G M15 ρ xa (fun _ => 0) T0 0 1000 := by rw [eM15]; exact v14.up t14 (by omega)
  have z0_15 : M15 q0 = some (ρ, qE G 0 (fun _ => none)) := (show Ka ρ M14 M15 by rw [eM15]; exact Ka.obj t14) _ _ z0_14
  have z1_15 : M15 q1 = some (ρ, qE G 0 (fun _ => none)) := (show Ka ρ M14 M15 by rw [eM15]; exact Ka.obj t14) _ _ z1_14
  have z2_15 : M15 q2 = some (ρ, qE G 0 (fun _ => none)) := (show Ka ρ M14 M15 by rw [eM15]; exact Ka.obj t14) _ _ z2_14
  have z3_15 : M15 q3 = some (ρ, qE G 0 (fun _ => none)) := (show Ka ρ M14 M15 by rw [eM15]; exact Ka.obj t14) _ _ z3_14
  have z4_15 : M15 q4 = some (ρ, qE G 0 (fun _ => none)) := (show Ka ρ M14 M15 by rw [eM15]; exact Ka.obj t14) _ _ z4_14
  refine lv_aload_n hx hb dX7_init_77 rfl (lv_at hl 0 rfl) ?_
  refine lv_aload_n hx hb dX7_init_78 rfl (lv_at hl 1 rfl) ?_
  refine fp_X7_44 (q := b) hx hb hts hown hK hM hname t15 dX7_init_79 (fun H locs hM => ?_)
  obtain ⟨M16, eM16⟩ : ∃ A, A = hu M15 tt ρ (.inr (8, [.ref xa, .ref b, .int 0, .ref q0, .ref q1, .ref q2, .ref q3, .ref q4, .ref q5, .int 0, .int 400, .int 1000])) := ⟨_, rfl⟩
  replace hM := hM.eq eM16.symm
  have t16 : M16 tt = some (ρ, .inr (8, [.ref xa, .ref b, .int 0, .ref q0, .ref q1, .ref q2, .ref q3, .ref q4, .ref q5, .int 0, .int 400, .int 1000])) := by rw [eM16]; exact hu_s
  have b16 : Sb ρ M M16 := b15.tr (by rw [eM16]; exact Sb.up t15)
  have v16 : WR G M16 ρ xa (fun _ => 0) T0 0 1000 := by rw [eM16]; exact v15.up t15 (by omega)
  have z0_16 : M16 q0 = some (ρ, qE G 0 (fun _ => none)) := (show Ka ρ M15 M16 by rw [eM16]; exact Ka.obj t15) _ _ z0_15
  have z1_16 : M16 q1 = some (ρ, qE G 0 (fun _ => none)) := (show Ka ρ M15 M16 by rw [eM16]; exact Ka.obj t15) _ _ z1_15
  have z2_16 : M16 q2 = some (ρ, qE G 0 (fun _ => none)) := (show Ka ρ M15 M16 by rw [eM16]; exact Ka.obj t15) _ _ z2_15
  have z3_16 : M16 q3 = some (ρ, qE G 0 (fun _ => none)) := (show Ka ρ M15 M16 by rw [eM16]; exact Ka.obj t15) _ _ z3_15
  have z4_16 : M16 q4 = some (ρ, qE G 0 (fun _ => none)) := (show Ka ρ M15 M16 by rw [eM16]; exact Ka.obj t15) _ _ z4_15
  refine lv_aload_n hx hb dX7_init_82 rfl (lv_at hl 0 rfl) ?_
  refine lv_iload_n hx hb dX7_init_83 rfl (lv_at hl 2 rfl) ?_
  refine fp_X7_47 hx hb hts hown hK hM t16 dX7_init_84 (fun H locs hM => ?_)
  obtain ⟨M17, eM17⟩ : ∃ A, A = hu M16 tt ρ (.inr (8, [.ref xa, .ref b, .int (nI d), .ref q0, .ref q1, .ref q2, .ref q3, .ref q4, .ref q5, .int 0, .int 400, .int 1000])) := ⟨_, rfl⟩
  replace hM := hM.eq eM17.symm
  have t17 : M17 tt = some (ρ, .inr (8, [.ref xa, .ref b, .int (nI d), .ref q0, .ref q1, .ref q2, .ref q3, .ref q4, .ref q5, .int 0, .int 400, .int 1000])) := by rw [eM17]; exact hu_s
  have b17 : Sb ρ M M17 := b16.tr (by rw [eM17]; exact Sb.up t16)
  have v17 : WR G M17 ρ xa (fun _ => 0) T0 0 1000 := by rw [eM17]; exact v16.up t16 (by omega)
  have z0_17 : M17 q0 = some (ρ, qE G 0 (fun _ => none)) := (show Ka ρ M16 M17 by rw [eM17]; exact Ka.obj t16) _ _ z0_16
  have z1_17 : M17 q1 = some (ρ, qE G 0 (fun _ => none)) := (show Ka ρ M16 M17 by rw [eM17]; exact Ka.obj t16) _ _ z1_16
  have z2_17 : M17 q2 = some (ρ, qE G 0 (fun _ => none)) := (show Ka ρ M16 M17 by rw [eM17]; exact Ka.obj t16) _ _ z2_16
  have z3_17 : M17 q3 = some (ρ, qE G 0 (fun _ => none)) := (show Ka ρ M16 M17 by rw [eM17]; exact Ka.obj t16) _ _ z3_16
  have z4_17 : M17 q4 = some (ρ, qE G 0 (fun _ => none)) := (show Ka ρ M16 M17 by rw [eM17]; exact Ka.obj t16) _ _ z4_16
  exact g_vret hx hb hr hlocks hM (Nat.le_of_ble_eq_true rfl) (Nat.le_of_ble_eq_true rfl) ⟨xa, ⟨_, _, _, _, _, _, t17, ⟨_, z0_17, fun i hi => absurd hi (Nat.not_lt_zero _)⟩, ⟨_, z1_17, fun i hi => absurd hi (Nat.not_lt_zero _)⟩, ⟨_, z2_17, fun i hi => absurd hi (Nat.not_lt_zero _)⟩, ⟨_, z3_17, fun i hi => absurd hi (Nat.not_lt_zero _)⟩, v17⟩, b17⟩ dX7_init_87

theorem nfJx4a65c : ∀ j, j < 3 → defaultValue (tyJx4a65c j) = vp_V [.int 0, .null, .int 0] j := by
  intro j hj
  match j, hj with
  | 0, _ => rfl
  | 1, _ => rfl
  | 2, _ => rfl

set_option maxHeartbeats 4000000 in
set_option maxRecDepth 100000 in
theorem c_X3_init (l : Launch) (G : GG) (M : HM) (h0 r0 : Nat) (p0 : Int32) (T : Tb) (hh : M h0 = some (r0, (.inr (4, [.null, .null, .null, .null, .null, .int 0, .int 0, .int 0, .int 0])))) (hz : p0 = 0 ∨ p0 = 1) : Mv l yX3_init (.code yX3_init cX3_init 2 none :: AL) 4 80 5 15 [.ref h0, .int p0] G M (fun M' => ∃ Y, LdR G M' r0 h0 Y (fun _ => 0) T p0 0 400 1000 ∧ Fr r0 M M') := by
  refine Mv.go (by decide) (Nat.le_of_ble_eq_true rfl) ?_
  intro p e s m below meth c ls hx hb hr hml hown hlocks hname hts hK hM hl
  have hown : s.vm.findClass RX3 = some m.cls := hown
  have hl : lv_has ls 2 [(0, .ref h0), (1, .int p0)] := hl
  refine lv_aload_n hx hb dX3_init_0 rfl (lv_at hl 0 rfl) ?_
  refine W.objInit hx hb hown (hts _ wm_X3_3) (hts _ wi_objinit) (hts _ wc_objinit) rfl (hl.1.trans hml.symm) rfl dX3_init_1 (Nat.le_of_ble_eq_true rfl) (Nat.le_of_ble_eq_true rfl) ?_
  refine W.eq (g2 := F0 m 4 ls []) rfl ?_
  have hF0 : Fr r0 M M := Fr.rf
  refine lv_aload_n hx hb dX3_init_4 rfl (lv_at hl 0 rfl) ?_
  refine g_new (ci := 0) (fs := [.int 0, .null, .int 0]) hx hb hts hown hK hM iaJx4a65c rfl tyJx4a65c tyJx4a65c_ok wk_X3_9 wb_Jx4a65c wn_Jx4a65c nfJx4a65c r0 (Nat.le_of_ble_eq_true rfl) (Nat.le_of_ble_eq_true rfl) dX3_init_5 (fun q0 H hq0 hM => ?_)
  refine lv_dup hx hb dX3_init_8 rfl ?_
  refine g_callIv (n9 := 0) (As := []) (rest := [.ref q0, .ref h0]) hx hb hml hl.1 hown hts hK hM (c_Jx4a65c_init_da8c8 l G _ q0 r0 0 0 hu_s) wm_X3_11 wi_Jx4a65c_init_da8c8 wn_Jx4a65c rfl wc_Jx4a65c_init_da8c8 (by decide +kernel) ⟨Nat.le_of_ble_eq_true rfl, Nat.le_of_ble_eq_true rfl⟩ ⟨Nat.le_of_ble_eq_true rfl, Nat.le_of_ble_eq_true rfl⟩ rfl (Nat.le_of_ble_eq_true rfl) rfl dX3_init_9 (fun Mz H locs hq hM => ?_)
  subst hq
  replace hM := hM.eq (hu_u _ _ _ _ _ _)
  have nq0 : h0 ≠ q0 := hu_ne hh hq0 (by simp)
  refine fp_X3_12 hx hb hts hown hK hM hname (hu_n nq0 hh) dX3_init_12 (fun H locs hM => ?_)
  obtain ⟨M1, eM1⟩ : ∃ z, z = hu (hu M q0 r0 (lsE 0 (G.2.2 1) (nI 0))) h0 r0 (.inr (4, [.ref q0, .null, .null, .null, .null, .int 0, .int 0, .int 0, .int 0])) := ⟨_, rfl⟩
  replace hM := hM.eq eM1.symm
  have hh1 : M1 h0 = some (r0, (.inr (4, [.ref q0, .null, .null, .null, .null, .int 0, .int 0, .int 0, .int 0]))) := by rw [eM1]; exact hu_s
  have hl1_0 : M1 q0 = some (r0, lsE 0 (G.2.2 1) (nI 0)) := by rw [eM1]; exact hu_n (Ne.symm nq0) hu_s
  have hF1 : Fr r0 M M1 := by rw [eM1]; exact Fr.tr hF0 (Fr.tr (Fr.new hq0) (Fr.up (hu_n nq0 hh)))
  refine lv_aload_n hx hb dX3_init_15 rfl (lv_at hl 0 rfl) ?_
  refine g_new (ci := 0) (fs := [.int 0, .null, .int 0]) hx hb hts hown hK hM iaJx4a65c rfl tyJx4a65c tyJx4a65c_ok wk_X3_9 wb_Jx4a65c wn_Jx4a65c nfJx4a65c r0 (Nat.le_of_ble_eq_true rfl) (Nat.le_of_ble_eq_true rfl) dX3_init_16 (fun q1 H hq1 hM => ?_)
  refine lv_dup hx hb dX3_init_19 rfl ?_
  refine g_callIv (n9 := 0) (As := []) (rest := [.ref q1, .ref h0]) hx hb hml hl.1 hown hts hK hM (c_Jx4a65c_init_da8c8 l G _ q1 r0 0 0 hu_s) wm_X3_11 wi_Jx4a65c_init_da8c8 wn_Jx4a65c rfl wc_Jx4a65c_init_da8c8 (by decide +kernel) ⟨Nat.le_of_ble_eq_true rfl, Nat.le_of_ble_eq_true rfl⟩ ⟨Nat.le_of_ble_eq_true rfl, Nat.le_of_ble_eq_true rfl⟩ rfl (Nat.le_of_ble_eq_true rfl) rfl dX3_init_20 (fun Mz H locs hq hM => ?_)
  subst hq
  replace hM := hM.eq (hu_u _ _ _ _ _ _)
  have nq1 : h0 ≠ q1 := hu_ne hh1 hq1 (by simp)
  have n01 : q0 ≠ q1 := hu_ne hl1_0 hq1 (by simp)
  refine fp_X3_18 hx hb hts hown hK hM hname (hu_n nq1 hh1) dX3_init_23 (fun H locs hM => ?_)
  obtain ⟨M2, eM2⟩ : ∃ z, z = hu (hu M1 q1 r0 (lsE 0 (G.2.2 1) (nI 0))) h0 r0 (.inr (4, [.ref q0, .ref q1, .null, .null, .null, .int 0, .int 0, .int 0, .int 0])) := ⟨_, rfl⟩
  replace hM := hM.eq eM2.symm
  have hh2 : M2 h0 = some (r0, (.inr (4, [.ref q0, .ref q1, .null, .null, .null, .int 0, .int 0, .int 0, .int 0]))) := by rw [eM2]; exact hu_s
  have hl2_0 : M2 q0 = some (r0, lsE 0 (G.2.2 1) (nI 0)) := by rw [eM2]; exact hu_n (Ne.symm nq0) (hu_n n01 hl1_0)
  have hl2_1 : M2 q1 = some (r0, lsE 0 (G.2.2 1) (nI 0)) := by rw [eM2]; exact hu_n (Ne.symm nq1) hu_s
  have hF2 : Fr r0 M M2 := by rw [eM2]; exact Fr.tr hF1 (Fr.tr (Fr.new hq1) (Fr.up (hu_n nq1 hh1)))
  refine lv_aload_n hx hb dX3_init_26 rfl (lv_at hl 0 rfl) ?_
  refine g_new (ci := 0) (fs := [.int 0, .null, .int 0]) hx hb hts hown hK hM iaJx4a65c rfl tyJx4a65c tyJx4a65c_ok wk_X3_9 wb_Jx4a65c wn_Jx4a65c nfJx4a65c r0 (Nat.le_of_ble_eq_true rfl) (Nat.le_of_ble_eq_true rfl) dX3_init_27 (fun q2 H hq2 hM => ?_)
  refine lv_dup hx hb dX3_init_30 rfl ?_
  refine g_callIv (n9 := 0) (As := []) (rest := [.ref q2, .ref h0]) hx hb hml hl.1 hown hts hK hM (c_Jx4a65c_init_da8c8 l G _ q2 r0 0 0 hu_s) wm_X3_11 wi_Jx4a65c_init_da8c8 wn_Jx4a65c rfl wc_Jx4a65c_init_da8c8 (by decide +kernel) ⟨Nat.le_of_ble_eq_true rfl, Nat.le_of_ble_eq_true rfl⟩ ⟨Nat.le_of_ble_eq_true rfl, Nat.le_of_ble_eq_true rfl⟩ rfl (Nat.le_of_ble_eq_true rfl) rfl dX3_init_31 (fun Mz H locs hq hM => ?_)
  subst hq
  replace hM := hM.eq (hu_u _ _ _ _ _ _)
  have nq2 : h0 ≠ q2 := hu_ne hh2 hq2 (by simp)
  have n02 : q0 ≠ q2 := hu_ne hl2_0 hq2 (by simp)
  have n12 : q1 ≠ q2 := hu_ne hl2_1 hq2 (by simp)
  refine fp_X3_21 hx hb hts hown hK hM hname (hu_n nq2 hh2) dX3_init_34 (fun H locs hM => ?_)
  obtain ⟨M3, eM3⟩ : ∃ z, z = hu (hu M2 q2 r0 (lsE 0 (G.2.2 1) (nI 0))) h0 r0 (.inr (4, [.ref q0, .ref q1, .ref q2, .null, .null, .int 0, .int 0, .int 0, .int 0])) := ⟨_, rfl⟩
  replace hM := hM.eq eM3.symm
  have hh3 : M3 h0 = some (r0, (.inr (4, [.ref q0, .ref q1, .ref q2, .null, .null, .int 0, .int 0, .int 0, .int 0]))) := by rw [eM3]; exact hu_s
  have hl3_0 : M3 q0 = some (r0, lsE 0 (G.2.2 1) (nI 0)) := by rw [eM3]; exact hu_n (Ne.symm nq0) (hu_n n02 hl2_0)
  have hl3_1 : M3 q1 = some (r0, lsE 0 (G.2.2 1) (nI 0)) := by rw [eM3]; exact hu_n (Ne.symm nq1) (hu_n n12 hl2_1)
  have hl3_2 : M3 q2 = some (r0, lsE 0 (G.2.2 1) (nI 0)) := by rw [eM3]; exact hu_n (Ne.symm nq2) hu_s
  have hF3 : Fr r0 M M3 := by rw [eM3]; exact Fr.tr hF2 (Fr.tr (Fr.new hq2) (Fr.up (hu_n nq2 hh2)))
  refine lv_aload_n hx hb dX3_init_37 rfl (lv_at hl 0 rfl) ?_
  refine g_new (ci := 0) (fs := [.int 0, .null, .int 0]) hx hb hts hown hK hM iaJx4a65c rfl tyJx4a65c tyJx4a65c_ok wk_X3_9 wb_Jx4a65c wn_Jx4a65c nfJx4a65c r0 (Nat.le_of_ble_eq_true rfl) (Nat.le_of_ble_eq_true rfl) dX3_init_38 (fun q3 H hq3 hM => ?_)
  refine lv_dup hx hb dX3_init_41 rfl ?_
  refine g_callIv (n9 := 0) (As := []) (rest := [.ref q3, .ref h0]) hx hb hml hl.1 hown hts hK hM (c_Jx4a65c_init_da8c8 l G _ q3 r0 0 0 hu_s) wm_X3_11 wi_Jx4a65c_init_da8c8 wn_Jx4a65c rfl wc_Jx4a65c_init_da8c8 (by decide +kernel) ⟨Nat.le_of_ble_eq_true rfl, Nat.le_of_ble_eq_true rfl⟩ ⟨Nat.le_of_ble_eq_true rfl, Nat.le_of_ble_eq_true rfl⟩ rfl (Nat.le_of_ble_eq_true rfl) rfl dX3_init_42 (fun Mz H locs hq hM => ?_)
  subst hq
  replace hM := hM.eq (hu_u _ _ _ _ _ _)
  have nq3 : h0 ≠ q3 := hu_ne hh3 hq3 (by simp)
  have n03 : q0 ≠ q3 := hu_ne hl3_0 hq3 (by simp)
  have n13 : q1 ≠ q3 := hu_ne hl3_1 hq3 (by simp)
  have n23 : q2 ≠ q3 := hu_ne hl3_2 hq3 (by simp)
  refine fp_X3_24 hx hb hts hown hK hM hname (hu_n nq3 hh3) dX3_init_45 (fun H locs hM => ?_)
  obtain ⟨M4, eM4⟩ : ∃ z, z = hu (hu M3 q3 r0 (lsE 0 (G.2.2 1) (nI 0))) h0 r0 (.inr (4, [.ref q0, .ref q1, .ref q2, .ref q3, .null, .int 0, .int 0, .int 0, .int 0])) := ⟨_, rfl⟩
  replace hM := hM.eq eM4.symm
  have hh4 : M4 h0 = some (r0, (.inr (4, [.ref q0, .ref q1, .ref q2, .ref q3, .null, .int 0, .int 0, .int 0, .int 0]))) := by rw [eM4]; exact hu_s
  have hl4_0 : M4 q0 = some (r0, lsE 0 (G.2.2 1) (nI 0)) := by rw [eM4]; exact hu_n (Ne.symm nq0) (hu_n n03 hl3_0)
  have hl4_1 : M4 q1 = some (r0, lsE 0 (G.2.2 1) (nI 0)) := by rw [eM4]; exact hu_n (Ne.symm nq1) (hu_n n13 hl3_1)
  have hl4_2 : M4 q2 = some (r0, lsE 0 (G.2.2 1) (nI 0)) := by rw [eM4]; exact hu_n (Ne.symm nq2) (hu_n n23 hl3_2)
  have hl4_3 : M4 q3 = some (r0, lsE 0 (G.2.2 1) (nI 0)) := by rw [eM4]; exact hu_n (Ne.symm nq3) hu_s
  have hF4 : Fr r0 M M4 := by rw [eM4]; exact Fr.tr hF3 (Fr.tr (Fr.new hq3) (Fr.up (hu_n nq3 hh3)))
  refine lv_aload_n hx hb dX3_init_48 rfl (lv_at hl 0 rfl) ?_
  refine g_new (ci := 0) (fs := [.int 0, .null, .int 0]) hx hb hts hown hK hM iaJx4a65c rfl tyJx4a65c tyJx4a65c_ok wk_X3_9 wb_Jx4a65c wn_Jx4a65c nfJx4a65c r0 (Nat.le_of_ble_eq_true rfl) (Nat.le_of_ble_eq_true rfl) dX3_init_49 (fun q4 H hq4 hM => ?_)
  refine lv_dup hx hb dX3_init_52 rfl ?_
  refine g_callIv (n9 := 0) (As := []) (rest := [.ref q4, .ref h0]) hx hb hml hl.1 hown hts hK hM (c_Jx4a65c_init_da8c8 l G _ q4 r0 0 0 hu_s) wm_X3_11 wi_Jx4a65c_init_da8c8 wn_Jx4a65c rfl wc_Jx4a65c_init_da8c8 (by decide +kernel) ⟨Nat.le_of_ble_eq_true rfl, Nat.le_of_ble_eq_true rfl⟩ ⟨Nat.le_of_ble_eq_true rfl, Nat.le_of_ble_eq_true rfl⟩ rfl (Nat.le_of_ble_eq_true rfl) rfl dX3_init_53 (fun Mz H locs hq hM => ?_)
  subst hq
  replace hM := hM.eq (hu_u _ _ _ _ _ _)
  have nq4 : h0 ≠ q4 := hu_ne hh4 hq4 (by simp)
  have n04 : q0 ≠ q4 := hu_ne hl4_0 hq4 (by simp)
  have n14 : q1 ≠ q4 := hu_ne hl4_1 hq4 (by simp)
  have n24 : q2 ≠ q4 := hu_ne hl4_2 hq4 (by simp)
  have n34 : q3 ≠ q4 := hu_ne hl4_3 hq4 (by simp)
  refine fp_X3_27 hx hb hts hown hK hM hname (hu_n nq4 hh4) dX3_init_56 (fun H locs hM => ?_)
  obtain ⟨M5, eM5⟩ : ∃ z, z = hu (hu M4 q4 r0 (lsE 0 (G.2.2 1) (nI 0))) h0 r0 (.inr (4, [.ref q0, .ref q1, .ref q2, .ref q3, .ref q4, .int 0, .int 0, .int 0, .int 0])) := ⟨_, rfl⟩
  replace hM := hM.eq eM5.symm
  have hh5 : M5 h0 = some (r0, (.inr (4, [.ref q0, .ref q1, .ref q2, .ref q3, .ref q4, .int 0, .int 0, .int 0, .int 0]))) := by rw [eM5]; exact hu_s
  have hl5_0 : M5 q0 = some (r0, lsE 0 (G.2.2 1) (nI 0)) := by rw [eM5]; exact hu_n (Ne.symm nq0) (hu_n n04 hl4_0)
  have hl5_1 : M5 q1 = some (r0, lsE 0 (G.2.2 1) (nI 0)) := by rw [eM5]; exact hu_n (Ne.symm nq1) (hu_n n14 hl4_1)
  have hl5_2 : M5 q2 = some (r0, lsE 0 (G.2.2 1) (nI 0)) := by rw [eM5]; exact hu_n (Ne.symm nq2) (hu_n n24 hl4_2)
  have hl5_3 : M5 q3 = some (r0, lsE 0 (G.2.2 1) (nI 0)) := by rw [eM5]; exact hu_n (Ne.symm nq3) (hu_n n34 hl4_3)
  have hl5_4 : M5 q4 = some (r0, lsE 0 (G.2.2 1) (nI 0)) := by rw [eM5]; exact hu_n (Ne.symm nq4) hu_s
  have hF5 : Fr r0 M M5 := by rw [eM5]; exact Fr.tr hF4 (Fr.tr (Fr.new hq4) (Fr.up (hu_n nq4 hh4)))
  refine lv_aload_n hx hb dX3_init_59 rfl (lv_at hl 0 rfl) ?_
  refine lv_sipush (v := (400 : Int32)) hx hb dX3_init_60 (by decide) ?_
  refine fp_X3_30 hx hb hts hown hK hM hh5 dX3_init_63 (fun H locs hM => ?_)
  refine lv_aload_n hx hb dX3_init_66 rfl (lv_at hl 0 rfl) ?_
  refine lv_sipush (v := (1000 : Int32)) hx hb dX3_init_67 (by decide) ?_
  refine fp_X3_34 hx hb hts hown hK hM hu_s dX3_init_70 (fun H locs hM => ?_)
  replace hM := hM.eq (hu_u _ _ _ _ _ _)
  refine lv_aload_n hx hb dX3_init_73 rfl (lv_at hl 0 rfl) ?_
  refine lv_iload_n hx hb dX3_init_74 rfl (lv_at hl 1 rfl) ?_
  refine fp_X3_37 hx hb hts hown hK hM hname hz hu_s dX3_init_75 (fun H locs hM => ?_)
  replace hM := hM.eq (hu_u _ _ _ _ _ _)
  obtain ⟨Y, eY⟩ : ∃ z : LY, z = ((fun k => match k with | 0 => q0 | 1 => q1 | 2 => q2 | 3 => q3 | _ => q4), (fun _ => 0), (fun _ => G.2.2 1), (fun _ => 0), (fun _ _ => none), (fun _ _ => 0)) := ⟨_, rfl⟩
  refine g_vret hx hb hr hlocks hM (Nat.le_of_ble_eq_true rfl) (Nat.le_of_ble_eq_true rfl) ⟨Y, ?_, Fr.tr hF5 (Fr.up hh5)⟩ dX3_init_78
  subst eY
  refine ⟨hu_s, fun k hk => ⟨?_, Nat.le_refl _, Nat.zero_le _, Or.inl ⟨rfl, rfl⟩⟩, fun k i _ hi => absurd hi (Nat.not_lt_zero _), fun k i j _ hi => absurd hi (Nat.not_lt_zero _), ?_, fun k k2 _ _ h => absurd rfl h, fun k => Nat.zero_le _, fun k _ h => absurd rfl h⟩
  · match k, hk with
    | 0, _ => exact hu_n (Ne.symm nq0) hl5_0
    | 1, _ => exact hu_n (Ne.symm nq1) hl5_1
    | 2, _ => exact hu_n (Ne.symm nq2) hl5_2
    | 3, _ => exact hu_n (Ne.symm nq3) hl5_3
    | 4, _ => exact hu_n (Ne.symm nq4) hl5_4
  · intro k k2 hk hk2
    match k, k2, hk, hk2 with
    | 0, 0, _, _ => intro _; rfl
    | 0, 1, _, _ => intro z; exact absurd z (fun z => n01 z)
    | 0, 2, _, _ => intro z; exact absurd z (fun z => n02 z)
    | 0, 3, _, _ => intro z; exact absurd z (fun z => n03 z)
    | 0, 4, _, _ => intro z; exact absurd z (fun z => n04 z)
    | 1, 0, _, _ => intro z; exact absurd z (fun z => n01 z.symm)
    | 1, 1, _, _ => intro _; rfl
    | 1, 2, _, _ => intro z; exact absurd z (fun z => n12 z)
    | 1, 3, _, _ => intro z; exact absurd z (fun z => n13 z)
    | 1, 4, _, _ => intro z; exact absurd z (fun z => n14 z)
    | 2, 0, _, _ => intro z; exact absurd z (fun z => n02 z.symm)
    | 2, 1, _, _ => intro z; exact absurd z (fun z => n12 z.symm)
    | 2, 2, _, _ => intro _; rfl
    | 2, 3, _, _ => intro z; exact absurd z (fun z => n23 z)
    | 2, 4, _, _ => intro z; exact absurd z (fun z => n24 z)
    | 3, 0, _, _ => intro z; exact absurd z (fun z => n03 z.symm)
    | 3, 1, _, _ => intro z; exact absurd z (fun z => n13 z.symm)
    | 3, 2, _, _ => intro z; exact absurd z (fun z => n23 z.symm)
    | 3, 3, _, _ => intro _; rfl
    | 3, 4, _, _ => intro z; exact absurd z (fun z => n34 z)
    | 4, 0, _, _ => intro z; exact absurd z (fun z => n04 z.symm)
    | 4, 1, _, _ => intro z; exact absurd z (fun z => n14 z.symm)
    | 4, 2, _, _ => intro z; exact absurd z (fun z => n24 z.symm)
    | 4, 3, _, _ => intro z; exact absurd z (fun z => n34 z.symm)
    | 4, 4, _, _ => intro _; rfl

theorem nfJx4a65c : ∀ j, j < 3 → defaultValue (tyJx4a65c j) = vp_V [.int 0, .null, .int 0] j := by
  intro j hj
  match j, hj with
  | 0, _ => rfl
  | 1, _ => rfl
  | 2, _ => rfl
theorem nfX2 : ∀ j, j < 13 → defaultValue (tyX2 j) = vp_V [.int 0, .int 0, .int 0, .int 0, .int 0, .int 0, .int 0, .int 0, .int 0, .int 0, .int 0, .int 0, .int 0] j := by
  intro j hj
  match j, hj with
  | 0, _ => rfl
  | 1, _ => rfl
  | 2, _ => rfl
  | 3, _ => rfl
  | 4, _ => rfl
  | 5, _ => rfl
  | 6, _ => rfl
  | 7, _ => rfl
  | 8, _ => rfl
  | 9, _ => rfl
  | 10, _ => rfl
  | 11, _ => rfl
  | 12, _ => rfl
theorem nfX0 : ∀ j, j < 12 → defaultValue (tyX0 j) = vp_V [.int 0, .int 0, .int 0, .int 0, .int 0, .int 0, .int 0, .int 0, .int 0, .int 0, .int 0, .int 0] j := by
  intro j hj
  match j, hj with
  | 0, _ => rfl
  | 1, _ => rfl
  | 2, _ => rfl
  | 3, _ => rfl
  | 4, _ => rfl
  | 5, _ => rfl
  | 6, _ => rfl
  | 7, _ => rfl
  | 8, _ => rfl
  | 9, _ => rfl
  | 10, _ => rfl
  | 11, _ => rfl
theorem nfX5 : ∀ j, j < 10 → defaultValue (tyX5 j) = vp_V [.int 0, .int 0, .int 0, .int 0, .int 0, .int 0, .int 0, .int 0, .int 0, .int 0] j := by
  intro j hj
  match j, hj with
  | 0, _ => rfl
  | 1, _ => rfl
  | 2, _ => rfl
  | 3, _ => rfl
  | 4, _ => rfl
  | 5, _ => rfl
  | 6, _ => rfl
  | 7, _ => rfl
  | 8, _ => rfl
  | 9, _ => rfl
theorem nfX1 : ∀ j, j < 6 → defaultValue (tyX1 j) = vp_V [.int 0, .int 0, .int 0, .int 0, .int 0, .int 0] j := by
  intro j hj
  match j, hj with
  | 0, _ => rfl
  | 1, _ => rfl
  | 2, _ => rfl
  | 3, _ => rfl
  | 4, _ => rfl
  | 5, _ => rfl
theorem LdR.congr {G : GG} {M : HM} {t a : Nat} {Y : LY} {N N' : Nat → Nat} {T T' : Tb} {tr now price money : Int32} (h : LdR G M t a Y N T tr now price money) (hN : ∀ k, k < 5 → N k = N' k) (h6 : ∀ k, N' k ≤ 600) (hT : ∀ k i, k < 5 → i < N k → T k i = T' k i) : LdR G M t a Y N' T' tr now price money := by
  obtain ⟨h1, h2, h3, h4, h5, h7, h8, h9⟩ := h
  refine ⟨h1, fun k hk => ?_, fun k i hk hi => ?_, fun k i j hk hi hj => ?_, h5, h7, h6, h9⟩
  · rw [← hN k hk]
    exact h2 k hk
  · rw [← hN k hk] at hi
    rw [← hT k i hk hi]
    exact h3 k i hk hi
  · rw [← hN k hk] at hi hj
    exact h4 k i j hk hi hj

set_option maxHeartbeats 4000000 in
set_option maxRecDepth 100000 in
theorem c_X3_init (l : Launch) (G : GG) (M : HM) (h0 r0 : Nat) (p0 : Int32) (T : Tb) (hh : M h0 = some (r0, (.inr (4, [.null, .null, .null, .null, .null, .int 0, .int 0, .int 0, .int 0])))) (hz : p0 = 0 ∨ p0 = 1) : Mv l yX3_init (.code yX3_init cX3_init 2 none :: AL) 4 80 5 15 [.ref h0, .int p0] G M (fun M' => ∃ Y, LdR G M' r0 h0 Y (fun _ => 0) T p0 0 400 1000 ∧ Fr r0 M M') := by
  refine Mv.go (by decide) (Nat.le_of_ble_eq_true rfl) ?_
  intro p e s m below meth c ls hx hb hr hml hown hlocks hname hts hK hM hl
  have hown : s.vm.findClass RX3 = some m.cls := hown
  have hl : lv_has ls 2 [(0, .ref h0), (1, .int p0)] := hl
  refine lv_aload_n hx hb dX3_init_0 rfl (lv_at hl 0 rfl) ?_
  refine W.objInit hx hb hown (hts _ wm_X3_3) (hts _ wi_objinit) (hts _ wc_objinit) rfl (hl.1.trans hml.symm) rfl dX3_init_1 (Nat.le_of_ble_eq_true rfl) (Nat.le_of_ble_eq_true rfl) ?_
  refine W.eq (g2 := F0 m 4 ls []) rfl ?_
  have hF0 : Fr r0 M M := Fr.rf
  refine lv_aload_n hx hb dX3_init_4 rfl (lv_at hl 0 rfl) ?_
  refine g_new (ci := 0) (fs := [.int 0, .null, .int 0]) hx hb hts hown hK hM iaJx4a65c rfl tyJx4a65c tyJx4a65c_ok wk_X3_9 wb_Jx4a65c wn_Jx4a65c nfJx4a65c r0 (Nat.le_of_ble_eq_true rfl) (Nat.le_of_ble_eq_true rfl) dX3_init_5 (fun q0 H hq0 hM => ?_)
  refine lv_dup hx hb dX3_init_8 rfl ?_
  refine g_callIv (n9 := 0) (As := []) (rest := [.ref q0, .ref h0]) hx hb hml hl.1 hown hts hK hM (c_Jx4a65c_init_da8c8 l G _ q0 r0 0 0 hu_s) wm_X3_11 wi_Jx4a65c_init_da8c8 wn_Jx4a65c rfl wc_Jx4a65c_init_da8c8 (by decide +kernel) ⟨Nat.le_of_ble_eq_true rfl, Nat.le_of_ble_eq_true rfl⟩ ⟨Nat.le_of_ble_eq_true rfl, Nat.le_of_ble_eq_true rfl⟩ rfl (Nat.le_of_ble_eq_true rfl) rfl dX3_init_9 (fun Mz H locs hq hM => ?_)
  subst hq
  replace hM := hM.eq (hu_u _ _ _ _ _ _)
  have nq0 : h0 ≠ q0 := hu_ne hh hq0 (by simp)
  refine fp_X3_12 hx hb hts hown hK hM hname (hu_n nq0 hh) dX3_init_12 (fun H locs hM => ?_)
  obtain ⟨M1, eM1⟩ : ∃ z, z = hu (hu M q0 r0 (lsE 0 (G.2.2 1) (nI 0))) h0 r0 (.inr (4, [.ref q0, .null, .null, .null, .null, .int 0, .int 0, .int 0, .int 0])) := ⟨_, rfl⟩
  replace hM := hM.eq eM1.symm
  have hh1 : M1 h0 = some (r0, (.inr (4, [.ref q0, .null, .null, .null, .null, .int 0, .int 0, .int 0, .int 0]))) := by rw [eM1]; exact hu_s
  have hl1_0 : M1 q0 = some (r0, lsE 0 (G.2.2 1) (nI 0)) := by rw [eM1]; exact hu_n (Ne.symm nq0) hu_s
  have hF1 : Fr r0 M M1 := by rw [eM1]; exact Fr.tr hF0 (Fr.tr (Fr.new hq0) (Fr.up (hu_n nq0 hh)))
  refine lv_aload_n hx hb dX3_init_15 rfl (lv_at hl 0 rfl) ?_
  refine g_new (ci := 0) (fs := [.int 0, .null, .int 0]) hx hb hts hown hK hM iaJx4a65c rfl tyJx4a65c tyJx4a65c_ok wk_X3_9 wb_Jx4a65c wn_Jx4a65c nfJx4a65c r0 (Nat.le_of_ble_eq_true rfl) (Nat.le_of_ble_eq_true rfl) dX3_init_16 (fun q1 H hq1 hM => ?_)
  refine lv_dup hx hb dX3_init_19 rfl ?_
  refine g_callIv (n9 := 0) (As := []) (rest := [.ref q1, .ref h0]) hx hb hml hl.1 hown hts hK hM (c_Jx4a65c_init_da8c8 l G _ q1 r0 0 0 hu_s) wm_X3_11 wi_Jx4a65c_init_da8c8 wn_Jx4a65c rfl wc_Jx4a65c_init_da8c8 (by decide +kernel) ⟨Nat.le_of_ble_eq_true rfl, Nat.le_of_ble_eq_true rfl⟩ ⟨Nat.le_of_ble_eq_true rfl, Nat.le_of_ble_eq_true rfl⟩ rfl (Nat.le_of_ble_eq_true rfl) rfl dX3_init_20 (fun Mz H locs hq hM => ?_)
  subst hq
  replace hM := hM.eq (hu_u _ _ _ _ _ _)
  have nq1 : h0 ≠ q1 := hu_ne hh1 hq1 (by simp)
  have n01 : q0 ≠ q1 := hu_ne hl1_0 hq1 (by simp)
  refine fp_X3_18 hx hb hts hown hK hM hname (hu_n nq1 hh1) dX3_init_23 (fun H locs hM => ?_)
  obtain ⟨M2, eM2⟩ : ∃ z, z = hu (hu M1 q1 r0 (lsE 0 (G.2.2 1) (nI 0))) h0 r0 (.inr (4, [.ref q0, .ref q1, .null, .null, .null, .int 0, .int 0, .int 0, .int 0])) := ⟨_, rfl⟩
  replace hM := hM.eq eM2.symm
  have hh2 : M2 h0 = some (r0, (.inr (4, [.ref q0, .ref q1, .null, .null, .null, .int 0, .int 0, .int 0, .int 0]))) := by rw [eM2]; exact hu_s
  have hl2_0 : M2 q0 = some (r0, lsE 0 (G.2.2 1) (nI 0)) := by rw [eM2]; exact hu_n (Ne.symm nq0) (hu_n n01 hl1_0)
  have hl2_1 : M2 q1 = some (r0, lsE 0 (G.2.2 1) (nI 0)) := by rw [eM2]; exact hu_n (Ne.symm nq1) hu_s
  have hF2 : Fr r0 M M2 := by rw [eM2]; exact Fr.tr hF1 (Fr.tr (Fr.new hq1) (Fr.up (hu_n nq1 hh1)))
  refine lv_aload_n hx hb dX3_init_26 rfl (lv_at hl 0 rfl) ?_
  refine g_new (ci := 0) (fs := [.int 0, .null, .int 0]) hx hb hts hown hK hM iaJx4a65c rfl tyJx4a65c tyJx4a65c_ok wk_X3_9 wb_Jx4a65c wn_Jx4a65c nfJx4a65c r0 (Nat.le_of_ble_eq_true rfl) (Nat.le_of_ble_eq_true rfl) dX3_init_27 (fun q2 H hq2 hM => ?_)
  refine lv_dup hx hb dX3_init_30 rfl ?_
  refine g_callIv (n9 := 0) (As := []) (rest := [.ref q2, .ref h0]) hx hb hml hl.1 hown hts hK hM (c_Jx4a65c_init_da8c8 l G _ q2 r0 0 0 hu_s) wm_X3_11 wi_Jx4a65c_init_da8c8 wn_Jx4a65c rfl wc_Jx4a65c_init_da8c8 (by decide +kernel) ⟨Nat.le_of_ble_eq_true rfl, Nat.le_of_ble_eq_true rfl⟩ ⟨Nat.le_of_ble_eq_true rfl, Nat.le_of_ble_eq_true rfl⟩ rfl (Nat.le_of_ble_eq_true rfl) rfl dX3_init_31 (fun Mz H locs hq hM => ?_)
  subst hq
  replace hM := hM.eq (hu_u _ _ _ _ _ _)
  have nq2 : h0 ≠ q2 := hu_ne hh2 hq2 (by simp)
  have n02 : q0 ≠ q2 := hu_ne hl2_0 hq2 (by simp)
  have n12 : q1 ≠ q2 := hu_ne hl2_1 hq2 (by simp)
  refine fp_X3_21 hx hb hts hown hK hM hname (hu_n nq2 hh2) dX3_init_34 (fun H locs hM => ?_)
  obtain ⟨M3, eM3⟩ : ∃ z, z = hu (hu M2 q2 r0 (lsE 0 (G.2.2 1) (nI 0))) h0 r0 (.inr (4, [.ref q0, .ref q1, .ref q2, .null, .null, .int 0, .int 0, .int 0, .int 0])) := ⟨_, rfl⟩
  replace hM := hM.eq eM3.symm
  have hh3 : M3 h0 = some (r0, (.inr (4, [.ref q0, .ref q1, .ref q2, .null, .null, .int 0, .int 0, .int 0, .int 0]))) := by rw [eM3]; exact hu_s
  have hl3_0 : M3 q0 = some (r0, lsE 0 (G.2.2 1) (nI 0)) := by rw [eM3]; exact hu_n (Ne.symm nq0) (hu_n n02 hl2_0)
  have hl3_1 : M3 q1 = some (r0, lsE 0 (G.2.2 1) (nI 0)) := by rw [eM3]; exact hu_n (Ne.symm nq1) (hu_n n12 hl2_1)
  have hl3_2 : M3 q2 = some (r0, lsE 0 (G.2.2 1) (nI 0)) := by rw [eM3]; exact hu_n (Ne.symm nq2) hu_s
  have hF3 : Fr r0 M M3 := by rw [eM3]; exact Fr.tr hF2 (Fr.tr (Fr.new hq2) (Fr.up (hu_n nq2 hh2)))
  refine lv_aload_n hx hb dX3_init_37 rfl (lv_at hl 0 rfl) ?_
  refine g_new (ci := 0) (fs := [.int 0, .null, .int 0]) hx hb hts hown hK hM iaJx4a65c rfl tyJx4a65c tyJx4a65c_ok wk_X3_9 wb_Jx4a65c wn_Jx4a65c nfJx4a65c r0 (Nat.le_of_ble_eq_true rfl) (Nat.le_of_ble_eq_true rfl) dX3_init_38 (fun q3 H hq3 hM => ?_)
  refine lv_dup hx hb dX3_init_41 rfl ?_
  refine g_callIv (n9 := 0) (As := []) (rest := [.ref q3, .ref h0]) hx hb hml hl.1 hown hts hK hM (c_Jx4a65c_init_da8c8 l G _ q3 r0 0 0 hu_s) wm_X3_11 wi_Jx4a65c_init_da8c8 wn_Jx4a65c rfl wc_Jx4a65c_init_da8c8 (by decide +kernel) ⟨Nat.le_of_ble_eq_true rfl, Nat.le_of_ble_eq_true rfl⟩ ⟨Nat.le_of_ble_eq_true rfl, Nat.le_of_ble_eq_true rfl⟩ rfl (Nat.le_of_ble_eq_true rfl) rfl dX3_init_42 (fun Mz H locs hq hM => ?_)
  subst hq
  replace hM := hM.eq (hu_u _ _ _ _ _ _)
  have nq3 : h0 ≠ q3 := hu_ne hh3 hq3 (by simp)
  have n03 : q0 ≠ q3 := hu_ne hl3_0 hq3 (by simp)
  have n13 : q1 ≠ q3 := hu_ne hl3_1 hq3 (by simp)
  have n23 : q2 ≠ q3 := hu_ne hl3_2 hq3 (by simp)
  refine fp_X3_24 hx hb hts hown hK hM hname (hu_n nq3 hh3) dX3_init_45 (fun H locs hM => ?_)
  obtain ⟨M4, eM4⟩ : ∃ z, z = hu (hu M3 q3 r0 (lsE 0 (G.2.2 1) (nI 0))) h0 r0 (.inr (4, [.ref q0, .ref q1, .ref q2, .ref q3, .null, .int 0, .int 0, .int 0, .int 0])) := ⟨_, rfl⟩
  replace hM := hM.eq eM4.symm
  have hh4 : M4 h0 = some (r0, (.inr (4, [.ref q0, .ref q1, .ref q2, .ref q3, .null, .int 0, .int 0, .int 0, .int 0]))) := by rw [eM4]; exact hu_s
  have hl4_0 : M4 q0 = some (r0, lsE 0 (G.2.2 1) (nI 0)) := by rw [eM4]; exact hu_n (Ne.symm nq0) (hu_n n03 hl3_0)
  have hl4_1 : M4 q1 = some (r0, lsE 0 (G.2.2 1) (nI 0)) := by rw [eM4]; exact hu_n (Ne.symm nq1) (hu_n n13 hl3_1)
  have hl4_2 : M4 q2 = some (r0, lsE 0 (G.2.2 1) (nI 0)) := by rw [eM4]; exact hu_n (Ne.symm nq2) (hu_n n23 hl3_2)
  have hl4_3 : M4 q3 = some (r0, lsE 0 (G.2.2 1) (nI 0)) := by rw [eM4]; exact hu_n (Ne.symm nq3) hu_s
  have hF4 : Fr r0 M M4 := by rw [eM4]; exact Fr.tr hF3 (Fr.tr (Fr.new hq3) (Fr.up (hu_n nq3 hh3)))
  refine lv_aload_n hx hb dX3_init_48 rfl (lv_at hl 0 rfl) ?_
  refine g_new (ci := 0) (fs := [.int 0, .null, .int 0]) hx hb hts hown hK hM iaJx4a65c rfl tyJx4a65c tyJx4a65c_ok wk_X3_9 wb_Jx4a65c wn_Jx4a65c nfJx4a65c r0 (Nat.le_of_ble_eq_true rfl) (Nat.le_of_ble_eq_true rfl) dX3_init_49 (fun q4 H hq4 hM => ?_)
  refine lv_dup hx hb dX3_init_52 rfl ?_
  refine g_callIv (n9 := 0) (As := []) (rest := [.ref q4, .ref h0]) hx hb hml hl.1 hown hts hK hM (c_Jx4a65c_init_da8c8 l G _ q4 r0 0 0 hu_s) wm_X3_11 wi_Jx4a65c_init_da8c8 wn_Jx4a65c rfl wc_Jx4a65c_init_da8c8 (by decide +kernel) ⟨Nat.le_of_ble_eq_true rfl, Nat.le_of_ble_eq_true rfl⟩ ⟨Nat.le_of_ble_eq_true rfl, Nat.le_of_ble_eq_true rfl⟩ rfl (Nat.le_of_ble_eq_true rfl) rfl dX3_init_53 (fun Mz H locs hq hM => ?_)
  subst hq
  replace hM := hM.eq (hu_u _ _ _ _ _ _)
  have nq4 : h0 ≠ q4 := hu_ne hh4 hq4 (by simp)
  have n04 : q0 ≠ q4 := hu_ne hl4_0 hq4 (by simp)
  have n14 : q1 ≠ q4 := hu_ne hl4_1 hq4 (by simp)
  have n24 : q2 ≠ q4 := hu_ne hl4_2 hq4 (by simp)
  have n34 : q3 ≠ q4 := hu_ne hl4_3 hq4 (by simp)
  refine fp_X3_27 hx hb hts hown hK hM hname (hu_n nq4 hh4) dX3_init_56 (fun H locs hM => ?_)
  obtain ⟨M5, eM5⟩ : ∃ z, z = hu (hu M4 q4 r0 (lsE 0 (G.2.2 1) (nI 0))) h0 r0 (.inr (4, [.ref q0, .ref q1, .ref q2, .ref q3, .ref q4, .int 0, .int 0, .int 0, .int 0])) := ⟨_, rfl⟩
  replace hM := hM.eq eM5.symm
  have hh5 : M5 h0 = some (r0, (.inr (4, [.ref q0, .ref q1, .ref q2, .ref q3, .ref q4, .int 0, .int 0, .int 0, .int 0]))) := by rw [eM5]; exact hu_s
  have hl5_0 : M5 q0 = some (r0, lsE 0 (G.2.2 1) (nI 0)) := by rw [eM5]; exact hu_n (Ne.symm nq0) (hu_n n04 hl4_0)
  have hl5_1 : M5 q1 = some (r0, lsE 0 (G.2.2 1) (nI 0)) := by rw [eM5]; exact hu_n (Ne.symm nq1) (hu_n n14 hl4_1)
  have hl5_2 : M5 q2 = some (r0, lsE 0 (G.2.2 1) (nI 0)) := by rw [eM5]; exact hu_n (Ne.symm nq2) (hu_n n24 hl4_2)
  have hl5_3 : M5 q3 = some (r0, lsE 0 (G.2.2 1) (nI 0)) := by rw [eM5]; exact hu_n (Ne.symm nq3) (hu_n n34 hl4_3)
  have hl5_4 : M5 q4 = some (r0, lsE 0 (G.2.2 1) (nI 0)) := by rw [eM5]; exact hu_n (Ne.symm nq4) hu_s
  have hF5 : Fr r0 M M5 := by rw [eM5]; exact Fr.tr hF4 (Fr.tr (Fr.new hq4) (Fr.up (hu_n nq4 hh4)))
  refine lv_aload_n hx hb dX3_init_59 rfl (lv_at hl 0 rfl) ?_
  refine lv_sipush (v := (400 : Int32)) hx hb dX3_init_60 (by decide) ?_
  refine fp_X3_30 hx hb hts hown hK hM hh5 dX3_init_63 (fun H locs hM => ?_)
  refine lv_aload_n hx hb dX3_init_66 rfl (lv_at hl 0 rfl) ?_
  refine lv_sipush (v := (1000 : Int32)) hx hb dX3_init_67 (by decide) ?_
  refine fp_X3_34 hx hb hts hown hK hM hu_s dX3_init_70 (fun H locs hM => ?_)
  replace hM := hM.eq (hu_u _ _ _ _ _ _)
  refine lv_aload_n hx hb dX3_init_73 rfl (lv_at hl 0 rfl) ?_
  refine lv_iload_n hx hb dX3_init_74 rfl (lv_at hl 1 rfl) ?_
  refine fp_X3_37 hx hb hts hown hK hM hname hz hu_s dX3_init_75 (fun H locs hM => ?_)
  replace hM := hM.eq (hu_u _ _ _ _ _ _)
  obtain ⟨Y, eY⟩ : ∃ z : LY, z = ((fun k => match k with | 0 => q0 | 1 => q1 | 2 => q2 | 3 => q3 | _ => q4), (fun _ => 0), (fun _ => G.2.2 1), (fun _ => 0), (fun _ _ => none), (fun _ _ => 0)) := ⟨_, rfl⟩
  refine g_vret hx hb hr hlocks hM (Nat.le_of_ble_eq_true rfl) (Nat.le_of_ble_eq_true rfl) ⟨Y, ?_, Fr.tr hF5 (Fr.up hh5)⟩ dX3_init_78
  subst eY
  refine ⟨hu_s, fun k hk => ⟨?_, Nat.le_refl _, Nat.zero_le _, Or.inl ⟨rfl, rfl⟩⟩, fun k i _ hi => absurd hi (Nat.not_lt_zero _), fun k i j _ hi => absurd hi (Nat.not_lt_zero _), ?_, fun k k2 _ _ h => absurd rfl h, fun k => Nat.zero_le _, fun k _ h => absurd rfl h⟩
  · match k, hk with
    | 0, _ => exact hu_n (Ne.symm nq0) hl5_0
    | 1, _ => exact hu_n (Ne.symm nq1) hl5_1
    | 2, _ => exact hu_n (Ne.symm nq2) hl5_2
    | 3, _ => exact hu_n (Ne.symm nq3) hl5_3
    | 4, _ => exact hu_n (Ne.symm nq4) hl5_4
  · intro k k2 hk hk2
    match k, k2, hk, hk2 with
    | 0, 0, _, _ => intro _; rfl
    | 0, 1, _, _ => intro z; exact absurd z (fun z => n01 z)
    | 0, 2, _, _ => intro z; exact absurd z (fun z => n02 z)
    | 0, 3, _, _ => intro z; exact absurd z (fun z => n03 z)
    | 0, 4, _, _ => intro z; exact absurd z (fun z => n04 z)
    | 1, 0, _, _ => intro z; exact absurd z (fun z => n01 z.symm)
    | 1, 1, _, _ => intro _; rfl
    | 1, 2, _, _ => intro z; exact absurd z (fun z => n12 z)
    | 1, 3, _, _ => intro z; exact absurd z (fun z => n13 z)
    | 1, 4, _, _ => intro z; exact absurd z (fun z => n14 z)
    | 2, 0, _, _ => intro z; exact absurd z (fun z => n02 z.symm)
    | 2, 1, _, _ => intro z; exact absurd z (fun z => n12 z.symm)
    | 2, 2, _, _ => intro _; rfl
    | 2, 3, _, _ => intro z; exact absurd z (fun z => n23 z)
    | 2, 4, _, _ => intro z; exact absurd z (fun z => n24 z)
    | 3, 0, _, _ => intro z; exact absurd z (fun z => n03 z.symm)
    | 3, 1, _, _ => intro z; exact absurd z (fun z => n13 z.symm)
    | 3, 2, _, _ => intro z; exact absurd z (fun z => n23 z.symm)
    | 3, 3, _, _ => intro _; rfl
    | 3, 4, _, _ => intro z; exact absurd z (fun z => n34 z)
    | 4, 0, _, _ => intro z; exact absurd z (fun z => n04 z.symm)
    | 4, 1, _, _ => intro z; exact absurd z (fun z => n14 z.symm)
    | 4, 2, _, _ => intro z; exact absurd z (fun z => n24 z.symm)
    | 4, 3, _, _ => intro z; exact absurd z (fun z => n34 z.symm)
    | 4, 4, _, _ => intro _; rfl
set_option maxHeartbeats 8000000 in
set_option maxRecDepth 100000 in
theorem c_X3_addRowsAs (l : Launch) (G : GG) (M : HM) (t h0 : Nat) (Y : LY) (N : Nat → Nat) (T : Tb) (tr now price money : Int32) (t1 h1 : Nat) (Yo : LY) (No : Nat → Nat) (To : Tb) (tr1 now1 price1 money1 : Int32) (hL : LdR G M t h0 Y N T tr now price money) (hLo : LdR G M t1 h1 Yo No To tr1 now1 price1 money1) (hne : t1 ≠ t) (k0 : N 0 ≤ No 0 ∧ No 0 ≤ 8) (k1 : N 1 ≤ No 1 ∧ No 1 ≤ 8) (k2 : N 2 ≤ No 2 ∧ No 2 ≤ 8) (k3 : N 3 ≤ No 3 ∧ No 3 ≤ 8) : Mv l yX3_addRowsAs (.code yX3_addRowsAs cX3_addRowsAs 3 none :: AL) 7 171 (2 * (No 0 + No 1 + No 2 + No 3 - (N 0 + N 1 + N 2 + N 3))) (40 * (No 0 + No 1 + No 2 + No 3 - (N 0 + N 1 + N 2 + N 3))) [.ref h0, .ref h1] G M (fun M' => ∃ Y' N' T', LdR G M' t h0 Y' N' T' tr now price money ∧ Fr t M M' ∧ N' 0 = No 0 ∧ N' 1 = No 1 ∧ N' 2 = No 2 ∧ N' 3 = No 3 ∧ N' 4 = N 4) := by
  refine Mv.go (by decide) (Nat.le_of_ble_eq_true rfl) ?_
  intro p e s m below meth c ls hx hb hr hml hown hlocks hname hts hK hM hl
  have hown : s.vm.findClass RX3 = some m.cls := hown
  have hl : lv_has ls 3 [(0, .ref h0), (1, .ref h1)] := hl
  obtain ⟨mc, emc⟩ : ∃ z, z = (2 * (No 0 + No 1 + No 2 + No 3 - (N 0 + N 1 + N 2 + N 3))) := ⟨_, rfl⟩
  obtain ⟨ms, ems⟩ : ∃ z, z = (40 * (No 0 + No 1 + No 2 + No 3 - (N 0 + N 1 + N 2 + N 3))) := ⟨_, rfl⟩
  rw [← emc, ← ems]
  have L137 : ∀ (n i : Nat), N 3 ≤ i → i ≤ No 3 → No 3 - i < n → ∀ (M1 : HM) (H : Heap) (locs : List Loc) (ls : Array Slot) (Y1 : LY) (N1 : Nat → Nat) (T1 : Tb), LdR G M1 t h0 Y1 N1 T1 tr now price money → Fr t M M1 → (N1 0 = No 0 ∧ N1 1 = No 1 ∧ N1 2 = No 2 ∧ N1 3 = i ∧ N1 4 = N 4) → Wd G M1 s H locs → lv_has ls 3 [(2, .int (nI i)), (0, .ref h0), (1, .ref h1)] → W p l e ({ frames := 7, cells := mc, slots := ms, locals := 171 } : Room) s m [.ref h0, .ref h1].toArray below meth c H locs (2 * ((No 0 - N 0) + (No 1 - N 1) + (No 2 - N 2) + (i - N 3))) (40 * ((No 0 - N 0) + (No 1 - N 1) + (No 2 - N 2) + (i - N 3))) (MQ below (va_Qv (fun M' => ∃ Y' N' T', LdR G M' t h0 Y' N' T' tr now price money ∧ Fr t M M' ∧ N' 0 = No 0 ∧ N' 1 = No 1 ∧ N' 2 = No 2 ∧ N' 3 = No 3 ∧ N' 4 = N 4) (gB G) (gA G)) [.ref h0, .ref h1].toArray s mc ms (gA G)) (F0 m 137 ls []) := by
    intro n
    induction n with
    | zero => intro i h0 h1 h2; omega
    | succ n ih =>
      intro i hi0 hi1 hi2 M1 H locs ls Y1 N1 T1 hL1 hF1 hN1 hM hl
      obtain ⟨e0, e1, e2, e3, e4⟩ := hN1
      have hLo1 := hLo.frame hne hF1
      refine lv_iload_n hx hb dX3_addRowsAs_137 rfl (lv_at hl 0 rfl) ?_
      refine lv_aload_n hx hb dX3_addRowsAs_138 rfl (lv_at hl 2 rfl) ?_
      refine fg_X3_24 hx hb hts hown hK hM hLo1.1 dX3_addRowsAs_139 ?_
      refine g_callVi (n9 := 0) (As := []) (rest := [.int (nI i)]) hx hb hml hl.1 hown hts hK hM (c_Jx4a65c_size_8abf5 l G _ (Yo.1 3) t1 _ _ _ ((hLo1.2.1 3 (by decide)).1)) wm_X3_48 wi_Jx4a65c_size_8abf5 wl_Jx4a65c_size_8abf5 wn_Jx4a65c wc_Jx4a65c_size_8abf5 (by decide +kernel) (hM.recv hK (ci := 0) rfl ((hLo1.2.1 3 (by decide)).1)) ⟨Nat.le_of_ble_eq_true rfl, Nat.le_of_ble_eq_true rfl⟩ ⟨by show _ ≤ mc; omega, by show _ ≤ ms; omega⟩ rfl (Nat.le_of_ble_eq_true rfl) rfl dX3_addRowsAs_142 (fun r_142 Mz H locs hq hM => ?_)
      have hq1 := hq.1.symm
      have hq2 := hq.2.symm
      subst hq1 hq2
      refine lv_icmp_ge (tgt := 175) hx hb dX3_addRowsAs_145 (by decide) (fun c1 => ?_) (fun c1 => ?_)
      · have hi : i = No 3 := by
          have := (nI_leI (a := No 3) (b := i) (by omega) (by omega)).mp c1
          omega
        exact g_vret hx hb hr hlocks hM (by omega) (by omega) ⟨Y1, N1, T1, hL1, hF1, e0, e1, e2, by omega, e4⟩ dX3_addRowsAs_175
      · have hi : i < No 3 := by
          rcases Nat.lt_or_ge i (No 3) with z | z
          · exact z
          · exact absurd (nI_le z (by omega)) c1
        refine lv_aload_n hx hb dX3_addRowsAs_148 rfl (lv_at hl 1 rfl) ?_
        refine fg_X3_24 hx hb hts hown hK hM hL1.1 dX3_addRowsAs_149 ?_
        refine g_new (ci := 2) (fs := [.int 0, .int 0, .int 0, .int 0, .int 0, .int 0]) hx hb hts hown hK hM iaX1 rfl tyX1 tyX1_ok wk_X3_72 wb_X1 wn_X1 nfX1 t (by show _ ≤ mc; omega) (by show _ ≤ ms; omega) dX3_addRowsAs_152 (fun q H hq0 hM => ?_)
        refine lv_dup hx hb dX3_addRowsAs_155 rfl ?_
        refine lv_iconst (v := (0 : Int32)) hx hb dX3_addRowsAs_156 (by decide) ?_
        refine lv_iconst (v := (0 : Int32)) hx hb dX3_addRowsAs_157 (by decide) ?_
        refine lv_iconst (v := (0 : Int32)) hx hb dX3_addRowsAs_158 (by decide) ?_
        refine lv_iconst (v := (0 : Int32)) hx hb dX3_addRowsAs_159 (by decide) ?_
        refine lv_iconst (v := (0 : Int32)) hx hb dX3_addRowsAs_160 (by decide) ?_
        refine lv_iconst (v := (0 : Int32)) hx hb dX3_addRowsAs_161 (by decide) ?_
        refine g_callIv (n9 := 6) (As := [.int (0 : Int32), .int (0 : Int32), .int (0 : Int32), .int (0 : Int32), .int (0 : Int32), .int (0 : Int32)]) (rest := [.ref q, .ref (Y1.1 3)]) hx hb hml hl.1 hown hts hK hM (cr_X1_init l G _ q t (fun _ => 0) (0 : Int32) (0 : Int32) (0 : Int32) (0 : Int32) (0 : Int32) (0 : Int32) hu_s) wm_X3_90 wi_X1_init wn_X1 rfl wc_X1_init (by decide +kernel) ⟨Nat.le_of_ble_eq_true rfl, Nat.le_of_ble_eq_true rfl⟩ ⟨by show _ ≤ mc; omega, by show _ ≤ ms; omega⟩ rfl (Nat.le_of_ble_eq_true rfl) rfl dX3_addRowsAs_162 (fun Mz H locs hq hM => ?_)
        subst hq
        obtain ⟨tk, etk⟩ : ∃ z, z = R_X1_init_0 (fun _ => 0) (0 : Int32) (0 : Int32) (0 : Int32) (0 : Int32) (0 : Int32) (0 : Int32) := ⟨_, rfl⟩
        rw [← etk] at hM
        replace hM := hM.eq (hu_u _ _ _ _ _ _)
        refine g_callVi (n9 := 1) (As := [.ref q]) (rest := []) hx hb hml hl.1 hown hts hK hM (c_add l G _ (Y1.1 3) t q t (N1 3) (Y1.2.2.1 3) (Y1.2.2.2.1 3) (eC 3 tk) (Y1.2.2.2.2.1 3) (Y1.2.1 3) (hL1.lsNew (k := 3) (by decide) hq0) hu_s (eC_okv G (by decide) tk) (by omega) (hL1.elNew (k := 3) (by decide) hq0)) wm_X3_80 wi_Jx4a65c_add_9ea2d wl_Jx4a65c_add_9ea2d wn_Jx4a65c wc_Jx4a65c_add_9ea2d (by decide +kernel) (hM.recv hK (ci := 0) rfl (hL1.lsNew (k := 3) (by decide) hq0).1) ⟨Nat.le_of_ble_eq_true rfl, Nat.le_of_ble_eq_true rfl⟩ ⟨by show _ ≤ mc; omega, by show _ ≤ ms; omega⟩ rfl (Nat.le_of_ble_eq_true rfl) rfl dX3_addRowsAs_165 (fun r_30 M2 H locs hq hM => ?_)
        obtain ⟨hq1, ar1, cap1, g1, b1, b2, b3, b4, b5, b6⟩ := hq
        have hL2 := hL1.add (k := 3) (by decide) hq0 rfl (by omega) b1 b2 b3 b4 b5 b6
        have hF2 : Fr t M M2 := Fr.tr hF1 (hL1.addFr (k := 3) (by decide) hq0 b6)
        refine W.cst (cells' := 2 * ((No 0 - N 0) + (No 1 - N 1) + (No 2 - N 2) + ((i + 1) - N 3))) (slots' := 40 * ((No 0 - N 0) + (No 1 - N 1) + (No 2 - N 2) + (i - N 3)) + 6 + (N1 3 + N1 3 / 2 + 10)) (by omega) (by omega) ?_
        refine lv_pop hx hb dX3_addRowsAs_168 rfl ?_
        refine lv_iinc (v := (nI (i + 1))) (lv' := [(2, .int (nI (i + 1))), (0, .ref h0), (1, .ref h1)]) hx hb dX3_addRowsAs_169 hl (k := 0) rfl (nI_1 i) (by decide) rfl (fun ls hl => ?_)
        refine lv_goto (tgt := 137) hx hb dX3_addRowsAs_172 (by decide) ?_
        refine W.widen (k := 2 * ((No 0 - N 0) + (No 1 - N 1) + (No 2 - N 2) + ((i + 1) - N 3))) (n := 40 * ((No 0 - N 0) + (No 1 - N 1) + (No 2 - N 2) + ((i + 1) - N 3))) (Nat.le_refl _) (by omega) ?_
        exact ih (i + 1) (by omega) (by omega) (by omega) M2 _ _ _ _ _ _ hL2 hF2 ⟨(nu_n (by decide)).trans e0, (nu_n (by decide)).trans e1, (nu_n (by decide)).trans e2, nu_s.trans (by omega), (nu_n (by decide)).trans e4⟩ hM (lv_sub hl [0, 1, 2] rfl)
  have L96 : ∀ (n i : Nat), N 2 ≤ i → i ≤ No 2 → No 2 - i < n → ∀ (M1 : HM) (H : Heap) (locs : List Loc) (ls : Array Slot) (Y1 : LY) (N1 : Nat → Nat) (T1 : Tb), LdR G M1 t h0 Y1 N1 T1 tr now price money → Fr t M M1 → (N1 0 = No 0 ∧ N1 1 = No 1 ∧ N1 2 = i ∧ N1 3 = N 3 ∧ N1 4 = N 4) → Wd G M1 s H locs → lv_has ls 3 [(2, .int (nI i)), (0, .ref h0), (1, .ref h1)] → W p l e ({ frames := 7, cells := mc, slots := ms, locals := 171 } : Room) s m [.ref h0, .ref h1].toArray below meth c H locs (2 * ((No 0 - N 0) + (No 1 - N 1) + (i - N 2))) (40 * ((No 0 - N 0) + (No 1 - N 1) + (i - N 2))) (MQ below (va_Qv (fun M' => ∃ Y' N' T', LdR G M' t h0 Y' N' T' tr now price money ∧ Fr t M M' ∧ N' 0 = No 0 ∧ N' 1 = No 1 ∧ N' 2 = No 2 ∧ N' 3 = No 3 ∧ N' 4 = N 4) (gB G) (gA G)) [.ref h0, .ref h1].toArray s mc ms (gA G)) (F0 m 96 ls []) := by
    intro n
    induction n with
    | zero => intro i h0 h1 h2; omega
    | succ n ih =>
      intro i hi0 hi1 hi2 M1 H locs ls Y1 N1 T1 hL1 hF1 hN1 hM hl
      obtain ⟨e0, e1, e2, e3, e4⟩ := hN1
      have hLo1 := hLo.frame hne hF1
      refine lv_iload_n hx hb dX3_addRowsAs_96 rfl (lv_at hl 0 rfl) ?_
      refine lv_aload_n hx hb dX3_addRowsAs_97 rfl (lv_at hl 2 rfl) ?_
      refine fg_X3_21 hx hb hts hown hK hM hLo1.1 dX3_addRowsAs_98 ?_
      refine g_callVi (n9 := 0) (As := []) (rest := [.int (nI i)]) hx hb hml hl.1 hown hts hK hM (c_Jx4a65c_size_8abf5 l G _ (Yo.1 2) t1 _ _ _ ((hLo1.2.1 2 (by decide)).1)) wm_X3_48 wi_Jx4a65c_size_8abf5 wl_Jx4a65c_size_8abf5 wn_Jx4a65c wc_Jx4a65c_size_8abf5 (by decide +kernel) (hM.recv hK (ci := 0) rfl ((hLo1.2.1 2 (by decide)).1)) ⟨Nat.le_of_ble_eq_true rfl, Nat.le_of_ble_eq_true rfl⟩ ⟨by show _ ≤ mc; omega, by show _ ≤ ms; omega⟩ rfl (Nat.le_of_ble_eq_true rfl) rfl dX3_addRowsAs_101 (fun r_101 Mz H locs hq hM => ?_)
      have hq1 := hq.1.symm
      have hq2 := hq.2.symm
      subst hq1 hq2
      refine lv_icmp_ge (tgt := 129) hx hb dX3_addRowsAs_104 (by decide) (fun c2 => ?_) (fun c2 => ?_)
      · have hi : i = No 2 := by
          have := (nI_leI (a := No 2) (b := i) (by omega) (by omega)).mp c2
          omega
        refine lv_aload_n hx hb dX3_addRowsAs_129 rfl (lv_at hl 1 rfl) ?_
        refine fg_X3_24 hx hb hts hown hK hM hL1.1 dX3_addRowsAs_130 ?_
        refine g_callVi (n9 := 0) (As := []) (rest := []) hx hb hml hl.1 hown hts hK hM (c_Jx4a65c_size_8abf5 l G _ (Y1.1 3) t _ _ _ ((hL1.2.1 3 (by decide)).1)) wm_X3_48 wi_Jx4a65c_size_8abf5 wl_Jx4a65c_size_8abf5 wn_Jx4a65c wc_Jx4a65c_size_8abf5 (by decide +kernel) (hM.recv hK (ci := 0) rfl ((hL1.2.1 3 (by decide)).1)) ⟨Nat.le_of_ble_eq_true rfl, Nat.le_of_ble_eq_true rfl⟩ ⟨by show _ ≤ mc; omega, by show _ ≤ ms; omega⟩ rfl (Nat.le_of_ble_eq_true rfl) rfl dX3_addRowsAs_133 (fun r_133 Mz H locs hq hM => ?_)
        have hq1 := hq.1.symm
        have hq2 := hq.2.symm
        subst hq1 hq2
        refine lv_istore_n (lv' := [(2, .int (nI (N1 3))), (0, .ref h0), (1, .ref h1)]) hx hb dX3_addRowsAs_136 rfl hl (by decide) rfl (fun ls hl => ?_)
        refine W.cst (cells' := 2 * ((No 0 - N 0) + (No 1 - N 1) + (No 2 - N 2) + (N1 3 - N 3))) (slots' := 40 * ((No 0 - N 0) + (No 1 - N 1) + (No 2 - N 2) + (N1 3 - N 3))) (by omega) (by omega) ?_
        exact L137 (No 3 + 1) (N1 3) (by omega) (by omega) (by omega) M1 _ _ _ Y1 N1 T1 hL1 hF1 ⟨by omega, by omega, by omega, by omega, by omega⟩ hM (lv_sub hl [0, 1, 2] rfl)
      · have hi : i < No 2 := by
          rcases Nat.lt_or_ge i (No 2) with z | z
          · exact z
          · exact absurd (nI_le z (by omega)) c2
        refine lv_aload_n hx hb dX3_addRowsAs_107 rfl (lv_at hl 1 rfl) ?_
        refine fg_X3_21 hx hb hts hown hK hM hL1.1 dX3_addRowsAs_108 ?_
        refine g_new (ci := 6) (fs := [.int 0, .int 0, .int 0, .int 0, .int 0, .int 0, .int 0, .int 0, .int 0, .int 0]) hx hb hts hown hK hM iaX5 rfl tyX5 tyX5_ok wk_X3_67 wb_X5 wn_X5 nfX5 t (by show _ ≤ mc; omega) (by show _ ≤ ms; omega) dX3_addRowsAs_111 (fun q H hq0 hM => ?_)
        refine lv_dup hx hb dX3_addRowsAs_114 rfl ?_
        refine lv_iconst (v := (0 : Int32)) hx hb dX3_addRowsAs_115 (by decide) ?_
        refine g_callIv (n9 := 1) (As := [.int (0 : Int32)]) (rest := [.ref q, .ref (Y1.1 2)]) hx hb hml hl.1 hown hts hK hM (cr_X5_init l G _ q t (fun _ => 0) (0 : Int32) hu_s) wm_X3_87 wi_X5_init wn_X5 rfl wc_X5_init (by decide +kernel) ⟨Nat.le_of_ble_eq_true rfl, Nat.le_of_ble_eq_true rfl⟩ ⟨by show _ ≤ mc; omega, by show _ ≤ ms; omega⟩ rfl (Nat.le_of_ble_eq_true rfl) rfl dX3_addRowsAs_116 (fun Mz H locs hq hM => ?_)
        subst hq
        obtain ⟨tk, etk⟩ : ∃ z, z = R_X5_init_0 (fun _ => 0) (0 : Int32) := ⟨_, rfl⟩
        rw [← etk] at hM
        replace hM := hM.eq (hu_u _ _ _ _ _ _)
        refine g_callVi (n9 := 1) (As := [.ref q]) (rest := []) hx hb hml hl.1 hown hts hK hM (c_add l G _ (Y1.1 2) t q t (N1 2) (Y1.2.2.1 2) (Y1.2.2.2.1 2) (eC 2 tk) (Y1.2.2.2.2.1 2) (Y1.2.1 2) (hL1.lsNew (k := 2) (by decide) hq0) hu_s (eC_okv G (by decide) tk) (by omega) (hL1.elNew (k := 2) (by decide) hq0)) wm_X3_80 wi_Jx4a65c_add_9ea2d wl_Jx4a65c_add_9ea2d wn_Jx4a65c wc_Jx4a65c_add_9ea2d (by decide +kernel) (hM.recv hK (ci := 0) rfl (hL1.lsNew (k := 2) (by decide) hq0).1) ⟨Nat.le_of_ble_eq_true rfl, Nat.le_of_ble_eq_true rfl⟩ ⟨by show _ ≤ mc; omega, by show _ ≤ ms; omega⟩ rfl (Nat.le_of_ble_eq_true rfl) rfl dX3_addRowsAs_119 (fun r_30 M2 H locs hq hM => ?_)
        obtain ⟨hq1, ar1, cap1, g1, b1, b2, b3, b4, b5, b6⟩ := hq
        have hL2 := hL1.add (k := 2) (by decide) hq0 rfl (by omega) b1 b2 b3 b4 b5 b6
        have hF2 : Fr t M M2 := Fr.tr hF1 (hL1.addFr (k := 2) (by decide) hq0 b6)
        refine W.cst (cells' := 2 * ((No 0 - N 0) + (No 1 - N 1) + ((i + 1) - N 2))) (slots' := 40 * ((No 0 - N 0) + (No 1 - N 1) + (i - N 2)) + 10 + (N1 2 + N1 2 / 2 + 10)) (by omega) (by omega) ?_
        refine lv_pop hx hb dX3_addRowsAs_122 rfl ?_
        refine lv_iinc (v := (nI (i + 1))) (lv' := [(2, .int (nI (i + 1))), (0, .ref h0), (1, .ref h1)]) hx hb dX3_addRowsAs_123 hl (k := 0) rfl (nI_1 i) (by decide) rfl (fun ls hl => ?_)
        refine lv_goto (tgt := 96) hx hb dX3_addRowsAs_126 (by decide) ?_
        refine W.widen (k := 2 * ((No 0 - N 0) + (No 1 - N 1) + ((i + 1) - N 2))) (n := 40 * ((No 0 - N 0) + (No 1 - N 1) + ((i + 1) - N 2))) (Nat.le_refl _) (by omega) ?_
        exact ih (i + 1) (by omega) (by omega) (by omega) M2 _ _ _ _ _ _ hL2 hF2 ⟨(nu_n (by decide)).trans e0, (nu_n (by decide)).trans e1, nu_s.trans (by omega), (nu_n (by decide)).trans e3, (nu_n (by decide)).trans e4⟩ hM (lv_sub hl [0, 1, 2] rfl)
  have L53 : ∀ (n i : Nat), N 1 ≤ i → i ≤ No 1 → No 1 - i < n → ∀ (M1 : HM) (H : Heap) (locs : List Loc) (ls : Array Slot) (Y1 : LY) (N1 : Nat → Nat) (T1 : Tb), LdR G M1 t h0 Y1 N1 T1 tr now price money → Fr t M M1 → (N1 0 = No 0 ∧ N1 1 = i ∧ N1 2 = N 2 ∧ N1 3 = N 3 ∧ N1 4 = N 4) → Wd G M1 s H locs → lv_has ls 3 [(2, .int (nI i)), (0, .ref h0), (1, .ref h1)] → W p l e ({ frames := 7, cells := mc, slots := ms, locals := 171 } : Room) s m [.ref h0, .ref h1].toArray below meth c H locs (2 * ((No 0 - N 0) + (i - N 1))) (40 * ((No 0 - N 0) + (i - N 1))) (MQ below (va_Qv (fun M' => ∃ Y' N' T', LdR G M' t h0 Y' N' T' tr now price money ∧ Fr t M M' ∧ N' 0 = No 0 ∧ N' 1 = No 1 ∧ N' 2 = No 2 ∧ N' 3 = No 3 ∧ N' 4 = N 4) (gB G) (gA G)) [.ref h0, .ref h1].toArray s mc ms (gA G)) (F0 m 53 ls []) := by
    intro n
    induction n with
    | zero => intro i h0 h1 h2; omega
    | succ n ih =>
      intro i hi0 hi1 hi2 M1 H locs ls Y1 N1 T1 hL1 hF1 hN1 hM hl
      obtain ⟨e0, e1, e2, e3, e4⟩ := hN1
      have hLo1 := hLo.frame hne hF1
      refine lv_iload_n hx hb dX3_addRowsAs_53 rfl (lv_at hl 0 rfl) ?_
      refine lv_aload_n hx hb dX3_addRowsAs_54 rfl (lv_at hl 2 rfl) ?_
      refine fg_X3_18 hx hb hts hown hK hM hLo1.1 dX3_addRowsAs_55 ?_
      refine g_callVi (n9 := 0) (As := []) (rest := [.int (nI i)]) hx hb hml hl.1 hown hts hK hM (c_Jx4a65c_size_8abf5 l G _ (Yo.1 1) t1 _ _ _ ((hLo1.2.1 1 (by decide)).1)) wm_X3_48 wi_Jx4a65c_size_8abf5 wl_Jx4a65c_size_8abf5 wn_Jx4a65c wc_Jx4a65c_size_8abf5 (by decide +kernel) (hM.recv hK (ci := 0) rfl ((hLo1.2.1 1 (by decide)).1)) ⟨Nat.le_of_ble_eq_true rfl, Nat.le_of_ble_eq_true rfl⟩ ⟨by show _ ≤ mc; omega, by show _ ≤ ms; omega⟩ rfl (Nat.le_of_ble_eq_true rfl) rfl dX3_addRowsAs_58 (fun r_58 Mz H locs hq hM => ?_)
      have hq1 := hq.1.symm
      have hq2 := hq.2.symm
      subst hq1 hq2
      refine lv_icmp_ge (tgt := 88) hx hb dX3_addRowsAs_61 (by decide) (fun c3 => ?_) (fun c3 => ?_)
      · have hi : i = No 1 := by
          have := (nI_leI (a := No 1) (b := i) (by omega) (by omega)).mp c3
          omega
        refine lv_aload_n hx hb dX3_addRowsAs_88 rfl (lv_at hl 1 rfl) ?_
        refine fg_X3_21 hx hb hts hown hK hM hL1.1 dX3_addRowsAs_89 ?_
        refine g_callVi (n9 := 0) (As := []) (rest := []) hx hb hml hl.1 hown hts hK hM (c_Jx4a65c_size_8abf5 l G _ (Y1.1 2) t _ _ _ ((hL1.2.1 2 (by decide)).1)) wm_X3_48 wi_Jx4a65c_size_8abf5 wl_Jx4a65c_size_8abf5 wn_Jx4a65c wc_Jx4a65c_size_8abf5 (by decide +kernel) (hM.recv hK (ci := 0) rfl ((hL1.2.1 2 (by decide)).1)) ⟨Nat.le_of_ble_eq_true rfl, Nat.le_of_ble_eq_true rfl⟩ ⟨by show _ ≤ mc; omega, by show _ ≤ ms; omega⟩ rfl (Nat.le_of_ble_eq_true rfl) rfl dX3_addRowsAs_92 (fun r_92 Mz H locs hq hM => ?_)
        have hq1 := hq.1.symm
        have hq2 := hq.2.symm
        subst hq1 hq2
        refine lv_istore_n (lv' := [(2, .int (nI (N1 2))), (0, .ref h0), (1, .ref h1)]) hx hb dX3_addRowsAs_95 rfl hl (by decide) rfl (fun ls hl => ?_)
        refine W.cst (cells' := 2 * ((No 0 - N 0) + (No 1 - N 1) + (N1 2 - N 2))) (slots' := 40 * ((No 0 - N 0) + (No 1 - N 1) + (N1 2 - N 2))) (by omega) (by omega) ?_
        exact L96 (No 2 + 1) (N1 2) (by omega) (by omega) (by omega) M1 _ _ _ Y1 N1 T1 hL1 hF1 ⟨by omega, by omega, by omega, by omega, by omega⟩ hM (lv_sub hl [0, 1, 2] rfl)
      · have hi : i < No 1 := by
          rcases Nat.lt_or_ge i (No 1) with z | z
          · exact z
          · exact absurd (nI_le z (by omega)) c3
        refine lv_aload_n hx hb dX3_addRowsAs_64 rfl (lv_at hl 1 rfl) ?_
        refine fg_X3_18 hx hb hts hown hK hM hL1.1 dX3_addRowsAs_65 ?_
        refine g_new (ci := 1) (fs := [.int 0, .int 0, .int 0, .int 0, .int 0, .int 0, .int 0, .int 0, .int 0, .int 0, .int 0, .int 0]) hx hb hts hown hK hM iaX0 rfl tyX0 tyX0_ok wk_X3_62 wb_X0 wn_X0 nfX0 t (by show _ ≤ mc; omega) (by show _ ≤ ms; omega) dX3_addRowsAs_68 (fun q H hq0 hM => ?_)
        refine lv_dup hx hb dX3_addRowsAs_71 rfl ?_
        refine lv_iconst (v := (0 : Int32)) hx hb dX3_addRowsAs_72 (by decide) ?_
        refine lv_iconst (v := (0 : Int32)) hx hb dX3_addRowsAs_73 (by decide) ?_
        refine lv_iconst (v := (0 : Int32)) hx hb dX3_addRowsAs_74 (by decide) ?_
        refine g_callIv (n9 := 3) (As := [.int (0 : Int32), .int (0 : Int32), .int (0 : Int32)]) (rest := [.ref q, .ref (Y1.1 1)]) hx hb hml hl.1 hown hts hK hM (cr_X0_init l G _ q t (fun _ => 0) (0 : Int32) (0 : Int32) (0 : Int32) hu_s) wm_X3_84 wi_X0_init wn_X0 rfl wc_X0_init (by decide +kernel) ⟨Nat.le_of_ble_eq_true rfl, Nat.le_of_ble_eq_true rfl⟩ ⟨by show _ ≤ mc; omega, by show _ ≤ ms; omega⟩ rfl (Nat.le_of_ble_eq_true rfl) rfl dX3_addRowsAs_75 (fun Mz H locs hq hM => ?_)
        subst hq
        obtain ⟨tk, etk⟩ : ∃ z, z = R_X0_init_0 (fun _ => 0) (0 : Int32) (0 : Int32) (0 : Int32) := ⟨_, rfl⟩
        rw [← etk] at hM
        replace hM := hM.eq (hu_u _ _ _ _ _ _)
        refine g_callVi (n9 := 1) (As := [.ref q]) (rest := []) hx hb hml hl.1 hown hts hK hM (c_add l G _ (Y1.1 1) t q t (N1 1) (Y1.2.2.1 1) (Y1.2.2.2.1 1) (eC 1 tk) (Y1.2.2.2.2.1 1) (Y1.2.1 1) (hL1.lsNew (k := 1) (by decide) hq0) hu_s (eC_okv G (by decide) tk) (by omega) (hL1.elNew (k := 1) (by decide) hq0)) wm_X3_80 wi_Jx4a65c_add_9ea2d wl_Jx4a65c_add_9ea2d wn_Jx4a65c wc_Jx4a65c_add_9ea2d (by decide +kernel) (hM.recv hK (ci := 0) rfl (hL1.lsNew (k := 1) (by decide) hq0).1) ⟨Nat.le_of_ble_eq_true rfl, Nat.le_of_ble_eq_true rfl⟩ ⟨by show _ ≤ mc; omega, by show _ ≤ ms; omega⟩ rfl (Nat.le_of_ble_eq_true rfl) rfl dX3_addRowsAs_78 (fun r_30 M2 H locs hq hM => ?_)
        obtain ⟨hq1, ar1, cap1, g1, b1, b2, b3, b4, b5, b6⟩ := hq
        have hL2 := hL1.add (k := 1) (by decide) hq0 rfl (by omega) b1 b2 b3 b4 b5 b6
        have hF2 : Fr t M M2 := Fr.tr hF1 (hL1.addFr (k := 1) (by decide) hq0 b6)
        refine W.cst (cells' := 2 * ((No 0 - N 0) + ((i + 1) - N 1))) (slots' := 40 * ((No 0 - N 0) + (i - N 1)) + 12 + (N1 1 + N1 1 / 2 + 10)) (by omega) (by omega) ?_
        refine lv_pop hx hb dX3_addRowsAs_81 rfl ?_
        refine lv_iinc (v := (nI (i + 1))) (lv' := [(2, .int (nI (i + 1))), (0, .ref h0), (1, .ref h1)]) hx hb dX3_addRowsAs_82 hl (k := 0) rfl (nI_1 i) (by decide) rfl (fun ls hl => ?_)
        refine lv_goto (tgt := 53) hx hb dX3_addRowsAs_85 (by decide) ?_
        refine W.widen (k := 2 * ((No 0 - N 0) + ((i + 1) - N 1))) (n := 40 * ((No 0 - N 0) + ((i + 1) - N 1))) (Nat.le_refl _) (by omega) ?_
        exact ih (i + 1) (by omega) (by omega) (by omega) M2 _ _ _ _ _ _ hL2 hF2 ⟨(nu_n (by decide)).trans e0, nu_s.trans (by omega), (nu_n (by decide)).trans e2, (nu_n (by decide)).trans e3, (nu_n (by decide)).trans e4⟩ hM (lv_sub hl [0, 1, 2] rfl)
  have L8 : ∀ (n i : Nat), N 0 ≤ i → i ≤ No 0 → No 0 - i < n → ∀ (M1 : HM) (H : Heap) (locs : List Loc) (ls : Array Slot) (Y1 : LY) (N1 : Nat → Nat) (T1 : Tb), LdR G M1 t h0 Y1 N1 T1 tr now price money → Fr t M M1 → (N1 0 = i ∧ N1 1 = N 1 ∧ N1 2 = N 2 ∧ N1 3 = N 3 ∧ N1 4 = N 4) → Wd G M1 s H locs → lv_has ls 3 [(2, .int (nI i)), (0, .ref h0), (1, .ref h1)] → W p l e ({ frames := 7, cells := mc, slots := ms, locals := 171 } : Room) s m [.ref h0, .ref h1].toArray below meth c H locs (2 * ((i - N 0))) (40 * ((i - N 0))) (MQ below (va_Qv (fun M' => ∃ Y' N' T', LdR G M' t h0 Y' N' T' tr now price money ∧ Fr t M M' ∧ N' 0 = No 0 ∧ N' 1 = No 1 ∧ N' 2 = No 2 ∧ N' 3 = No 3 ∧ N' 4 = N 4) (gB G) (gA G)) [.ref h0, .ref h1].toArray s mc ms (gA G)) (F0 m 8 ls []) := by
    intro n
    induction n with
    | zero => intro i h0 h1 h2; omega
    | succ n ih =>
      intro i hi0 hi1 hi2 M1 H locs ls Y1 N1 T1 hL1 hF1 hN1 hM hl
      obtain ⟨e0, e1, e2, e3, e4⟩ := hN1
      have hLo1 := hLo.frame hne hF1
      refine lv_iload_n hx hb dX3_addRowsAs_8 rfl (lv_at hl 0 rfl) ?_
      refine lv_aload_n hx hb dX3_addRowsAs_9 rfl (lv_at hl 2 rfl) ?_
      refine fg_X3_12 hx hb hts hown hK hM hLo1.1 dX3_addRowsAs_10 ?_
      refine g_callVi (n9 := 0) (As := []) (rest := [.int (nI i)]) hx hb hml hl.1 hown hts hK hM (c_Jx4a65c_size_8abf5 l G _ (Yo.1 0) t1 _ _ _ ((hLo1.2.1 0 (by decide)).1)) wm_X3_48 wi_Jx4a65c_size_8abf5 wl_Jx4a65c_size_8abf5 wn_Jx4a65c wc_Jx4a65c_size_8abf5 (by decide +kernel) (hM.recv hK (ci := 0) rfl ((hLo1.2.1 0 (by decide)).1)) ⟨Nat.le_of_ble_eq_true rfl, Nat.le_of_ble_eq_true rfl⟩ ⟨by show _ ≤ mc; omega, by show _ ≤ ms; omega⟩ rfl (Nat.le_of_ble_eq_true rfl) rfl dX3_addRowsAs_13 (fun r_13 Mz H locs hq hM => ?_)
      have hq1 := hq.1.symm
      have hq2 := hq.2.symm
      subst hq1 hq2
      refine lv_icmp_ge (tgt := 45) hx hb dX3_addRowsAs_16 (by decide) (fun c4 => ?_) (fun c4 => ?_)
      · have hi : i = No 0 := by
          have := (nI_leI (a := No 0) (b := i) (by omega) (by omega)).mp c4
          omega
        refine lv_aload_n hx hb dX3_addRowsAs_45 rfl (lv_at hl 1 rfl) ?_
        refine fg_X3_18 hx hb hts hown hK hM hL1.1 dX3_addRowsAs_46 ?_
        refine g_callVi (n9 := 0) (As := []) (rest := []) hx hb hml hl.1 hown hts hK hM (c_Jx4a65c_size_8abf5 l G _ (Y1.1 1) t _ _ _ ((hL1.2.1 1 (by decide)).1)) wm_X3_48 wi_Jx4a65c_size_8abf5 wl_Jx4a65c_size_8abf5 wn_Jx4a65c wc_Jx4a65c_size_8abf5 (by decide +kernel) (hM.recv hK (ci := 0) rfl ((hL1.2.1 1 (by decide)).1)) ⟨Nat.le_of_ble_eq_true rfl, Nat.le_of_ble_eq_true rfl⟩ ⟨by show _ ≤ mc; omega, by show _ ≤ ms; omega⟩ rfl (Nat.le_of_ble_eq_true rfl) rfl dX3_addRowsAs_49 (fun r_49 Mz H locs hq hM => ?_)
        have hq1 := hq.1.symm
        have hq2 := hq.2.symm
        subst hq1 hq2
        refine lv_istore_n (lv' := [(2, .int (nI (N1 1))), (0, .ref h0), (1, .ref h1)]) hx hb dX3_addRowsAs_52 rfl hl (by decide) rfl (fun ls hl => ?_)
        refine W.cst (cells' := 2 * ((No 0 - N 0) + (N1 1 - N 1))) (slots' := 40 * ((No 0 - N 0) + (N1 1 - N 1))) (by omega) (by omega) ?_
        exact L53 (No 1 + 1) (N1 1) (by omega) (by omega) (by omega) M1 _ _ _ Y1 N1 T1 hL1 hF1 ⟨by omega, by omega, by omega, by omega, by omega⟩ hM (lv_sub hl [0, 1, 2] rfl)
      · have hi : i < No 0 := by
          rcases Nat.lt_or_ge i (No 0) with z | z
          · exact z
          · exact absurd (nI_le z (by omega)) c4
        refine lv_aload_n hx hb dX3_addRowsAs_19 rfl (lv_at hl 1 rfl) ?_
        refine fg_X3_12 hx hb hts hown hK hM hL1.1 dX3_addRowsAs_20 ?_
        refine g_new (ci := 3) (fs := [.int 0, .int 0, .int 0, .int 0, .int 0, .int 0, .int 0, .int 0, .int 0, .int 0, .int 0, .int 0, .int 0]) hx hb hts hown hK hM iaX2 rfl tyX2 tyX2_ok wk_X3_56 wb_X2 wn_X2 nfX2 t (by show _ ≤ mc; omega) (by show _ ≤ ms; omega) dX3_addRowsAs_23 (fun q H hq0 hM => ?_)
        refine lv_dup hx hb dX3_addRowsAs_26 rfl ?_
        refine lv_iconst (v := (0 : Int32)) hx hb dX3_addRowsAs_27 (by decide) ?_
        refine lv_iconst (v := (0 : Int32)) hx hb dX3_addRowsAs_28 (by decide) ?_
        refine lv_iconst (v := (0 : Int32)) hx hb dX3_addRowsAs_29 (by decide) ?_
        refine lv_iconst (v := (0 : Int32)) hx hb dX3_addRowsAs_30 (by decide) ?_
        refine lv_iconst (v := (0 : Int32)) hx hb dX3_addRowsAs_31 (by decide) ?_
        refine g_callIv (n9 := 5) (As := [.int (0 : Int32), .int (0 : Int32), .int (0 : Int32), .int (0 : Int32), .int (0 : Int32)]) (rest := [.ref q, .ref (Y1.1 0)]) hx hb hml hl.1 hown hts hK hM (cr_X2_init l G _ q t (fun _ => 0) (0 : Int32) (0 : Int32) (0 : Int32) (0 : Int32) (0 : Int32) hu_s) wm_X3_77 wi_X2_init wn_X2 rfl wc_X2_init (by decide +kernel) ⟨Nat.le_of_ble_eq_true rfl, Nat.le_of_ble_eq_true rfl⟩ ⟨by show _ ≤ mc; omega, by show _ ≤ ms; omega⟩ rfl (Nat.le_of_ble_eq_true rfl) rfl dX3_addRowsAs_32 (fun Mz H locs hq hM => ?_)
        subst hq
        obtain ⟨tk, etk⟩ : ∃ z, z = R_X2_init_0 (fun _ => 0) (0 : Int32) (0 : Int32) (0 : Int32) (0 : Int32) (0 : Int32) := ⟨_, rfl⟩
        rw [← etk] at hM
        replace hM := hM.eq (hu_u _ _ _ _ _ _)
        refine g_callVi (n9 := 1) (As := [.ref q]) (rest := []) hx hb hml hl.1 hown hts hK hM (c_add l G _ (Y1.1 0) t q t (N1 0) (Y1.2.2.1 0) (Y1.2.2.2.1 0) (eC 0 tk) (Y1.2.2.2.2.1 0) (Y1.2.1 0) (hL1.lsNew (k := 0) (by decide) hq0) hu_s (eC_okv G (by decide) tk) (by omega) (hL1.elNew (k := 0) (by decide) hq0)) wm_X3_80 wi_Jx4a65c_add_9ea2d wl_Jx4a65c_add_9ea2d wn_Jx4a65c wc_Jx4a65c_add_9ea2d (by decide +kernel) (hM.recv hK (ci := 0) rfl (hL1.lsNew (k := 0) (by decide) hq0).1) ⟨Nat.le_of_ble_eq_true rfl, Nat.le_of_ble_eq_true rfl⟩ ⟨by show _ ≤ mc; omega, by show _ ≤ ms; omega⟩ rfl (Nat.le_of_ble_eq_true rfl) rfl dX3_addRowsAs_35 (fun r_30 M2 H locs hq hM => ?_)
        obtain ⟨hq1, ar1, cap1, g1, b1, b2, b3, b4, b5, b6⟩ := hq
        have hL2 := hL1.add (k := 0) (by decide) hq0 rfl (by omega) b1 b2 b3 b4 b5 b6
        have hF2 : Fr t M M2 := Fr.tr hF1 (hL1.addFr (k := 0) (by decide) hq0 b6)
        refine W.cst (cells' := 2 * (((i + 1) - N 0))) (slots' := 40 * ((i - N 0)) + 13 + (N1 0 + N1 0 / 2 + 10)) (by omega) (by omega) ?_
        refine lv_pop hx hb dX3_addRowsAs_38 rfl ?_
        refine lv_iinc (v := (nI (i + 1))) (lv' := [(2, .int (nI (i + 1))), (0, .ref h0), (1, .ref h1)]) hx hb dX3_addRowsAs_39 hl (k := 0) rfl (nI_1 i) (by decide) rfl (fun ls hl => ?_)
        refine lv_goto (tgt := 8) hx hb dX3_addRowsAs_42 (by decide) ?_
        refine W.widen (k := 2 * (((i + 1) - N 0))) (n := 40 * (((i + 1) - N 0))) (Nat.le_refl _) (by omega) ?_
        exact ih (i + 1) (by omega) (by omega) (by omega) M2 _ _ _ _ _ _ hL2 hF2 ⟨nu_s.trans (by omega), (nu_n (by decide)).trans e1, (nu_n (by decide)).trans e2, (nu_n (by decide)).trans e3, (nu_n (by decide)).trans e4⟩ hM (lv_sub hl [0, 1, 2] rfl)
  refine lv_aload_n hx hb dX3_addRowsAs_0 rfl (lv_at hl 0 rfl) ?_
  refine fg_X3_12 hx hb hts hown hK hM hL.1 dX3_addRowsAs_1 ?_
  refine g_callVi (n9 := 0) (As := []) (rest := []) hx hb hml hl.1 hown hts hK hM (c_Jx4a65c_size_8abf5 l G _ (Y.1 0) t _ _ _ ((hL.2.1 0 (by decide)).1)) wm_X3_48 wi_Jx4a65c_size_8abf5 wl_Jx4a65c_size_8abf5 wn_Jx4a65c wc_Jx4a65c_size_8abf5 (by decide +kernel) (hM.recv hK (ci := 0) rfl ((hL.2.1 0 (by decide)).1)) ⟨Nat.le_of_ble_eq_true rfl, Nat.le_of_ble_eq_true rfl⟩ ⟨by show _ ≤ mc; omega, by show _ ≤ ms; omega⟩ rfl (Nat.le_of_ble_eq_true rfl) rfl dX3_addRowsAs_4 (fun r_4 Mz H locs hq hM => ?_)
  have hq1 := hq.1.symm
  have hq2 := hq.2.symm
  subst hq1 hq2
  refine lv_istore_n (lv' := [(2, .int (nI (N 0))), (0, .ref h0), (1, .ref h1)]) hx hb dX3_addRowsAs_7 rfl hl (by decide) rfl (fun ls hl => ?_)
  refine W.cst (cells' := 2 * ((N 0 - N 0))) (slots' := 40 * ((N 0 - N 0))) (by omega) (by omega) ?_
  exact L8 (No 0 + 1) (N 0) (by omega) (by omega) (by omega) M _ _ _ Y N T hL Fr.rf ⟨rfl, rfl, rfl, rfl, rfl⟩ hM (lv_sub hl [0, 1, 2] rfl)
set_option maxHeartbeats 8000000 in
set_option maxRecDepth 100000 in
theorem c_X3_copyFrom (l : Launch) (G : GG) (M : HM) (t h0 : Nat) (Y : LY) (N : Nat → Nat) (T : Tb) (tr now price money : Int32) (t1 h1 : Nat) (Yo : LY) (No : Nat → Nat) (To : Tb) (tr1 now1 price1 money1 : Int32) (hL : LdR G M t h0 Y N T tr now price money) (hLo : LdR G M t1 h1 Yo No To tr1 now1 price1 money1) (hne : t1 ≠ t) (k0 : N 0 ≤ No 0 ∧ No 0 ≤ 8) (k1 : N 1 ≤ No 1 ∧ No 1 ≤ 8) (k2 : N 2 ≤ No 2 ∧ No 2 ≤ 8) (k3 : N 3 ≤ No 3 ∧ No 3 ≤ 8) (h4 : N 4 = 0) (hB : ∀ i, i < No 1 → To 1 i 7 = 0 ∨ To 1 i 7 = 1) : Mv l yX3_copyFrom (.code yX3_copyFrom cX3_copyFrom 3 none :: AL) 8 193 (2 * (No 0 + No 1 + No 2 + No 3 - (N 0 + N 1 + N 2 + N 3))) (40 * (No 0 + No 1 + No 2 + No 3 - (N 0 + N 1 + N 2 + N 3))) [.ref h0, .ref h1] G M (fun M' => ∃ Y', LdR G M' t h0 Y' (nu No 4 0) To tr now1 price1 money1 ∧ Fr t M M') := by
  refine Mv.go (by decide) (Nat.le_of_ble_eq_true rfl) ?_
  intro p e s m below meth c ls hx hb hr hml hown hlocks hname hts hK hM hl
  have hown : s.vm.findClass RX3 = some m.cls := hown
  have hl : lv_has ls 3 [(0, .ref h0), (1, .ref h1)] := hl
  obtain ⟨mc, emc⟩ : ∃ z, z = (2 * (No 0 + No 1 + No 2 + No 3 - (N 0 + N 1 + N 2 + N 3))) := ⟨_, rfl⟩
  obtain ⟨ms, ems⟩ : ∃ z, z = (40 * (No 0 + No 1 + No 2 + No 3 - (N 0 + N 1 + N 2 + N 3))) := ⟨_, rfl⟩
  rw [← emc, ← ems]
  have L196 : ∀ (n i : Nat), i ≤ No 3 → No 3 - i < n → ∀ (M1 : HM) (H : Heap) (locs : List Loc) (ls : Array Slot) (Y1 : LY) (N1 : Nat → Nat) (T1 : Tb), LdR G M1 t h0 Y1 N1 T1 tr now1 price1 money1 → Fr t M M1 → (N1 0 = No 0 ∧ N1 1 = No 1 ∧ N1 2 = No 2 ∧ N1 3 = No 3 ∧ N1 4 = N 4) → (∀ j x, j < 3 → x < No j → T1 j x = To j x) → (∀ x, x < i → T1 3 x = To 3 x) → Wd G M1 s H locs → lv_has ls 3 [(2, .int (nI i)), (0, .ref h0), (1, .ref h1)] → W p l e ({ frames := 8, cells := mc, slots := ms, locals := 193 } : Room) s m [.ref h0, .ref h1].toArray below meth c H locs mc ms (MQ below (va_Qv (fun M' => ∃ Y', LdR G M' t h0 Y' (nu No 4 0) To tr now1 price1 money1 ∧ Fr t M M') (gB G) (gA G)) [.ref h0, .ref h1].toArray s mc ms (gA G)) (F0 m 196 ls []) := by
    intro n
    induction n with
    | zero => intro i h1 h2; omega
    | succ n ih =>
      intro i hi1 hi2 M1 H locs ls Y1 N1 T1 hL1 hF1 hN1 hT1 hT2 hM hl
      have hN1a := hN1
      obtain ⟨e0, e1, e2, e3, e4⟩ := hN1a
      have hLo1 := hLo.frame hne hF1
      refine lv_iload_n hx hb dX3_copyFrom_196 rfl (lv_at hl 0 rfl) ?_
      refine lv_aload_n hx hb dX3_copyFrom_197 rfl (lv_at hl 2 rfl) ?_
      refine fg_X3_24 hx hb hts hown hK hM hLo1.1 dX3_copyFrom_198 ?_
      refine g_callVi (n9 := 0) (As := []) (rest := [.int (nI i)]) hx hb hml hl.1 hown hts hK hM (c_Jx4a65c_size_8abf5 l G _ (Yo.1 3) t1 _ _ _ ((hLo1.2.1 3 (by decide)).1)) wm_X3_48 wi_Jx4a65c_size_8abf5 wl_Jx4a65c_size_8abf5 wn_Jx4a65c wc_Jx4a65c_size_8abf5 (by decide +kernel) (hM.recv hK (ci := 0) rfl ((hLo1.2.1 3 (by decide)).1)) ⟨Nat.le_of_ble_eq_true rfl, Nat.le_of_ble_eq_true rfl⟩ ⟨Nat.le_refl _, Nat.le_refl _⟩ rfl (Nat.le_of_ble_eq_true rfl) rfl dX3_copyFrom_201 (fun r_201 Mz H locs hq hM => ?_)
      have hq1 := hq.1.symm
      have hq2 := hq.2.symm
      subst hq1 hq2
      refine lv_icmp_ge (tgt := 249) hx hb dX3_copyFrom_204 (by decide) (fun c1 => ?_) (fun c1 => ?_)
      · have hi : i = No 3 := by
          have := (nI_leI (a := No 3) (b := i) (by omega) (by omega)).mp c1
          omega
        refine g_vret hx hb hr hlocks hM (by omega) (by omega) ⟨Y1, hL1.congr (fun j hj => ?_) (fun j => ?_) (fun j x hj hx => ?_), hF1⟩ dX3_copyFrom_249
        · match j, hj with
          | 0, _ => exact e0
          | 1, _ => exact e1
          | 2, _ => exact e2
          | 3, _ => exact e3
          | 4, _ => exact e4.trans h4
        · unfold nu
          split
          · exact Nat.zero_le _
          · exact hLo.2.2.2.2.2.2.1 j
        · match j, hj with
          | 0, _ => exact hT1 0 x (by decide) (by omega)
          | 1, _ => exact hT1 1 x (by decide) (by omega)
          | 2, _ => exact hT1 2 x (by decide) (by omega)
          | 3, _ => exact hT2 x (by omega)
          | 4, _ => omega
      · have hi : i < No 3 := by
          rcases Nat.lt_or_ge i (No 3) with z | z
          · exact z
          · exact absurd (nI_le z (by omega)) c1
        have hiA : i < N1 3 := by omega
        refine lv_iload_n hx hb dX3_copyFrom_207 rfl (lv_at hl 0 rfl) ?_
        refine lv_aload_n hx hb dX3_copyFrom_208 rfl (lv_at hl 1 rfl) ?_
        refine fg_X3_24 hx hb hts hown hK hM hL1.1 dX3_copyFrom_209 ?_
        refine g_callVi (n9 := 0) (As := []) (rest := [.int (nI i)]) hx hb hml hl.1 hown hts hK hM (c_Jx4a65c_size_8abf5 l G _ (Y1.1 3) t _ _ _ ((hL1.2.1 3 (by decide)).1)) wm_X3_48 wi_Jx4a65c_size_8abf5 wl_Jx4a65c_size_8abf5 wn_Jx4a65c wc_Jx4a65c_size_8abf5 (by decide +kernel) (hM.recv hK (ci := 0) rfl ((hL1.2.1 3 (by decide)).1)) ⟨Nat.le_of_ble_eq_true rfl, Nat.le_of_ble_eq_true rfl⟩ ⟨Nat.le_refl _, Nat.le_refl _⟩ rfl (Nat.le_of_ble_eq_true rfl) rfl dX3_copyFrom_212 (fun r_212 Mz H locs hq hM => ?_)
        have hq1 := hq.1.symm
        have hq2 := hq.2.symm
        subst hq1 hq2
        refine lv_icmp_ge (tgt := 249) hx hb dX3_copyFrom_215 (by decide) (fun c2 => ?_) (fun c2 => ?_)
        · exact absurd ((nI_leI (a := N1 3) (b := i) (by omega) (by omega)).mp c2) (by omega)
        · refine lv_aload_n hx hb dX3_copyFrom_218 rfl (lv_at hl 1 rfl) ?_
          refine fg_X3_24 hx hb hts hown hK hM hL1.1 dX3_copyFrom_219 ?_
          refine lv_iload_n hx hb dX3_copyFrom_222 rfl (lv_at hl 0 rfl) ?_
          refine g_callVq (n9 := 1) (As := [.int (nI i)]) (rest := []) hx hb hml hl.1 hown hts hK hM (c_getL l G _ t (Y1.1 3) (N1 3) _ _ i _ _ (hL1.2.1 3 (by decide)) hiA) wm_X3_52 wi_Jx4a65c_get_915e3 wl_Jx4a65c_get_915e3 wn_Jx4a65c wc_Jx4a65c_get_915e3 (by decide +kernel) (hM.recv hK (ci := 0) rfl ((hL1.2.1 3 (by decide)).1)) ⟨Nat.le_of_ble_eq_true rfl, Nat.le_of_ble_eq_true rfl⟩ ⟨Nat.le_refl _, Nat.le_refl _⟩ rfl (Nat.le_of_ble_eq_true rfl) rfl dX3_copyFrom_223 (fun r_223 Mz H locs hq hM => ?_)
          have hq1 := (hq.1.trans (hL1.at_g (k := 3) (i := i) (by decide) hiA)).symm
          have hq2 := hq.2.symm
          subst hq1 hq2
          refine va_castS (nm := RX1) hx hb hown (hts _ wk_X3_72) (hK.1.1 2 _ rfl).2 (hM.recv hK (ci := 2) rfl (hL1.row (k := 3) (i := i) (by decide) hiA)) dX3_copyFrom_226 ?_
          refine lv_aload_n hx hb dX3_copyFrom_229 rfl (lv_at hl 2 rfl) ?_
          refine fg_X3_24 hx hb hts hown hK hM hLo1.1 dX3_copyFrom_230 ?_
          refine lv_iload_n hx hb dX3_copyFrom_233 rfl (lv_at hl 0 rfl) ?_
          refine g_callVq (n9 := 1) (As := [.int (nI i)]) (rest := [.ref (Y1.2.2.2.2.2 3 i)]) hx hb hml hl.1 hown hts hK hM (c_getL l G _ t1 (Yo.1 3) (No 3) _ _ i _ _ (hLo1.2.1 3 (by decide)) hi) wm_X3_52 wi_Jx4a65c_get_915e3 wl_Jx4a65c_get_915e3 wn_Jx4a65c wc_Jx4a65c_get_915e3 (by decide +kernel) (hM.recv hK (ci := 0) rfl ((hLo1.2.1 3 (by decide)).1)) ⟨Nat.le_of_ble_eq_true rfl, Nat.le_of_ble_eq_true rfl⟩ ⟨Nat.le_refl _, Nat.le_refl _⟩ rfl (Nat.le_of_ble_eq_true rfl) rfl dX3_copyFrom_234 (fun r_234 Mz H locs hq hM => ?_)
          have hq1 := (hq.1.trans (hLo1.at_g (k := 3) (i := i) (by decide) hi)).symm
          have hq2 := hq.2.symm
          subst hq1 hq2
          refine va_castS (nm := RX1) hx hb hown (hts _ wk_X3_72) (hK.1.1 2 _ rfl).2 (hM.recv hK (ci := 2) rfl (hLo1.row (k := 3) (i := i) (by decide) hi)) dX3_copyFrom_237 ?_
          have nab : (Y1.2.2.2.2.2 3 i) ≠ (Yo.2.2.2.2.2 3 i) := hu_ne (hL1.row (k := 3) (by decide) hiA) (hLo1.row (k := 3) (by decide) hi) (fun z => hne (by injection z with z; injection z with z1 z2; exact z1.symm))
          refine g_callVv (n9 := 1) (As := [.ref (Yo.2.2.2.2.2 3 i)]) (rest := []) hx hb hml hl.1 hown hts hK hM (cr_X1_copyFrom l G _ (Y1.2.2.2.2.2 3 i) t (Yo.2.2.2.2.2 3 i) t1 (T1 3 i) (To 3 i) (hL1.row (k := 3) (by decide) hiA) (hLo1.row (k := 3) (by decide) hi) nab) wm_X3_74 wi_X1_copyFrom wl_X1_copyFrom wn_X1 wc_X1_copyFrom (by decide +kernel) (hM.recv hK (ci := 2) rfl (hL1.row (k := 3) (by decide) hiA)) ⟨Nat.le_of_ble_eq_true rfl, Nat.le_of_ble_eq_true rfl⟩ ⟨Nat.le_refl _, Nat.le_refl _⟩ rfl (Nat.le_of_ble_eq_true rfl) rfl dX3_copyFrom_240 (fun Mz H locs hq hM => ?_)
          subst hq
          replace hM := hM.eq (show _ = hu M1 (Y1.2.2.2.2.2 3 i) t (eC 3 (To 3 i)) from rfl)
          refine lv_iinc (v := (nI (i + 1))) (lv' := [(2, .int (nI (i + 1))), (0, .ref h0), (1, .ref h1)]) hx hb dX3_copyFrom_243 hl (k := 0) rfl (nI_1 i) (by decide) rfl (fun ls hl => ?_)
          refine lv_goto (tgt := 196) hx hb dX3_copyFrom_246 (by decide) ?_
          refine ih (i + 1) (by omega) (by omega) _ _ _ _ Y1 N1 _ (hL1.setRow (k := 3) (by decide) hiA (To 3 i)) (Fr.tr hF1 (Fr.up (hL1.row (k := 3) (by decide) hiA))) hN1 (fun j x hj hx => ?_) (fun x hx => ?_) hM (lv_sub hl [0, 1, 2] rfl)
          · rw [tu_k (by omega)]
            exact hT1 j x hj hx
          · by_cases hxi : x = i
            · rw [hxi, tu_s]
            · rw [tu_i hxi]
              exact hT2 x (by omega)
  have L141 : ∀ (n i : Nat), i ≤ No 2 → No 2 - i < n → ∀ (M1 : HM) (H : Heap) (locs : List Loc) (ls : Array Slot) (Y1 : LY) (N1 : Nat → Nat) (T1 : Tb), LdR G M1 t h0 Y1 N1 T1 tr now1 price1 money1 → Fr t M M1 → (N1 0 = No 0 ∧ N1 1 = No 1 ∧ N1 2 = No 2 ∧ N1 3 = No 3 ∧ N1 4 = N 4) → (∀ j x, j < 2 → x < No j → T1 j x = To j x) → (∀ x, x < i → T1 2 x = To 2 x) → Wd G M1 s H locs → lv_has ls 3 [(2, .int (nI i)), (0, .ref h0), (1, .ref h1)] → W p l e ({ frames := 8, cells := mc, slots := ms, locals := 193 } : Room) s m [.ref h0, .ref h1].toArray below meth c H locs mc ms (MQ below (va_Qv (fun M' => ∃ Y', LdR G M' t h0 Y' (nu No 4 0) To tr now1 price1 money1 ∧ Fr t M M') (gB G) (gA G)) [.ref h0, .ref h1].toArray s mc ms (gA G)) (F0 m 141 ls []) := by
    intro n
    induction n with
    | zero => intro i h1 h2; omega
    | succ n ih =>
      intro i hi1 hi2 M1 H locs ls Y1 N1 T1 hL1 hF1 hN1 hT1 hT2 hM hl
      have hN1a := hN1
      obtain ⟨e0, e1, e2, e3, e4⟩ := hN1a
      have hLo1 := hLo.frame hne hF1
      refine lv_iload_n hx hb dX3_copyFrom_141 rfl (lv_at hl 0 rfl) ?_
      refine lv_aload_n hx hb dX3_copyFrom_142 rfl (lv_at hl 2 rfl) ?_
      refine fg_X3_21 hx hb hts hown hK hM hLo1.1 dX3_copyFrom_143 ?_
      refine g_callVi (n9 := 0) (As := []) (rest := [.int (nI i)]) hx hb hml hl.1 hown hts hK hM (c_Jx4a65c_size_8abf5 l G _ (Yo.1 2) t1 _ _ _ ((hLo1.2.1 2 (by decide)).1)) wm_X3_48 wi_Jx4a65c_size_8abf5 wl_Jx4a65c_size_8abf5 wn_Jx4a65c wc_Jx4a65c_size_8abf5 (by decide +kernel) (hM.recv hK (ci := 0) rfl ((hLo1.2.1 2 (by decide)).1)) ⟨Nat.le_of_ble_eq_true rfl, Nat.le_of_ble_eq_true rfl⟩ ⟨Nat.le_refl _, Nat.le_refl _⟩ rfl (Nat.le_of_ble_eq_true rfl) rfl dX3_copyFrom_146 (fun r_146 Mz H locs hq hM => ?_)
      have hq1 := hq.1.symm
      have hq2 := hq.2.symm
      subst hq1 hq2
      refine lv_icmp_ge (tgt := 194) hx hb dX3_copyFrom_149 (by decide) (fun c3 => ?_) (fun c3 => ?_)
      · have hi : i = No 2 := by
          have := (nI_leI (a := No 2) (b := i) (by omega) (by omega)).mp c3
          omega
        refine lv_iconst (v := (0 : Int32)) hx hb dX3_copyFrom_194 (by decide) ?_
        refine lv_istore_n (lv' := [(2, .int (0 : Int32)), (0, .ref h0), (1, .ref h1)]) hx hb dX3_copyFrom_195 rfl hl (by decide) rfl (fun ls hl => ?_)
        refine L196 (No 3 + 1) 0 (Nat.zero_le _) (by omega) M1 _ _ _ Y1 N1 T1 hL1 hF1 hN1 (fun j x hj hx => ?_) (fun x hx => absurd hx (Nat.not_lt_zero _)) hM (lv_sub hl [0, 1, 2] rfl)
        rcases Nat.lt_or_ge j 2 with hj2 | hj2
        · exact hT1 j x hj2 hx
        · have hj3 : j = 2 := by omega
          rw [hj3] at hx ⊢
          exact hT2 x (by omega)
      · have hi : i < No 2 := by
          rcases Nat.lt_or_ge i (No 2) with z | z
          · exact z
          · exact absurd (nI_le z (by omega)) c3
        have hiA : i < N1 2 := by omega
        refine lv_iload_n hx hb dX3_copyFrom_152 rfl (lv_at hl 0 rfl) ?_
        refine lv_aload_n hx hb dX3_copyFrom_153 rfl (lv_at hl 1 rfl) ?_
        refine fg_X3_21 hx hb hts hown hK hM hL1.1 dX3_copyFrom_154 ?_
        refine g_callVi (n9 := 0) (As := []) (rest := [.int (nI i)]) hx hb hml hl.1 hown hts hK hM (c_Jx4a65c_size_8abf5 l G _ (Y1.1 2) t _ _ _ ((hL1.2.1 2 (by decide)).1)) wm_X3_48 wi_Jx4a65c_size_8abf5 wl_Jx4a65c_size_8abf5 wn_Jx4a65c wc_Jx4a65c_size_8abf5 (by decide +kernel) (hM.recv hK (ci := 0) rfl ((hL1.2.1 2 (by decide)).1)) ⟨Nat.le_of_ble_eq_true rfl, Nat.le_of_ble_eq_true rfl⟩ ⟨Nat.le_refl _, Nat.le_refl _⟩ rfl (Nat.le_of_ble_eq_true rfl) rfl dX3_copyFrom_157 (fun r_157 Mz H locs hq hM => ?_)
        have hq1 := hq.1.symm
        have hq2 := hq.2.symm
        subst hq1 hq2
        refine lv_icmp_ge (tgt := 194) hx hb dX3_copyFrom_160 (by decide) (fun c4 => ?_) (fun c4 => ?_)
        · exact absurd ((nI_leI (a := N1 2) (b := i) (by omega) (by omega)).mp c4) (by omega)
        · refine lv_aload_n hx hb dX3_copyFrom_163 rfl (lv_at hl 1 rfl) ?_
          refine fg_X3_21 hx hb hts hown hK hM hL1.1 dX3_copyFrom_164 ?_
          refine lv_iload_n hx hb dX3_copyFrom_167 rfl (lv_at hl 0 rfl) ?_
          refine g_callVq (n9 := 1) (As := [.int (nI i)]) (rest := []) hx hb hml hl.1 hown hts hK hM (c_getL l G _ t (Y1.1 2) (N1 2) _ _ i _ _ (hL1.2.1 2 (by decide)) hiA) wm_X3_52 wi_Jx4a65c_get_915e3 wl_Jx4a65c_get_915e3 wn_Jx4a65c wc_Jx4a65c_get_915e3 (by decide +kernel) (hM.recv hK (ci := 0) rfl ((hL1.2.1 2 (by decide)).1)) ⟨Nat.le_of_ble_eq_true rfl, Nat.le_of_ble_eq_true rfl⟩ ⟨Nat.le_refl _, Nat.le_refl _⟩ rfl (Nat.le_of_ble_eq_true rfl) rfl dX3_copyFrom_168 (fun r_168 Mz H locs hq hM => ?_)
          have hq1 := (hq.1.trans (hL1.at_g (k := 2) (i := i) (by decide) hiA)).symm
          have hq2 := hq.2.symm
          subst hq1 hq2
          refine va_castS (nm := RX5) hx hb hown (hts _ wk_X3_67) (hK.1.1 6 _ rfl).2 (hM.recv hK (ci := 6) rfl (hL1.row (k := 2) (i := i) (by decide) hiA)) dX3_copyFrom_171 ?_
          refine lv_aload_n hx hb dX3_copyFrom_174 rfl (lv_at hl 2 rfl) ?_
          refine fg_X3_21 hx hb hts hown hK hM hLo1.1 dX3_copyFrom_175 ?_
          refine lv_iload_n hx hb dX3_copyFrom_178 rfl (lv_at hl 0 rfl) ?_
          refine g_callVq (n9 := 1) (As := [.int (nI i)]) (rest := [.ref (Y1.2.2.2.2.2 2 i)]) hx hb hml hl.1 hown hts hK hM (c_getL l G _ t1 (Yo.1 2) (No 2) _ _ i _ _ (hLo1.2.1 2 (by decide)) hi) wm_X3_52 wi_Jx4a65c_get_915e3 wl_Jx4a65c_get_915e3 wn_Jx4a65c wc_Jx4a65c_get_915e3 (by decide +kernel) (hM.recv hK (ci := 0) rfl ((hLo1.2.1 2 (by decide)).1)) ⟨Nat.le_of_ble_eq_true rfl, Nat.le_of_ble_eq_true rfl⟩ ⟨Nat.le_refl _, Nat.le_refl _⟩ rfl (Nat.le_of_ble_eq_true rfl) rfl dX3_copyFrom_179 (fun r_179 Mz H locs hq hM => ?_)
          have hq1 := (hq.1.trans (hLo1.at_g (k := 2) (i := i) (by decide) hi)).symm
          have hq2 := hq.2.symm
          subst hq1 hq2
          refine va_castS (nm := RX5) hx hb hown (hts _ wk_X3_67) (hK.1.1 6 _ rfl).2 (hM.recv hK (ci := 6) rfl (hLo1.row (k := 2) (i := i) (by decide) hi)) dX3_copyFrom_182 ?_
          have nab : (Y1.2.2.2.2.2 2 i) ≠ (Yo.2.2.2.2.2 2 i) := hu_ne (hL1.row (k := 2) (by decide) hiA) (hLo1.row (k := 2) (by decide) hi) (fun z => hne (by injection z with z; injection z with z1 z2; exact z1.symm))
          refine g_callVv (n9 := 1) (As := [.ref (Yo.2.2.2.2.2 2 i)]) (rest := []) hx hb hml hl.1 hown hts hK hM (cr_X5_copyFrom l G _ (Y1.2.2.2.2.2 2 i) t (Yo.2.2.2.2.2 2 i) t1 (T1 2 i) (To 2 i) (hL1.row (k := 2) (by decide) hiA) (hLo1.row (k := 2) (by decide) hi) nab) wm_X3_69 wi_X5_copyFrom wl_X5_copyFrom wn_X5 wc_X5_copyFrom (by decide +kernel) (hM.recv hK (ci := 6) rfl (hL1.row (k := 2) (by decide) hiA)) ⟨Nat.le_of_ble_eq_true rfl, Nat.le_of_ble_eq_true rfl⟩ ⟨Nat.le_refl _, Nat.le_refl _⟩ rfl (Nat.le_of_ble_eq_true rfl) rfl dX3_copyFrom_185 (fun Mz H locs hq hM => ?_)
          subst hq
          replace hM := hM.eq (show _ = hu M1 (Y1.2.2.2.2.2 2 i) t (eC 2 (To 2 i)) from rfl)
          refine lv_iinc (v := (nI (i + 1))) (lv' := [(2, .int (nI (i + 1))), (0, .ref h0), (1, .ref h1)]) hx hb dX3_copyFrom_188 hl (k := 0) rfl (nI_1 i) (by decide) rfl (fun ls hl => ?_)
          refine lv_goto (tgt := 141) hx hb dX3_copyFrom_191 (by decide) ?_
          refine ih (i + 1) (by omega) (by omega) _ _ _ _ Y1 N1 _ (hL1.setRow (k := 2) (by decide) hiA (To 2 i)) (Fr.tr hF1 (Fr.up (hL1.row (k := 2) (by decide) hiA))) hN1 (fun j x hj hx => ?_) (fun x hx => ?_) hM (lv_sub hl [0, 1, 2] rfl)
          · rw [tu_k (by omega)]
            exact hT1 j x hj hx
          · by_cases hxi : x = i
            · rw [hxi, tu_s]
            · rw [tu_i hxi]
              exact hT2 x (by omega)
  have L86 : ∀ (n i : Nat), i ≤ No 1 → No 1 - i < n → ∀ (M1 : HM) (H : Heap) (locs : List Loc) (ls : Array Slot) (Y1 : LY) (N1 : Nat → Nat) (T1 : Tb), LdR G M1 t h0 Y1 N1 T1 tr now1 price1 money1 → Fr t M M1 → (N1 0 = No 0 ∧ N1 1 = No 1 ∧ N1 2 = No 2 ∧ N1 3 = No 3 ∧ N1 4 = N 4) → (∀ j x, j < 1 → x < No j → T1 j x = To j x) → (∀ x, x < i → T1 1 x = To 1 x) → Wd G M1 s H locs → lv_has ls 3 [(2, .int (nI i)), (0, .ref h0), (1, .ref h1)] → W p l e ({ frames := 8, cells := mc, slots := ms, locals := 193 } : Room) s m [.ref h0, .ref h1].toArray below meth c H locs mc ms (MQ below (va_Qv (fun M' => ∃ Y', LdR G M' t h0 Y' (nu No 4 0) To tr now1 price1 money1 ∧ Fr t M M') (gB G) (gA G)) [.ref h0, .ref h1].toArray s mc ms (gA G)) (F0 m 86 ls []) := by
    intro n
    induction n with
    | zero => intro i h1 h2; omega
    | succ n ih =>
      intro i hi1 hi2 M1 H locs ls Y1 N1 T1 hL1 hF1 hN1 hT1 hT2 hM hl
      have hN1a := hN1
      obtain ⟨e0, e1, e2, e3, e4⟩ := hN1a
      have hLo1 := hLo.frame hne hF1
      refine lv_iload_n hx hb dX3_copyFrom_86 rfl (lv_at hl 0 rfl) ?_
      refine lv_aload_n hx hb dX3_copyFrom_87 rfl (lv_at hl 2 rfl) ?_
      refine fg_X3_18 hx hb hts hown hK hM hLo1.1 dX3_copyFrom_88 ?_
      refine g_callVi (n9 := 0) (As := []) (rest := [.int (nI i)]) hx hb hml hl.1 hown hts hK hM (c_Jx4a65c_size_8abf5 l G _ (Yo.1 1) t1 _ _ _ ((hLo1.2.1 1 (by decide)).1)) wm_X3_48 wi_Jx4a65c_size_8abf5 wl_Jx4a65c_size_8abf5 wn_Jx4a65c wc_Jx4a65c_size_8abf5 (by decide +kernel) (hM.recv hK (ci := 0) rfl ((hLo1.2.1 1 (by decide)).1)) ⟨Nat.le_of_ble_eq_true rfl, Nat.le_of_ble_eq_true rfl⟩ ⟨Nat.le_refl _, Nat.le_refl _⟩ rfl (Nat.le_of_ble_eq_true rfl) rfl dX3_copyFrom_91 (fun r_91 Mz H locs hq hM => ?_)
      have hq1 := hq.1.symm
      have hq2 := hq.2.symm
      subst hq1 hq2
      refine lv_icmp_ge (tgt := 139) hx hb dX3_copyFrom_94 (by decide) (fun c5 => ?_) (fun c5 => ?_)
      · have hi : i = No 1 := by
          have := (nI_leI (a := No 1) (b := i) (by omega) (by omega)).mp c5
          omega
        refine lv_iconst (v := (0 : Int32)) hx hb dX3_copyFrom_139 (by decide) ?_
        refine lv_istore_n (lv' := [(2, .int (0 : Int32)), (0, .ref h0), (1, .ref h1)]) hx hb dX3_copyFrom_140 rfl hl (by decide) rfl (fun ls hl => ?_)
        refine L141 (No 2 + 1) 0 (Nat.zero_le _) (by omega) M1 _ _ _ Y1 N1 T1 hL1 hF1 hN1 (fun j x hj hx => ?_) (fun x hx => absurd hx (Nat.not_lt_zero _)) hM (lv_sub hl [0, 1, 2] rfl)
        rcases Nat.lt_or_ge j 1 with hj2 | hj2
        · exact hT1 j x hj2 hx
        · have hj3 : j = 1 := by omega
          rw [hj3] at hx ⊢
          exact hT2 x (by omega)
      · have hi : i < No 1 := by
          rcases Nat.lt_or_ge i (No 1) with z | z
          · exact z
          · exact absurd (nI_le z (by omega)) c5
        have hiA : i < N1 1 := by omega
        refine lv_iload_n hx hb dX3_copyFrom_97 rfl (lv_at hl 0 rfl) ?_
        refine lv_aload_n hx hb dX3_copyFrom_98 rfl (lv_at hl 1 rfl) ?_
        refine fg_X3_18 hx hb hts hown hK hM hL1.1 dX3_copyFrom_99 ?_
        refine g_callVi (n9 := 0) (As := []) (rest := [.int (nI i)]) hx hb hml hl.1 hown hts hK hM (c_Jx4a65c_size_8abf5 l G _ (Y1.1 1) t _ _ _ ((hL1.2.1 1 (by decide)).1)) wm_X3_48 wi_Jx4a65c_size_8abf5 wl_Jx4a65c_size_8abf5 wn_Jx4a65c wc_Jx4a65c_size_8abf5 (by decide +kernel) (hM.recv hK (ci := 0) rfl ((hL1.2.1 1 (by decide)).1)) ⟨Nat.le_of_ble_eq_true rfl, Nat.le_of_ble_eq_true rfl⟩ ⟨Nat.le_refl _, Nat.le_refl _⟩ rfl (Nat.le_of_ble_eq_true rfl) rfl dX3_copyFrom_102 (fun r_102 Mz H locs hq hM => ?_)
        have hq1 := hq.1.symm
        have hq2 := hq.2.symm
        subst hq1 hq2
        refine lv_icmp_ge (tgt := 139) hx hb dX3_copyFrom_105 (by decide) (fun c6 => ?_) (fun c6 => ?_)
        · exact absurd ((nI_leI (a := N1 1) (b := i) (by omega) (by omega)).mp c6) (by omega)
        · refine lv_aload_n hx hb dX3_copyFrom_108 rfl (lv_at hl 1 rfl) ?_
          refine fg_X3_18 hx hb hts hown hK hM hL1.1 dX3_copyFrom_109 ?_
          refine lv_iload_n hx hb dX3_copyFrom_112 rfl (lv_at hl 0 rfl) ?_
          refine g_callVq (n9 := 1) (As := [.int (nI i)]) (rest := []) hx hb hml hl.1 hown hts hK hM (c_getL l G _ t (Y1.1 1) (N1 1) _ _ i _ _ (hL1.2.1 1 (by decide)) hiA) wm_X3_52 wi_Jx4a65c_get_915e3 wl_Jx4a65c_get_915e3 wn_Jx4a65c wc_Jx4a65c_get_915e3 (by decide +kernel) (hM.recv hK (ci := 0) rfl ((hL1.2.1 1 (by decide)).1)) ⟨Nat.le_of_ble_eq_true rfl, Nat.le_of_ble_eq_true rfl⟩ ⟨Nat.le_refl _, Nat.le_refl _⟩ rfl (Nat.le_of_ble_eq_true rfl) rfl dX3_copyFrom_113 (fun r_113 Mz H locs hq hM => ?_)
          have hq1 := (hq.1.trans (hL1.at_g (k := 1) (i := i) (by decide) hiA)).symm
          have hq2 := hq.2.symm
          subst hq1 hq2
          refine va_castS (nm := RX0) hx hb hown (hts _ wk_X3_62) (hK.1.1 1 _ rfl).2 (hM.recv hK (ci := 1) rfl (hL1.row (k := 1) (i := i) (by decide) hiA)) dX3_copyFrom_116 ?_
          refine lv_aload_n hx hb dX3_copyFrom_119 rfl (lv_at hl 2 rfl) ?_
          refine fg_X3_18 hx hb hts hown hK hM hLo1.1 dX3_copyFrom_120 ?_
          refine lv_iload_n hx hb dX3_copyFrom_123 rfl (lv_at hl 0 rfl) ?_
          refine g_callVq (n9 := 1) (As := [.int (nI i)]) (rest := [.ref (Y1.2.2.2.2.2 1 i)]) hx hb hml hl.1 hown hts hK hM (c_getL l G _ t1 (Yo.1 1) (No 1) _ _ i _ _ (hLo1.2.1 1 (by decide)) hi) wm_X3_52 wi_Jx4a65c_get_915e3 wl_Jx4a65c_get_915e3 wn_Jx4a65c wc_Jx4a65c_get_915e3 (by decide +kernel) (hM.recv hK (ci := 0) rfl ((hLo1.2.1 1 (by decide)).1)) ⟨Nat.le_of_ble_eq_true rfl, Nat.le_of_ble_eq_true rfl⟩ ⟨Nat.le_refl _, Nat.le_refl _⟩ rfl (Nat.le_of_ble_eq_true rfl) rfl dX3_copyFrom_124 (fun r_124 Mz H locs hq hM => ?_)
          have hq1 := (hq.1.trans (hLo1.at_g (k := 1) (i := i) (by decide) hi)).symm
          have hq2 := hq.2.symm
          subst hq1 hq2
          refine va_castS (nm := RX0) hx hb hown (hts _ wk_X3_62) (hK.1.1 1 _ rfl).2 (hM.recv hK (ci := 1) rfl (hLo1.row (k := 1) (i := i) (by decide) hi)) dX3_copyFrom_127 ?_
          have nab : (Y1.2.2.2.2.2 1 i) ≠ (Yo.2.2.2.2.2 1 i) := hu_ne (hL1.row (k := 1) (by decide) hiA) (hLo1.row (k := 1) (by decide) hi) (fun z => hne (by injection z with z; injection z with z1 z2; exact z1.symm))
          refine g_callVv (n9 := 1) (As := [.ref (Yo.2.2.2.2.2 1 i)]) (rest := []) hx hb hml hl.1 hown hts hK hM (cr_X0_copyFrom l G _ (Y1.2.2.2.2.2 1 i) t (Yo.2.2.2.2.2 1 i) t1 (T1 1 i) (To 1 i) (hL1.row (k := 1) (by decide) hiA) (hLo1.row (k := 1) (by decide) hi) nab (hB i hi)) wm_X3_64 wi_X0_copyFrom wl_X0_copyFrom wn_X0 wc_X0_copyFrom (by decide +kernel) (hM.recv hK (ci := 1) rfl (hL1.row (k := 1) (by decide) hiA)) ⟨Nat.le_of_ble_eq_true rfl, Nat.le_of_ble_eq_true rfl⟩ ⟨Nat.le_refl _, Nat.le_refl _⟩ rfl (Nat.le_of_ble_eq_true rfl) rfl dX3_copyFrom_130 (fun Mz H locs hq hM => ?_)
          subst hq
          replace hM := hM.eq (show _ = hu M1 (Y1.2.2.2.2.2 1 i) t (eC 1 (To 1 i)) from rfl)
          refine lv_iinc (v := (nI (i + 1))) (lv' := [(2, .int (nI (i + 1))), (0, .ref h0), (1, .ref h1)]) hx hb dX3_copyFrom_133 hl (k := 0) rfl (nI_1 i) (by decide) rfl (fun ls hl => ?_)
          refine lv_goto (tgt := 86) hx hb dX3_copyFrom_136 (by decide) ?_
          refine ih (i + 1) (by omega) (by omega) _ _ _ _ Y1 N1 _ (hL1.setRow (k := 1) (by decide) hiA (To 1 i)) (Fr.tr hF1 (Fr.up (hL1.row (k := 1) (by decide) hiA))) hN1 (fun j x hj hx => ?_) (fun x hx => ?_) hM (lv_sub hl [0, 1, 2] rfl)
          · rw [tu_k (by omega)]
            exact hT1 j x hj hx
          · by_cases hxi : x = i
            · rw [hxi, tu_s]
            · rw [tu_i hxi]
              exact hT2 x (by omega)
  have L31 : ∀ (n i : Nat), i ≤ No 0 → No 0 - i < n → ∀ (M1 : HM) (H : Heap) (locs : List Loc) (ls : Array Slot) (Y1 : LY) (N1 : Nat → Nat) (T1 : Tb), LdR G M1 t h0 Y1 N1 T1 tr now1 price1 money1 → Fr t M M1 → (N1 0 = No 0 ∧ N1 1 = No 1 ∧ N1 2 = No 2 ∧ N1 3 = No 3 ∧ N1 4 = N 4) → (∀ j x, j < 0 → x < No j → T1 j x = To j x) → (∀ x, x < i → T1 0 x = To 0 x) → Wd G M1 s H locs → lv_has ls 3 [(2, .int (nI i)), (0, .ref h0), (1, .ref h1)] → W p l e ({ frames := 8, cells := mc, slots := ms, locals := 193 } : Room) s m [.ref h0, .ref h1].toArray below meth c H locs mc ms (MQ below (va_Qv (fun M' => ∃ Y', LdR G M' t h0 Y' (nu No 4 0) To tr now1 price1 money1 ∧ Fr t M M') (gB G) (gA G)) [.ref h0, .ref h1].toArray s mc ms (gA G)) (F0 m 31 ls []) := by
    intro n
    induction n with
    | zero => intro i h1 h2; omega
    | succ n ih =>
      intro i hi1 hi2 M1 H locs ls Y1 N1 T1 hL1 hF1 hN1 hT1 hT2 hM hl
      have hN1a := hN1
      obtain ⟨e0, e1, e2, e3, e4⟩ := hN1a
      have hLo1 := hLo.frame hne hF1
      refine lv_iload_n hx hb dX3_copyFrom_31 rfl (lv_at hl 0 rfl) ?_
      refine lv_aload_n hx hb dX3_copyFrom_32 rfl (lv_at hl 2 rfl) ?_
      refine fg_X3_12 hx hb hts hown hK hM hLo1.1 dX3_copyFrom_33 ?_
      refine g_callVi (n9 := 0) (As := []) (rest := [.int (nI i)]) hx hb hml hl.1 hown hts hK hM (c_Jx4a65c_size_8abf5 l G _ (Yo.1 0) t1 _ _ _ ((hLo1.2.1 0 (by decide)).1)) wm_X3_48 wi_Jx4a65c_size_8abf5 wl_Jx4a65c_size_8abf5 wn_Jx4a65c wc_Jx4a65c_size_8abf5 (by decide +kernel) (hM.recv hK (ci := 0) rfl ((hLo1.2.1 0 (by decide)).1)) ⟨Nat.le_of_ble_eq_true rfl, Nat.le_of_ble_eq_true rfl⟩ ⟨Nat.le_refl _, Nat.le_refl _⟩ rfl (Nat.le_of_ble_eq_true rfl) rfl dX3_copyFrom_36 (fun r_36 Mz H locs hq hM => ?_)
      have hq1 := hq.1.symm
      have hq2 := hq.2.symm
      subst hq1 hq2
      refine lv_icmp_ge (tgt := 84) hx hb dX3_copyFrom_39 (by decide) (fun c7 => ?_) (fun c7 => ?_)
      · have hi : i = No 0 := by
          have := (nI_leI (a := No 0) (b := i) (by omega) (by omega)).mp c7
          omega
        refine lv_iconst (v := (0 : Int32)) hx hb dX3_copyFrom_84 (by decide) ?_
        refine lv_istore_n (lv' := [(2, .int (0 : Int32)), (0, .ref h0), (1, .ref h1)]) hx hb dX3_copyFrom_85 rfl hl (by decide) rfl (fun ls hl => ?_)
        refine L86 (No 1 + 1) 0 (Nat.zero_le _) (by omega) M1 _ _ _ Y1 N1 T1 hL1 hF1 hN1 (fun j x hj hx => ?_) (fun x hx => absurd hx (Nat.not_lt_zero _)) hM (lv_sub hl [0, 1, 2] rfl)
        rcases Nat.lt_or_ge j 0 with hj2 | hj2
        · exact hT1 j x hj2 hx
        · have hj3 : j = 0 := by omega
          rw [hj3] at hx ⊢
          exact hT2 x (by omega)
      · have hi : i < No 0 := by
          rcases Nat.lt_or_ge i (No 0) with z | z
          · exact z
          · exact absurd (nI_le z (by omega)) c7
        have hiA : i < N1 0 := by omega
        refine lv_iload_n hx hb dX3_copyFrom_42 rfl (lv_at hl 0 rfl) ?_
        refine lv_aload_n hx hb dX3_copyFrom_43 rfl (lv_at hl 1 rfl) ?_
        refine fg_X3_12 hx hb hts hown hK hM hL1.1 dX3_copyFrom_44 ?_
        refine g_callVi (n9 := 0) (As := []) (rest := [.int (nI i)]) hx hb hml hl.1 hown hts hK hM (c_Jx4a65c_size_8abf5 l G _ (Y1.1 0) t _ _ _ ((hL1.2.1 0 (by decide)).1)) wm_X3_48 wi_Jx4a65c_size_8abf5 wl_Jx4a65c_size_8abf5 wn_Jx4a65c wc_Jx4a65c_size_8abf5 (by decide +kernel) (hM.recv hK (ci := 0) rfl ((hL1.2.1 0 (by decide)).1)) ⟨Nat.le_of_ble_eq_true rfl, Nat.le_of_ble_eq_true rfl⟩ ⟨Nat.le_refl _, Nat.le_refl _⟩ rfl (Nat.le_of_ble_eq_true rfl) rfl dX3_copyFrom_47 (fun r_47 Mz H locs hq hM => ?_)
        have hq1 := hq.1.symm
        have hq2 := hq.2.symm
        subst hq1 hq2
        refine lv_icmp_ge (tgt := 84) hx hb dX3_copyFrom_50 (by decide) (fun c8 => ?_) (fun c8 => ?_)
        · exact absurd ((nI_leI (a := N1 0) (b := i) (by omega) (by omega)).mp c8) (by omega)
        · refine lv_aload_n hx hb dX3_copyFrom_53 rfl (lv_at hl 1 rfl) ?_
          refine fg_X3_12 hx hb hts hown hK hM hL1.1 dX3_copyFrom_54 ?_
          refine lv_iload_n hx hb dX3_copyFrom_57 rfl (lv_at hl 0 rfl) ?_
          refine g_callVq (n9 := 1) (As := [.int (nI i)]) (rest := []) hx hb hml hl.1 hown hts hK hM (c_getL l G _ t (Y1.1 0) (N1 0) _ _ i _ _ (hL1.2.1 0 (by decide)) hiA) wm_X3_52 wi_Jx4a65c_get_915e3 wl_Jx4a65c_get_915e3 wn_Jx4a65c wc_Jx4a65c_get_915e3 (by decide +kernel) (hM.recv hK (ci := 0) rfl ((hL1.2.1 0 (by decide)).1)) ⟨Nat.le_of_ble_eq_true rfl, Nat.le_of_ble_eq_true rfl⟩ ⟨Nat.le_refl _, Nat.le_refl _⟩ rfl (Nat.le_of_ble_eq_true rfl) rfl dX3_copyFrom_58 (fun r_58 Mz H locs hq hM => ?_)
          have hq1 := (hq.1.trans (hL1.at_g (k := 0) (i := i) (by decide) hiA)).symm
          have hq2 := hq.2.symm
          subst hq1 hq2
          refine va_castS (nm := RX2) hx hb hown (hts _ wk_X3_56) (hK.1.1 3 _ rfl).2 (hM.recv hK (ci := 3) rfl (hL1.row (k := 0) (i := i) (by decide) hiA)) dX3_copyFrom_61 ?_
          refine lv_aload_n hx hb dX3_copyFrom_64 rfl (lv_at hl 2 rfl) ?_
          refine fg_X3_12 hx hb hts hown hK hM hLo1.1 dX3_copyFrom_65 ?_
          refine lv_iload_n hx hb dX3_copyFrom_68 rfl (lv_at hl 0 rfl) ?_
          refine g_callVq (n9 := 1) (As := [.int (nI i)]) (rest := [.ref (Y1.2.2.2.2.2 0 i)]) hx hb hml hl.1 hown hts hK hM (c_getL l G _ t1 (Yo.1 0) (No 0) _ _ i _ _ (hLo1.2.1 0 (by decide)) hi) wm_X3_52 wi_Jx4a65c_get_915e3 wl_Jx4a65c_get_915e3 wn_Jx4a65c wc_Jx4a65c_get_915e3 (by decide +kernel) (hM.recv hK (ci := 0) rfl ((hLo1.2.1 0 (by decide)).1)) ⟨Nat.le_of_ble_eq_true rfl, Nat.le_of_ble_eq_true rfl⟩ ⟨Nat.le_refl _, Nat.le_refl _⟩ rfl (Nat.le_of_ble_eq_true rfl) rfl dX3_copyFrom_69 (fun r_69 Mz H locs hq hM => ?_)
          have hq1 := (hq.1.trans (hLo1.at_g (k := 0) (i := i) (by decide) hi)).symm
          have hq2 := hq.2.symm
          subst hq1 hq2
          refine va_castS (nm := RX2) hx hb hown (hts _ wk_X3_56) (hK.1.1 3 _ rfl).2 (hM.recv hK (ci := 3) rfl (hLo1.row (k := 0) (i := i) (by decide) hi)) dX3_copyFrom_72 ?_
          have nab : (Y1.2.2.2.2.2 0 i) ≠ (Yo.2.2.2.2.2 0 i) := hu_ne (hL1.row (k := 0) (by decide) hiA) (hLo1.row (k := 0) (by decide) hi) (fun z => hne (by injection z with z; injection z with z1 z2; exact z1.symm))
          refine g_callVv (n9 := 1) (As := [.ref (Yo.2.2.2.2.2 0 i)]) (rest := []) hx hb hml hl.1 hown hts hK hM (cr_X2_copyFrom l G _ (Y1.2.2.2.2.2 0 i) t (Yo.2.2.2.2.2 0 i) t1 (T1 0 i) (To 0 i) (hL1.row (k := 0) (by decide) hiA) (hLo1.row (k := 0) (by decide) hi) nab) wm_X3_58 wi_X2_copyFrom wl_X2_copyFrom wn_X2 wc_X2_copyFrom (by decide +kernel) (hM.recv hK (ci := 3) rfl (hL1.row (k := 0) (by decide) hiA)) ⟨Nat.le_of_ble_eq_true rfl, Nat.le_of_ble_eq_true rfl⟩ ⟨Nat.le_refl _, Nat.le_refl _⟩ rfl (Nat.le_of_ble_eq_true rfl) rfl dX3_copyFrom_75 (fun Mz H locs hq hM => ?_)
          subst hq
          replace hM := hM.eq (show _ = hu M1 (Y1.2.2.2.2.2 0 i) t (eC 0 (To 0 i)) from rfl)
          refine lv_iinc (v := (nI (i + 1))) (lv' := [(2, .int (nI (i + 1))), (0, .ref h0), (1, .ref h1)]) hx hb dX3_copyFrom_78 hl (k := 0) rfl (nI_1 i) (by decide) rfl (fun ls hl => ?_)
          refine lv_goto (tgt := 31) hx hb dX3_copyFrom_81 (by decide) ?_
          refine ih (i + 1) (by omega) (by omega) _ _ _ _ Y1 N1 _ (hL1.setRow (k := 0) (by decide) hiA (To 0 i)) (Fr.tr hF1 (Fr.up (hL1.row (k := 0) (by decide) hiA))) hN1 (fun j x hj hx => ?_) (fun x hx => ?_) hM (lv_sub hl [0, 1, 2] rfl)
          · rw [tu_k (by omega)]
            exact hT1 j x hj hx
          · by_cases hxi : x = i
            · rw [hxi, tu_s]
            · rw [tu_i hxi]
              exact hT2 x (by omega)
  refine lv_aload_n hx hb dX3_copyFrom_0 rfl (lv_at hl 0 rfl) ?_
  refine lv_aload_n hx hb dX3_copyFrom_1 rfl (lv_at hl 1 rfl) ?_
  refine fg_X3_41 hx hb hts hown hK hM hLo.1 dX3_copyFrom_2 ?_
  refine fp_X3_41 hx hb hts hown hK hM hL.1 dX3_copyFrom_5 (fun H locs hM => ?_)
  obtain ⟨A0, eA0⟩ : ∃ z, z = hu M h0 t (ldE Y tr now1 price money) := ⟨_, rfl⟩
  replace hM := hM.eq eA0.symm
  have gL0 : LdR G A0 t h0 Y N T tr now1 price money := by rw [eA0]; exact hL.setLand _ _ _
  have gF0 : Fr t M A0 := by rw [eA0]; exact Fr.tr Fr.rf (Fr.up hL.1)
  have gO0 := hLo.frame hne gF0
  refine lv_aload_n hx hb dX3_copyFrom_8 rfl (lv_at hl 0 rfl) ?_
  refine lv_aload_n hx hb dX3_copyFrom_9 rfl (lv_at hl 1 rfl) ?_
  refine fg_X3_30 hx hb hts hown hK hM gO0.1 dX3_copyFrom_10 ?_
  refine fp_X3_30 hx hb hts hown hK hM gL0.1 dX3_copyFrom_13 (fun H locs hM => ?_)
  obtain ⟨A1, eA1⟩ : ∃ z, z = hu A0 h0 t (ldE Y tr now1 price1 money) := ⟨_, rfl⟩
  replace hM := hM.eq eA1.symm
  have gL1 : LdR G A1 t h0 Y N T tr now1 price1 money := by rw [eA1]; exact gL0.setLand _ _ _
  have gF1 : Fr t M A1 := by rw [eA1]; exact Fr.tr gF0 (Fr.up gL0.1)
  have gO1 := hLo.frame hne gF1
  refine lv_aload_n hx hb dX3_copyFrom_16 rfl (lv_at hl 0 rfl) ?_
  refine lv_aload_n hx hb dX3_copyFrom_17 rfl (lv_at hl 1 rfl) ?_
  refine fg_X3_34 hx hb hts hown hK hM gO1.1 dX3_copyFrom_18 ?_
  refine fp_X3_34 hx hb hts hown hK hM gL1.1 dX3_copyFrom_21 (fun H locs hM => ?_)
  obtain ⟨A2, eA2⟩ : ∃ z, z = hu A1 h0 t (ldE Y tr now1 price1 money1) := ⟨_, rfl⟩
  replace hM := hM.eq eA2.symm
  have gL2 : LdR G A2 t h0 Y N T tr now1 price1 money1 := by rw [eA2]; exact gL1.setLand _ _ _
  have gF2 : Fr t M A2 := by rw [eA2]; exact Fr.tr gF1 (Fr.up gL1.1)
  have gO2 := hLo.frame hne gF2
  refine lv_aload_n hx hb dX3_copyFrom_24 rfl (lv_at hl 0 rfl) ?_
  refine lv_aload_n hx hb dX3_copyFrom_25 rfl (lv_at hl 1 rfl) ?_
  refine g_callVv (n9 := 1) (As := [.ref h1]) (rest := []) hx hb hml hl.1 hown hts hK hM (c_X3_addRowsAs l G _ t h0 Y N T tr now1 price1 money1 t1 h1 Yo No To tr1 now1 price1 money1 gL2 gO2 hne k0 k1 k2 k3) wm_X3_44 wi_X3_addRowsAs wl_X3_addRowsAs wn_X3 wc_X3_addRowsAs (by decide +kernel) (hM.recv hK (ci := 4) rfl gL2.1) ⟨Nat.le_of_ble_eq_true rfl, Nat.le_of_ble_eq_true rfl⟩ ⟨by show 0 + _ ≤ mc; omega, by show 0 + _ ≤ ms; omega⟩ rfl (Nat.le_of_ble_eq_true rfl) rfl dX3_copyFrom_26 (fun Mz H locs hq hM => ?_)
  obtain ⟨Y3, N3, T3, g1, g2, f0, f1, f2, f3, f4⟩ := hq
  refine W.cst (cells' := mc) (slots' := ms) (by omega) (by omega) ?_
  refine lv_iconst (v := (0 : Int32)) hx hb dX3_copyFrom_29 (by decide) ?_
  refine lv_istore_n (lv' := [(2, .int (0 : Int32)), (0, .ref h0), (1, .ref h1)]) hx hb dX3_copyFrom_30 rfl hl (by decide) rfl (fun ls hl => ?_)
  exact L31 (No 0 + 1) 0 (Nat.zero_le _) (by omega) Mz _ _ _ Y3 N3 T3 g1 (Fr.tr gF2 g2) ⟨f0, f1, f2, f3, f4⟩ (fun j x hj => absurd hj (Nat.not_lt_zero _)) (fun x hx => absurd hx (Nat.not_lt_zero _)) hM (lv_sub hl [0, 1, 2] rfl)

set_option maxHeartbeats 4000000 in
set_option maxRecDepth 100000 in
theorem c_Jx4a65c_size_8abf5 (l : Launch) (G : GG) (M : HM) (h0 r0 : Nat) (a0 a2 : Int32) (aq1 : Nat) (ha_h0 : M h0 = some (r0, (.inr (0, [.int a0, .ref aq1, .int a2])))) : Mi l yJx4a65c_size_8abf5 (.code yJx4a65c_size_8abf5 cJx4a65c_size_8abf5 1 (some .int) :: AL) 0 0 0 0 [.ref h0] G M (fun r M' => r = a2 ∧ M' = M) := by
  refine Mi.go (by decide) (Nat.le_of_ble_eq_true rfl) ?_
  intro p e s m below meth c ls hx hb hr hml hown hlocks hname hts hK hM hl
  have hown : s.vm.findClass RJx4a65c = some m.cls := hown
  have hl : lv_has ls 1 [(0, .ref h0)] := hl
  refine lv_aload_n hx hb dJx4a65c_size_8abf5_0 rfl (lv_at hl 0 rfl) ?_
  refine fg_Jx4a65c_48 hx hb hts hown hK hM ha_h0 dJx4a65c_size_8abf5_1 ?_
  exact g_iret hx hb hr hlocks hM (Nat.zero_le _) (Nat.zero_le _) ⟨rfl, rfl⟩ dJx4a65c_size_8abf5_4
set_option maxHeartbeats 4000000 in
set_option maxRecDepth 100000 in
theorem c_Jxa1e45_init_da8c8 (l : Launch) (G : GG) (M : HM) (h0 r0 : Nat) (a0 a2 : Int32) (ha_h0 : M h0 = some (r0, (.inr (0, [.int a0, .null, .int a2])))) : Mv l yJxa1e45_init_da8c8 (.code yJxa1e45_init_da8c8 cJxa1e45_init_da8c8 1 none :: AL) 1 20 0 0 [.ref h0] G M (fun M' => M' = M) := by
  refine Mv.go (by decide) (Nat.le_of_ble_eq_true rfl) ?_
  intro p e s m below meth c ls hx hb hr hml hown hlocks hname hts hK hM hl
  have hown : s.vm.findClass RJxa1e45 = some m.cls := hown
  have hl : lv_has ls 1 [(0, .ref h0)] := hl
  refine lv_aload_n hx hb dJxa1e45_init_da8c8_0 rfl (lv_at hl 0 rfl) ?_
  refine W.objInit hx hb hown (hts _ wm_Jxa1e45_1) (hts _ wi_objinit) (hts _ wc_objinit) rfl (hl.1.trans hml.symm) rfl dJxa1e45_init_da8c8_1 (Nat.le_of_ble_eq_true rfl) (Nat.le_of_ble_eq_true rfl) ?_
  refine W.eq (g2 := F0 m 4 ls []) rfl ?_
  exact g_vret hx hb hr hlocks hM (Nat.zero_le _) (Nat.zero_le _) rfl dJxa1e45_init_da8c8_4
set_option maxHeartbeats 4000000 in
set_option maxRecDepth 100000 in
theorem c_Jxc12de_init_da8c8 (l : Launch) (G : GG) (M : HM) (h0 r0 : Nat) (a0 a2 : Int32) (ha_h0 : M h0 = some (r0, (.inr (0, [.int a0, .null, .int a2])))) : Mv l yJxc12de_init_da8c8 (.code yJxc12de_init_da8c8 cJxc12de_init_da8c8 1 none :: AL) 2 40 0 0 [.ref h0] G M (fun M' => M' = (hu M h0 r0 (.inr (0, [.int (0 : Int32), .null, .int a2])))) := by
  refine Mv.go (by decide) (Nat.le_of_ble_eq_true rfl) ?_
  intro p e s m below meth c ls hx hb hr hml hown hlocks hname hts hK hM hl
  have hown : s.vm.findClass RJxc12de = some m.cls := hown
  have hl : lv_has ls 1 [(0, .ref h0)] := hl
  refine lv_aload_n hx hb dJxc12de_init_da8c8_0 rfl (lv_at hl 0 rfl) ?_
  refine g_callIv (n9 := 0) (As := []) (rest := []) hx hb hml hl.1 hown hts hK hM (c_Jxa1e45_init_da8c8 l G _ h0 r0 a0 a2 ha_h0) wm_Jxc12de_1 wi_Jxa1e45_init_da8c8 wn_Jxa1e45 rfl wc_Jxa1e45_init_da8c8 (by decide +kernel) ⟨Nat.le_of_ble_eq_true rfl, Nat.le_of_ble_eq_true rfl⟩ ⟨Nat.le_of_ble_eq_true rfl, Nat.le_of_ble_eq_true rfl⟩ rfl (Nat.le_of_ble_eq_true rfl) rfl dJxc12de_init_da8c8_1 (fun M1 H locs hq hM => ?_)
  replace hq := hq.symm
  subst hq
  refine lv_aload_n hx hb dJxc12de_init_da8c8_4 rfl (lv_at hl 0 rfl) ?_
  refine lv_iconst (v := (0 : Int32)) hx hb dJxc12de_init_da8c8_5 (by decide) ?_
  refine fp_Jxc12de_7 hx hb hts hown hK hM ha_h0 dJxc12de_init_da8c8_6 (fun H locs hM => ?_)
  exact g_vret hx hb hr hlocks hM (Nat.zero_le _) (Nat.zero_le _) rfl dJxc12de_init_da8c8_9
set_option maxHeartbeats 4000000 in
set_option maxRecDepth 100000 in
theorem c_Jx4a65c_init_da8c8 (l : Launch) (G : GG) (M : HM) (h0 r0 : Nat) (a0 a2 : Int32) (ha_h0 : M h0 = some (r0, (.inr (0, [.int a0, .null, .int a2])))) : Mv l yJx4a65c_init_da8c8 (.code yJx4a65c_init_da8c8 cJx4a65c_init_da8c8 1 none :: AL) 3 60 0 0 [.ref h0] G M (fun M' => M' = (hu M h0 r0 (.inr (0, [.int (0 : Int32), .ref (G.2.2 1), .int a2])))) := by
  refine Mv.go (by decide) (Nat.le_of_ble_eq_true rfl) ?_
  intro p e s m below meth c ls hx hb hr hml hown hlocks hname hts hK hM hl
  have hown : s.vm.findClass RJx4a65c = some m.cls := hown
  have hl : lv_has ls 1 [(0, .ref h0)] := hl
  refine lv_aload_n hx hb dJx4a65c_init_da8c8_0 rfl (lv_at hl 0 rfl) ?_
  refine g_callIv (n9 := 0) (As := []) (rest := []) hx hb hml hl.1 hown hts hK hM (c_Jxc12de_init_da8c8 l G _ h0 r0 a0 a2 ha_h0) wm_Jx4a65c_1 wi_Jxc12de_init_da8c8 wn_Jxc12de rfl wc_Jxc12de_init_da8c8 (by decide +kernel) ⟨Nat.le_of_ble_eq_true rfl, Nat.le_of_ble_eq_true rfl⟩ ⟨Nat.le_of_ble_eq_true rfl, Nat.le_of_ble_eq_true rfl⟩ rfl (Nat.le_of_ble_eq_true rfl) rfl dJx4a65c_init_da8c8_1 (fun M1 H locs hq hM => ?_)
  replace hq := hq.symm
  subst hq
  refine lv_aload_n hx hb dJx4a65c_init_da8c8_4 rfl (lv_at hl 0 rfl) ?_
  refine va_gets hx hb hK.2.2.2.2.1 hM.2.1 hown (hts _ wf_Jx4a65c_39) (fun _ h => h) dJx4a65c_init_da8c8_5 ?_
  refine fp_Jx4a65c_9 hx hb hts hown hK hM hu_s dJx4a65c_init_da8c8_8 (fun H locs hM => ?_)
  replace hM := hM.eq (hu_u _ _ _ _ _ _)
  exact g_vret hx hb hr hlocks hM (Nat.zero_le _) (Nat.zero_le _) rfl dJx4a65c_init_da8c8_11

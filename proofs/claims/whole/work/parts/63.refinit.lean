set_option maxHeartbeats 4000000 in
set_option maxRecDepth 100000 in
theorem c_X8_init (l : Launch) (G : GG) (M : HM) (ma tx t t2 : Nat) (hh : M ma = some (tx, .inr (9, [.int 0, .null, .null, .null, .int 0, .int 0]))) (d1 : tx ≠ t) : Mv l yX8_init (.code yX8_init cX8_init 1 none :: AL) 5 110 27 230 [.ref ma] G M (fun M' => ∃ h0 fa lb, XP G M M' tx ma h0 fa lb t t2 (fun _ => 0) (fun _ _ _ => 0) 0 0 400 1000 (fun _ => 0) (fun _ => 0)) := by
  refine Mv.go (by decide) (Nat.le_of_ble_eq_true rfl) ?_
  intro p e s m below meth c ls hx hb hr hml hown hlocks hname hts hK hM hl
  have hown : s.vm.findClass RX8 = some m.cls := hown
  have hl : lv_has ls 1 [(0, .ref ma)] := hl
  refine lv_aload_n hx hb dX8_init_0 rfl (lv_at hl 0 rfl) ?_
  refine W.objInit hx hb hown (hts _ wm_X8_1) (hts _ wi_objinit) (hts _ wc_objinit) rfl (hl.1.trans hml.symm) rfl dX8_init_1 (Nat.le_of_ble_eq_true rfl) (Nat.le_of_ble_eq_true rfl) ?_
  refine W.eq (g2 := F0 m 4 ls []) rfl ?_
  refine lv_aload_n hx hb dX8_init_4 rfl (lv_at hl 0 rfl) ?_
  refine g_new (ci := 8) (fs := [.null, .null, .null, .null, .null, .int 0, .int 0, .int 0, .int 0, .int 0]) hx hb hts hown hK hM iaX7 rfl tyX7 tyX7_ok wk_X8_7 wb_X7 wn_X7 nfX7 t (Nat.le_of_ble_eq_true rfl) (Nat.le_of_ble_eq_true rfl) dX8_init_5 (fun q0 H hq0 hM => ?_)
  refine lv_dup hx hb dX8_init_8 rfl ?_
  refine g_callINv (n9 := 0) (As := []) (rest := [.ref q0, .ref ma]) hx hb hml hl.1 hown hts hK hM (c_X7_init l G _ q0 t hu_s) hK.2.1.2.2 wi_X7_init wn_X7 rfl wc_X7_init (by decide +kernel) ⟨Nat.le_of_ble_eq_true rfl, Nat.le_of_ble_eq_true rfl⟩ ⟨Nat.le_of_ble_eq_true rfl, Nat.le_of_ble_eq_true rfl⟩ rfl (Nat.le_of_ble_eq_true rfl) rfl dX8_init_9 (fun M1 H locs hq hM => ?_)
  obtain ⟨Z1, hV1, hF1⟩ := hq
  have hm0 : M1 ma = some (tx, .inr (9, [.int 0, .null, .null, .null, .int 0, .int 0])) := hF1 _ _ _ d1 (hu_n (hu_ne hh hq0 (by simp)) hh)
  have hG1 : Fr t M M1 := Fr.tr (Fr.new hq0) hF1
  refine fp_X8_10 hx hb hts hown hK hM hname hm0 dX8_init_12 (fun H locs hM => ?_)
  obtain ⟨M2, eM2⟩ : ∃ z, z = hu M1 ma tx (.inr (9, [.int 0, .ref q0, .null, .null, .int 0, .int 0])) := ⟨_, rfl⟩
  replace hM := hM.eq eM2.symm
  have hm2 : M2 ma = some (tx, .inr (9, [.int 0, .ref q0, .null, .null, .int 0, .int 0])) := by rw [eM2]; exact hu_s
  have hV2 : MdR G M2 t q0 Z1 (fun _ => 0) (fun _ _ _ => 0) 0 := by rw [eM2]; exact hV1.frame (Ne.symm d1) (Fr.up hm0)
  have hG2 : F3 tx t t2 M M2 := by rw [eM2]; exact F3.tr (F3.fr hG1) (F3.up hm0 (Or.inr (Or.inl rfl)))
  refine lv_aload_n hx hb dX8_init_15 rfl (lv_at hl 0 rfl) ?_
  refine lv_iconst (v := (4 : Int32)) hx hb dX8_init_16 (by decide) ?_
  refine g_newI hx hb hK hM hts 4 (by decide) (by decide) (by decide) tx (Nat.le_of_ble_eq_true rfl) (Nat.le_of_ble_eq_true rfl) dX8_init_17 (fun fa H hfa hM => ?_)
  refine fp_X8_16 hx hb hts hown hK hM hname (hu_n (hu_ne hm2 hfa (by simp)) hm2) dX8_init_19 (fun H locs hM => ?_)
  obtain ⟨M3, eM3⟩ : ∃ z, z = hu (hu M2 fa tx (.inl (G.2.1 0, 4, .inl (fun _ => 0)))) ma tx (.inr (9, [.int 0, .ref q0, .ref fa, .null, .int 0, .int 0])) := ⟨_, rfl⟩
  replace hM := hM.eq eM3.symm
  have nm3 : fa ≠ ma := fun z => by rw [z, hm2] at hfa; cases hfa
  have hm3 : M3 ma = some (tx, .inr (9, [.int 0, .ref q0, .ref fa, .null, .int 0, .int 0])) := by rw [eM3]; exact hu_s
  have hA3 : M3 fa = some (tx, .inl (G.2.1 0, 4, .inl (fun _ => 0))) := by rw [eM3]; exact hu_n nm3 hu_s
  have hV3 : MdR G M3 t q0 Z1 (fun _ => 0) (fun _ _ _ => 0) 0 := by rw [eM3]; exact (hV2.new hfa).frame (Ne.symm d1) (Fr.up (hu_n (Ne.symm nm3) hm2))
  have hG3 : F3 tx t t2 M M3 := by rw [eM3]; exact F3.tr hG2 (F3.tr (F3.new hfa) (F3.up (hu_n (Ne.symm nm3) hm2) (Or.inr (Or.inl rfl))))
  refine lv_aload_n hx hb dX8_init_22 rfl (lv_at hl 0 rfl) ?_
  refine lv_iconst (v := (4 : Int32)) hx hb dX8_init_23 (by decide) ?_
  refine g_newI hx hb hK hM hts 4 (by decide) (by decide) (by decide) tx (Nat.le_of_ble_eq_true rfl) (Nat.le_of_ble_eq_true rfl) dX8_init_24 (fun lb H hlb hM => ?_)
  refine fp_X8_20 hx hb hts hown hK hM hname (hu_n (hu_ne hm3 hlb (by simp)) hm3) dX8_init_26 (fun H locs hM => ?_)
  obtain ⟨M4, eM4⟩ : ∃ z, z = hu (hu M3 lb tx (.inl (G.2.1 0, 4, .inl (fun _ => 0)))) ma tx (.inr (9, [.int 0, .ref q0, .ref fa, .ref lb, .int 0, .int 0])) := ⟨_, rfl⟩
  replace hM := hM.eq eM4.symm
  have nm4 : lb ≠ ma := fun z => by rw [z, hm3] at hlb; cases hlb
  have hm4 : M4 ma = some (tx, .inr (9, [.int 0, .ref q0, .ref fa, .ref lb, .int 0, .int 0])) := by rw [eM4]; exact hu_s
  have hA4 : M4 lb = some (tx, .inl (G.2.1 0, 4, .inl (fun _ => 0))) := by rw [eM4]; exact hu_n nm4 hu_s
  have hV4 : MdR G M4 t q0 Z1 (fun _ => 0) (fun _ _ _ => 0) 0 := by rw [eM4]; exact (hV3.new hlb).frame (Ne.symm d1) (Fr.up (hu_n (Ne.symm nm4) hm3))
  have hG4 : F3 tx t t2 M M4 := by rw [eM4]; exact F3.tr hG3 (F3.tr (F3.new hlb) (F3.up (hu_n (Ne.symm nm4) hm3) (Or.inr (Or.inl rfl))))
  have nfl : fa ≠ lb := fun z => by rw [← z, hA3] at hlb; cases hlb
  have hA34 : M4 fa = some (tx, .inl (G.2.1 0, 4, .inl (fun _ => 0))) := by rw [eM4]; exact hu_n nm3 (hu_n nfl hA3)
  have hO4 : XdR G M4 tx ma q0 fa lb 0 0 0 (fun _ => 0) (fun _ => 0) := ⟨hm4, hA34, hA4, nfl⟩
  refine lv_aload_n hx hb dX8_init_29 rfl (lv_at hl 0 rfl) ?_
  refine lv_sipush (v := (400 : Int32)) hx hb dX8_init_30 (by decide) ?_
  refine fp_X8_23 hx hb hts hown hK hM hO4.1 dX8_init_33 (fun H locs hM => ?_)
  obtain ⟨M5, eM5⟩ : ∃ z, z = hu M4 ma tx (.inr (9, [.int 0, .ref q0, .ref fa, .ref lb, .int 400, .int 0])) := ⟨_, rfl⟩
  replace hM := hM.eq eM5.symm
  have hO5 : XdR G M5 tx ma q0 fa lb 0 400 0 (fun _ => 0) (fun _ => 0) := by rw [eM5]; exact hO4.setO _ _ _
  have hV5 : MdR G M5 t q0 Z1 (fun _ => 0) (fun _ _ _ => 0) 0 := by rw [eM5]; exact hV4.frame (Ne.symm d1) (Fr.up hO4.1)
  have hG5 : F3 tx t t2 M M5 := by rw [eM5]; exact F3.tr hG4 (F3.up hO4.1 (Or.inr (Or.inl rfl)))
  refine lv_aload_n hx hb dX8_init_36 rfl (lv_at hl 0 rfl) ?_
  refine lv_sipush (v := (1000 : Int32)) hx hb dX8_init_37 (by decide) ?_
  refine fp_X8_27 hx hb hts hown hK hM hO5.1 dX8_init_40 (fun H locs hM => ?_)
  obtain ⟨M6, eM6⟩ : ∃ z, z = hu M5 ma tx (.inr (9, [.int 0, .ref q0, .ref fa, .ref lb, .int 400, .int 1000])) := ⟨_, rfl⟩
  replace hM := hM.eq eM6.symm
  have hO6 : XdR G M6 tx ma q0 fa lb 0 400 1000 (fun _ => 0) (fun _ => 0) := by rw [eM6]; exact hO5.setO _ _ _
  have hV6 : MdR G M6 t q0 Z1 (fun _ => 0) (fun _ _ _ => 0) 0 := by rw [eM6]; exact hV5.frame (Ne.symm d1) (Fr.up hO5.1)
  have hG6 : F3 tx t t2 M M6 := by rw [eM6]; exact F3.tr hG5 (F3.up hO5.1 (Or.inr (Or.inl rfl)))
  exact g_vret hx hb hr hlocks hM (Nat.le_of_ble_eq_true rfl) (Nat.le_of_ble_eq_true rfl) ⟨q0, fa, lb, hO6, ⟨Z1, hV6⟩, hG6⟩ dX8_init_43

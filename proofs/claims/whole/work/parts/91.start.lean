theorem nfX6 : ∀ j, j < 3 → defaultValue (tyX6 j) = vp_V [.null, .null, .null] j := by
  intro j hj
  match j, hj with
  | 0, _ => rfl
  | 1, _ => rfl
  | 2, _ => rfl
theorem nfX8 : ∀ j, j < 6 → defaultValue (tyX8 j) = vp_V [.int 0, .null, .null, .null, .int 0, .int 0] j := by
  intro j hj
  match j, hj with
  | 0, _ => rfl
  | 1, _ => rfl
  | 2, _ => rfl
  | 3, _ => rfl
  | 4, _ => rfl
  | 5, _ => rfl
/-- both lands, when they begin -/
theorem St.zero {T0 : Tb} : St (fun _ => 0) T0 (fun _ _ _ => 0) 1000 (fun _ => 0) (fun _ => 0) 0 := by
  refine ⟨⟨⟨fun i hi => absurd hi (Nat.not_lt_zero _), fun i hi => absurd hi (Nat.not_lt_zero _), fun i hi => absurd hi (Nat.not_lt_zero _), fun i hi => absurd hi (Nat.not_lt_zero _)⟩, rfl, rfl, fun g _ => rfl, fun g _ => rfl, fun j hj => absurd hj (Nat.not_lt_zero _)⟩, ⟨Nat.zero_le _, Nat.zero_le _, Nat.zero_le _, Nat.zero_le _⟩, Nat.le_refl _⟩
set_option maxHeartbeats 4000000 in
set_option maxRecDepth 100000 in
theorem law_go {p : Program} {l : Launch} {e : Env} {s : State} {m : MethodId} {args : Array Value} {below : List Frame} {meth : Method} {c : Code} {Q : State → Prop} {G : GG} {b L : Nat} {xs : Nat → Int32} (C : LH p l s m args c G b L xs) (hend : ∀ (M : HM) (H : Heap) (locs : List Loc) (ls : Array Slot) (cells slots : Nat), Wd G M s H locs → cells ≤ 601024 → slots ≤ 7293034 → W p l e room_1 s m args below meth c H locs cells slots Q (F0 m 1859 ls [])) (ls : Array Slot) (hl : lv_has ls 9 [(0, .ref b)]) (hM : Wd G (fun _ => none) s s.heap []) : W p l e room_1 s m args below meth c s.heap [] 0 0 Q (F0 m 0 ls []) := by
  have C0 := C
  obtain ⟨hx, hb, hml, hown, hts, hY, hK, hX, hst, hSc, hbl, hbA, hL⟩ := C
  refine g_new (ci := 7) (fs := [.null, .null, .null]) hx hb hts hown hK hM iaX6 rfl tyX6 tyX6_ok wk_L_8 wb_X6 wn_X6 nfX6 1 (Nat.le_of_ble_eq_true rfl) (Nat.le_of_ble_eq_true rfl) dL_law_0 (fun xa H hq0 hM => ?_)
  refine lv_dup hx hb dL_law_3 rfl ?_
  refine g_callIv (n9 := 0) (As := []) (rest := [.ref xa]) hx hb hml hl.1 hown hts hK hM (c_X6_init l G _ xa 1 2 3 4 (fun _ _ _ => 0) (fun _ _ _ => 0) hu_s (by decide) (by decide) (by decide) (by decide) (by decide) (by decide) (by decide) (by decide) (by decide)) wm_L_88 wi_X6_init wn_X6 rfl wc_X6_init (by decide +kernel) ⟨Nat.le_of_ble_eq_true rfl, Nat.le_of_ble_eq_true rfl⟩ ⟨Nat.le_of_ble_eq_true rfl, Nat.le_of_ble_eq_true rfl⟩ rfl (Nat.le_of_ble_eq_true rfl) rfl dL_law_4 (fun M1 H locs hq hM => ?_)
  obtain ⟨h0, h2, h3, Y, Yt, ft, c1, c2, c3, c4, -⟩ := hq
  refine lv_astore_n (lv' := [(1, .ref xa), (0, .ref b)]) hx hb dL_law_7 rfl hl (by decide) rfl (fun ls hl => ?_)
  have cp1 : CP G M1 xa (fun _ => 0) (fun _ _ _ => 0) 0 400 1000 (fun _ => 0) := ⟨h0, h2, h3, Y, Yt, _, _, _, _, ft, c1, c2, c3, c4⟩
  refine g_new (ci := 9) (fs := [.int 0, .null, .null, .null, .int 0, .int 0]) hx hb hts hown hK hM iaX8 rfl tyX8 tyX8_ok wk_L_89 wb_X8 wn_X8 nfX8 5 (Nat.le_of_ble_eq_true rfl) (Nat.le_of_ble_eq_true rfl) dL_law_8 (fun ma H hq1 hM => ?_)
  have cp2 := cp1.sv (Sv.nw (r := 5) (e := .inr (9, [.int 0, .null, .null, .null, .int 0, .int 0])) hq1)
  refine lv_dup hx hb dL_law_11 rfl ?_
  refine g_callIv (n9 := 0) (As := []) (rest := [.ref ma]) hx hb hml hl.1 hown hts hK hM (c_X8_init l G _ ma 5 6 7 hu_s (by decide)) wm_L_91 wi_X8_init wn_X8 rfl wc_X8_init (by decide +kernel) ⟨Nat.le_of_ble_eq_true rfl, Nat.le_of_ble_eq_true rfl⟩ ⟨Nat.le_of_ble_eq_true rfl, Nat.le_of_ble_eq_true rfl⟩ rfl (Nat.le_of_ble_eq_true rfl) rfl dL_law_12 (fun M2 H locs hq hM => ?_)
  obtain ⟨k0, fa, lb, hXP⟩ := hq
  have rp1 := RP.of hXP
  have cp3 := cp2.sv (Sv.f3 (M' := M2) hXP.2.2 (by decide) (by decide) (by decide))
  refine lv_astore_n (lv' := [(2, .ref ma), (1, .ref xa), (0, .ref b)]) hx hb dL_law_15 rfl hl (by decide) rfl (fun ls hl => ?_)
  refine lv_iconst (v := (1 : Int32)) hx hb dL_law_16 (by decide) ?_
  refine g_newa (atype := .long) (j := 3) (ty := .long) (a0 := (1, .inr (.inl (fun _ => 0)))) hx hb hK hM hts wa_long rfl rfl (fun _ => rfl) (by decide) rfl (by decide) 8 (Nat.le_of_ble_eq_true rfl) (Nat.le_of_ble_eq_true rfl) dL_law_17 (fun oa H hq2 hM => ?_)
  have cp4 := cp3.sv (Sv.nw (r := 8) (e := .inl (G.2.1 3, 1, .inr (.inl (fun _ => 0)))) hq2)
  have rp2 := rp1.sv (Sv.nw (r := 8) (e := .inl (G.2.1 3, 1, .inr (.inl (fun _ => 0)))) hq2)
  refine lv_astore_n (lv' := [(3, .ref oa), (2, .ref ma), (1, .ref xa), (0, .ref b)]) hx hb dL_law_19 rfl hl (by decide) rfl (fun ls hl => ?_)
  refine lv_iconst (v := nI (7 * 0)) hx hb dL_law_20 (by decide) ?_
  refine lv_istore (lv' := [(4, .int (nI (7 * 0))), (3, .ref oa), (2, .ref ma), (1, .ref xa), (0, .ref b)]) hx hb dL_law_21 hl (by decide) rfl (fun ls hl => ?_)
  exact law_loop C0 hend 512 0 rfl _ H _ ls _ _ hM ⟨_, _, _, _, _, _, _, _, _, cp4, rp2, ⟨_, hu_s⟩, St.zero, ⟨Nat.le_refl _, Nat.le_refl _, Nat.le_refl _, Nat.le_refl _, rfl⟩, rfl, rfl⟩ (lv_sub hl [4, 3, 2, 1, 0] rfl)

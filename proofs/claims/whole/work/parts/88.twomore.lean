section GZ
variable {p : Program} {l : Launch} {e : Env} {R : Room} {s : State} {m : MethodId} {args : Array Value} {below : List Frame} {meth : Method} {c : Code} {H : Heap} {locs : List Loc} {cells slots : Nat} {Q : State → Prop}
variable {cc9 bytes : ByteArray} {pc nL n9 maxL fr lo mc ms index : Nat} {As rest : List Value} {own C : String} {y : MethodName} {ret : Option FieldType}
variable {ls : Array Slot} {G : GG} {M : HM} {b L q xa ma oa cc : Nat} {xs : Nat → Int32}
theorem g_callVd {st0 : List Value} (hx : p.tables.exec = Jvm.exec) (hb : c.code = cc9) (hml : c.maxLocals = nL) (hls : ls.size = nL) (hown : s.vm.findClass own = some m.cls) (hts : ∀ w ∈ AL, w.before args s = true) (hK : Kw G s) (hM : Wd G M s H locs) {P : UInt64 → HM → Prop} (hC : Md l y (.code y bytes maxL ret :: AL) fr lo mc ms (.ref b :: As) G M P) (hlk : Cond.methodLink own index y ∈ AL) (hin : Cond.instanceMethod y ∈ AL) (hsel : Cond.selects y.cls y y ∈ AL) (hini : Cond.initialized y.cls ∈ AL) (hcd : Cond.code y bytes maxL ret ∈ AL) (hd : okM y n9) (hrv : ∃ cell : Cell, H[b]? = some cell ∧ cell.vm.isStatics = false ∧ s.vm.findClass y.cls = some cell.cls) (hR : fr + 1 ≤ R.frames ∧ 8 + (maxL + 11) + lo ≤ R.locals) (hf : cells + mc ≤ R.cells ∧ slots + ms ≤ R.slots) (hn : As.length = n9) (hst : (rest.map fun v => v.category).sum ≤ 8) (hst0 : st0 = As.reverse ++ .ref b :: rest) (hdg : decode cc9 pc = .ok (.invokevirtual index, 3))
    (kk : ∀ (r : UInt64) (M1 : HM) (H : Heap) (locs : List Loc), P r M1 → Wd G M1 s H locs → W p l e R s m args below meth c H locs (cells + mc) (slots + ms) Q (F0 m (pc + 3) ls (.double r :: rest))) : W p l e R s m args below meth c H locs cells slots Q (F0 m pc ls (st0)) :=
  va_calld (va_runV (As := As) (rest := rest) ⟨hx, hb, hml, hown, hts⟩ hC ⟨callB_of n9 hts (al_in hcd) rfl rfl rfl (hts _ hini) (hts _ hlk) hd hR, hts _ hin, hts _ hsel⟩ ⟨gP.blind, hrv, fun U hU hW => hM.pre hK hU hW⟩ rfl hn hls hst0 (lv_room hst) hdg hf) hM.2.1 (fun _ _ h => h) (fun _ h => h) (fun r u t H1 locs1 ht hvm hp hB hz hk hS1 => kk r u H1 locs1 hp ⟨by rw [← ht]; exact hB, hS1, hM.2.2⟩)
theorem g_callYl {st0 : List Value} (hx : p.tables.exec = Jvm.exec) (hb : c.code = cc9) (hml : c.maxLocals = nL) (hls : ls.size = nL) (hown : s.vm.findClass own = some m.cls) (hts : ∀ w ∈ AL, w.before args s = true) (hK : Kw G s) (hX : Kx G s s.heap) (hM : Wd G M s H locs) {P : Int64 → HM → Prop} (hC : Yl l y (.code y bytes maxL ret :: AL) fr lo mc ms (.ref b :: As) G M P) (hlk : Cond.methodLink own index y ∈ AL) (hin : Cond.instanceMethod y ∈ AL) (hsel : Cond.selects y.cls y y ∈ AL) (hini : Cond.initialized y.cls ∈ AL) (hcd : Cond.code y bytes maxL ret ∈ AL) (hd : okM y n9) (hrv : ∃ cell : Cell, H[b]? = some cell ∧ cell.vm.isStatics = false ∧ s.vm.findClass y.cls = some cell.cls) (hR : fr + 1 ≤ R.frames ∧ 8 + (maxL + 11) + lo ≤ R.locals) (hf : cells + mc ≤ R.cells ∧ slots + ms ≤ R.slots) (hn : As.length = n9) (hst : (rest.map fun v => v.category).sum ≤ 8) (hst0 : st0 = As.reverse ++ .ref b :: rest) (hdg : decode cc9 pc = .ok (.invokevirtual index, 3))
    (kk : ∀ (r : Int64) (M1 : HM) (H : Heap) (locs : List Loc), P r M1 → Wd G M1 s H locs → W p l e R s m args below meth c H locs (cells + mc) (slots + ms) Q (F0 m (pc + 3) ls (.long r :: rest))) : W p l e R s m args below meth c H locs cells slots Q (F0 m pc ls (st0)) :=
  va_calll (va_runV (As := As) (rest := rest) ⟨hx, hb, hml, hown, hts⟩ hC ⟨callB_of n9 hts (al_in hcd) rfl rfl rfl (hts _ hini) (hts _ hlk) hd hR, hts _ hin, hts _ hsel⟩ ⟨gPx.blind, hrv, fun U hU hW => hM.preX hK hX hU hW⟩ rfl hn hls hst0 (lv_room hst) hdg hf) hM.2.1 (fun _ _ h => h) (fun _ h => h) (fun r u t H1 locs1 ht hvm hp hB hz hk hS1 => kk r u H1 locs1 hp ⟨by rw [← ht]; exact hB, hS1, hM.2.2⟩)
set_option maxHeartbeats 4000000 in
set_option maxRecDepth 100000 in
theorem l_meanDamp (C : LH p l s m args c G b L xs) (hM : Wd G M s H locs) (hS : LwS G M xa ma oa cc cells slots) (hcc : cc < 512) (hl : lv_has ls 9 [(0, .ref b), (1, .ref xa), (2, .ref ma), (3, .ref oa), (4, .int (nI q))])
    (kk : ∀ (M' : HM) (H : Heap) (locs : List Loc) (ls : Array Slot) (cells' slots' : Nat), LwS G M' xa ma oa (cc + 1) cells' slots' → Wd G M' s H locs → lv_has ls 9 [(0, .ref b), (1, .ref xa), (2, .ref ma), (3, .ref oa), (4, .int (nI q))] → W p l e room_1 s m args below meth c H locs cells' slots' Q (F0 m 1853 ls [])) : W p l e room_1 s m args below meth c H locs cells slots Q (F0 m 1522 ls []) := by
  have C0 := C
  obtain ⟨hx, hb, hml, hown, hts, hY, hK, hX, hst, hSc, hbl, hbA, hL⟩ := C
  obtain ⟨N, T, U, now, price, money, F, Lx, Nt, ⟨h0, h2, h3, Y, Yt, Tt, a1, a2, a3, ft, c1, c2, c3, c4⟩, ⟨k0, fa, lb, th, Z, r1, r2⟩, ⟨fo, o1⟩, hSt, hnt, ec, es⟩ := hS
  have hN := hSt.2.1
  have hn4 := hSt.n4
  obtain ⟨n0, n1, n2, n3⟩ := id hN
  obtain ⟨t0, t1, t2, t3, t4⟩ := id hnt
  have tb : s4 Nt ≤ 19 := by show Nt 0 + Nt 1 + Nt 2 + Nt 3 ≤ 19; omega
  obtain ⟨sn, esn⟩ : ∃ z, z = s4 Nt := ⟨_, rfl⟩
  rw [← esn] at ec es tb
  have bud : cells ≤ 601024 ∧ slots ≤ 7293034 := ⟨by rw [ec]; unfold CB; omega, by rw [es]; unfold SB; omega⟩
  refine lv_aload_n hx hb dL_law_1522 rfl (lv_at hl 1 rfl) ?_
  refine g_callVd (n9 := 0) (As := []) (rest := []) hx hb hml hl.1 hown hts hK hM (c_X6_meanDamp l G M xa 1 h2 h3 2 h0 Y N T 0 now price money c1 c2) wm_L_162 wi_X6_meanDamp wl_X6_meanDamp wn_X6 wc_X6_meanDamp (by decide +kernel) (hM.recv hK (ci := 7) rfl c1) ⟨Nat.le_of_ble_eq_true rfl, Nat.le_of_ble_eq_true rfl⟩ bud rfl (Nat.le_of_ble_eq_true rfl) rfl dL_law_1523 (fun r M1 H locs hq hM => ?_)
  obtain ⟨er, eM⟩ := hq
  replace hM := hM.eq eM
  refine lv_dstore (lv' := [(5, .double r), (0, .ref b), (1, .ref xa), (2, .ref ma), (3, .ref oa), (4, .int (nI q))]) hx hb dL_law_1526 hl (by decide) rfl (fun ls hl => ?_)
  refine lv_aload_n hx hb dL_law_1528 rfl (lv_at hl 3 rfl) ?_
  refine g_callVd (n9 := 0) (As := []) (rest := []) hx hb hml hl.1 hown hts hK hM (c_X8_meanDamp l G M 5 ma k0 fa lb 6 7 Z N U now th price money F Lx r1 r2 (by decide) (by decide) (by decide)) wm_L_166 wi_X8_meanDamp wl_X8_meanDamp wn_X8 wc_X8_meanDamp (by decide +kernel) (hM.recv hK (ci := 9) rfl r1.1) ⟨Nat.le_of_ble_eq_true rfl, Nat.le_of_ble_eq_true rfl⟩ bud rfl (Nat.le_of_ble_eq_true rfl) rfl dL_law_1529 (fun r8 M2 H locs hq hM => ?_)
  obtain ⟨er8, hXP⟩ := hq
  have e8 : r8 = r := er8.trans ((as_mean hSt).symm.trans er.symm)
  subst e8
  obtain ⟨hO2, ⟨Z2, hL2⟩, hF3⟩ := id hXP
  have o2 : M2 oa = some (8, loE G fo) := hF3 _ _ _ (by decide) (by decide) (by decide) o1
  have hcp := CP.sv (M := M) (xa := xa) (Nt := Nt) ⟨h0, h2, h3, Y, Yt, Tt, a1, a2, a3, ft, c1, c2, c3, c4⟩ (Sv.f3 (M' := M2) hF3 (by decide) (by decide) (by decide))
  have hrp := RP.of hXP
  have fin : ∀ (ls : Array Slot), lv_has ls 9 [(7, .double r8), (5, .double r8), (0, .ref b), (1, .ref xa), (2, .ref ma), (3, .ref oa), (4, .int (nI q))] → W p l e room_1 s m args below meth c H locs cells slots Q (F0 m 1560 ls []) := by
    intro ls hl
    refine lv_goto (tgt := 1853) hx hb dL_law_1560 (by decide) ?_
    exact W.widen (by rw [← esn]; rw [ec]; unfold CB; omega) (by rw [← esn]; rw [es]; unfold SB; omega) (kk M2 H locs ls _ _ ⟨_, _, _, _, _, _, _, _, Nt, hcp, hrp, ⟨_, o2⟩, hSt.le (Nat.le_succ _), hnt, rfl, rfl⟩ hM (lv_sub hl [2, 3, 4, 5, 6] rfl))
  refine lv_dstore (lv' := [(7, .double r8), (5, .double r8), (0, .ref b), (1, .ref xa), (2, .ref ma), (3, .ref oa), (4, .int (nI q))]) hx hb dL_law_1532 hl (by decide) rfl (fun ls hl => ?_)
  refine lv_dload hx hb dL_law_1534 (lv_at hl 1 rfl) ?_
  refine lv_dload hx hb dL_law_1536 (lv_at hl 0 rfl) ?_
  refine lv_dcmp hx hb dL_law_1538 ?_
  obtain ⟨v, hv0⟩ : ∃ v, v = Op.cmpValue (FP.dcmp r8 r8) CmpOp.l := ⟨_, rfl⟩
  rw [← hv0]
  refine lv_if_eq (tgt := 1560) hx hb dL_law_1539 (by decide) (fun hv => fin ls hl) (fun hv => ?_)
  refine lv_dload hx hb dL_law_1542 (lv_at hl 1 rfl) ?_
  refine lv_dload hx hb dL_law_1544 (lv_at hl 1 rfl) ?_
  refine lv_dcmp hx hb dL_law_1546 ?_
  rw [← hv0]
  refine lv_if_eq (tgt := 1558) hx hb dL_law_1547 (by decide) (fun h9 => absurd h9 hv) (fun _ => ?_)
  refine lv_dload hx hb dL_law_1550 (lv_at hl 0 rfl) ?_
  refine lv_dload hx hb dL_law_1552 (lv_at hl 0 rfl) ?_
  refine lv_dcmp hx hb dL_law_1554 ?_
  rw [← hv0]
  exact lv_if_ne (tgt := 1560) hx hb dL_law_1555 (by decide) (fun _ => fin ls hl) (fun h9 => absurd h9 hv)
set_option maxHeartbeats 4000000 in
set_option maxRecDepth 100000 in
theorem l_digest (C : LH p l s m args c G b L xs) (hM : Wd G M s H locs) (hS : LwS G M xa ma oa cc cells slots) (hcc : cc < 512) (hl : lv_has ls 9 [(0, .ref b), (1, .ref xa), (2, .ref ma), (3, .ref oa), (4, .int (nI q))])
    (kk : ∀ (M' : HM) (H : Heap) (locs : List Loc) (ls : Array Slot) (cells' slots' : Nat), LwS G M' xa ma oa (cc + 1) cells' slots' → Wd G M' s H locs → lv_has ls 9 [(0, .ref b), (1, .ref xa), (2, .ref ma), (3, .ref oa), (4, .int (nI q))] → W p l e room_1 s m args below meth c H locs cells' slots' Q (F0 m 1853 ls [])) : W p l e room_1 s m args below meth c H locs cells slots Q (F0 m 1839 ls []) := by
  have C0 := C
  obtain ⟨hx, hb, hml, hown, hts, hY, hK, hX, hst, hSc, hbl, hbA, hL⟩ := C
  obtain ⟨N, T, U, now, price, money, F, Lx, Nt, ⟨h0, h2, h3, Y, Yt, Tt, a1, a2, a3, ft, c1, c2, c3, c4⟩, ⟨k0, fa, lb, th, Z, r1, r2⟩, ⟨fo, o1⟩, hSt, hnt, ec, es⟩ := hS
  have hN := hSt.2.1
  have hn4 := hSt.n4
  obtain ⟨n0, n1, n2, n3⟩ := id hN
  obtain ⟨t0, t1, t2, t3, t4⟩ := id hnt
  have tb : s4 Nt ≤ 19 := by show Nt 0 + Nt 1 + Nt 2 + Nt 3 ≤ 19; omega
  obtain ⟨sn, esn⟩ : ∃ z, z = s4 Nt := ⟨_, rfl⟩
  rw [← esn] at ec es tb
  obtain ⟨dd, edd⟩ : ∃ z, z = ((ntC N Nt T (N 1) 0 + ntC N Nt T (N 1) 1 + ntC N Nt T (N 1) 2 + ntC N Nt T (N 1) 3) - (Nt 0 + Nt 1 + Nt 2 + Nt 3)) := ⟨_, rfl⟩
  have b0 := ntC_b (N := N) (Nt := Nt) (T := T) (k := 0) (by decide) t0 (N 1)
  have b1 := ntC_b (N := N) (Nt := Nt) (T := T) (k := 1) (by decide) t1 (N 1)
  have b2 := ntC_b (N := N) (Nt := Nt) (T := T) (k := 2) (by decide) t2 (N 1)
  have b3 := ntC_b (N := N) (Nt := Nt) (T := T) (k := 3) (by decide) t3 (N 1)
  have hdd : sn + dd = ntC N Nt T (N 1) 0 + ntC N Nt T (N 1) 1 + ntC N Nt T (N 1) 2 + ntC N Nt T (N 1) 3 := by
    have : sn = Nt 0 + Nt 1 + Nt 2 + Nt 3 := esn
    omega
  have hdd2 : sn + dd ≤ 19 := by omega
  refine lv_aload_n hx hb dL_law_1839 rfl (lv_at hl 1 rfl) ?_
  refine g_callYl (n9 := 0) (As := []) (rest := []) hx hb hml hl.1 hown hts hK hX hM (c_X6_digest l hst G M xa 1 h2 h3 2 h0 Y N T 0 now price money c1 c2 3 Yt Nt Tt 1 a1 a2 a3 c3 4 ft c4 (by decide) (by decide) (by decide) (by decide) (by decide) (by decide) (by decide) ⟨t0, by omega⟩ ⟨t1, by omega⟩ ⟨t2, by omega⟩ ⟨t3, by omega⟩ t4 (fun i hi => ((show Sm N 0 T U from hSt.1.1).2.1 i hi).2.2.2.2.1) (by decide)) wm_L_176 wi_X6_digest wl_X6_digest wn_X6 wc_X6_digest (by decide +kernel) (hM.recv hK (ci := 7) rfl c1) ⟨Nat.le_of_ble_eq_true rfl, Nat.le_of_ble_eq_true rfl⟩ ⟨by show cells + _ ≤ 601024; rw [← edd]; rw [ec]; unfold CB; omega, by show slots + _ ≤ 7293034; rw [← edd]; rw [es]; unfold SB; omega⟩ rfl (Nat.le_of_ble_eq_true rfl) rfl dL_law_1840 (fun r M1 H locs hq hM => ?_)
  obtain ⟨er, w1, w2, ⟨f9, w3⟩, ⟨Y9, T9, x1, x2, x3, w4⟩, w5⟩ := hq
  have hsr : Sv M M1 rR := fun q r e hr hq => w5 q r e (by rcases hr with z | z <;> rw [z] <;> decide) (by rcases hr with z | z <;> rw [z] <;> decide) hq
  have r1' := r1.same (fun q e hq => hsr _ _ _ (Or.inl rfl) hq)
  have r2' := r2.same (fun q e hq => hsr _ _ _ (Or.inr rfl) hq)
  have o1' : M1 oa = some (8, loE G fo) := w5 _ _ _ (by decide) (by decide) o1
  refine lv_aload_n hx hb dL_law_1843 rfl (lv_at hl 2 rfl) ?_
  refine g_callVl (n9 := 0) (As := []) (rest := [.long r]) hx hb hml hl.1 hown hts hK hM (c_X8_digest l G M1 5 ma k0 fa lb 6 7 Z N U now th price money F Lx r1' r2' (by decide) (by decide) (by decide) (fun c hc => Sm.trOK hN hSt.1.1 hc)) wm_L_180 wi_X8_digest wl_X8_digest wn_X8 wc_X8_digest (by decide +kernel) (hM.recv hK (ci := 9) rfl r1'.1) ⟨Nat.le_of_ble_eq_true rfl, Nat.le_of_ble_eq_true rfl⟩ ⟨by show cells + _ + 1149 ≤ 601024; rw [← edd]; rw [ec]; unfold CB; omega, by show slots + _ + 11161 ≤ 7293034; rw [← edd]; rw [es]; unfold SB; omega⟩ rfl (Nat.le_of_ble_eq_true rfl) rfl dL_law_1844 (fun r8 M2 H locs hq hM => ?_)
  obtain ⟨er8, hXP⟩ := hq
  have e8 : r8 = r := er8.trans ((as_digest hSt (by omega)).symm.trans er.symm)
  subst e8
  obtain ⟨hO2, ⟨Z2, hL2⟩, hF3⟩ := id hXP
  have o2 : M2 oa = some (8, loE G fo) := hF3 _ _ _ (by decide) (by decide) (by decide) o1'
  have hcp := CP.sv (M := M1) (xa := xa) (Nt := ntC N Nt T (N 1)) ⟨h0, h2, h3, Y, Y9, T9, x1, x2, x3, f9, w1, w2, w4, w3⟩ (Sv.f3 (M' := M2) hF3 (by decide) (by decide) (by decide))
  have hrp := RP.of hXP
  refine W.lcmp hx hb dL_law_1847 ?_
  rw [cmp_s]
  refine lv_if_eq (tgt := 1853) hx hb dL_law_1848 (by decide) (fun _ => ?_) (fun z => absurd rfl z)
  have e4 : s4 (ntC N Nt T (N 1)) = sn + dd := hdd.symm
  exact W.widen (by rw [e4]; rw [← edd]; rw [ec]; unfold CB; omega) (by rw [e4]; rw [← edd]; rw [es]; unfold SB; omega) (kk M2 H locs ls _ _ ⟨_, _, _, _, _, _, _, _, ntC N Nt T (N 1), hcp, hrp, ⟨_, o2⟩, hSt.le (Nat.le_succ _), ⟨b0.2, b1.2, b2.2, b3.2, ntC_4 t4 (N 1)⟩, rfl, rfl⟩ hM hl)
end GZ

section LP
variable {p : Program} {l : Launch} {e : Env} {s : State} {m : MethodId} {args : Array Value} {below : List Frame} {meth : Method} {c : Code} {Q : State → Prop}
variable {G : GG} {b L xa ma oa : Nat} {xs : Nat → Int32}
theorem LwS.fit {M : HM} {cc cells slots : Nat} (h : LwS G M xa ma oa cc cells slots) (hcc : cc ≤ 512) : cells ≤ 601024 ∧ slots ≤ 7293034 := by
  obtain ⟨N, T, U, now, price, money, F, Lx, Nt, -, -, -, hSt, hnt, ec, es⟩ := h
  obtain ⟨n0, n1, n2, n3⟩ := id hSt.2.1
  obtain ⟨t0, t1, t2, t3, t4⟩ := hnt
  have hn4 := hSt.n4
  have tb : s4 Nt ≤ 19 := by show Nt 0 + Nt 1 + Nt 2 + Nt 3 ≤ 19; omega
  rw [ec, es]
  unfold CB SB
  omega
theorem LwS.up {M : HM} {cc cells slots : Nat} (h : LwS G M xa ma oa cc cells slots) : LwS G M xa ma oa (cc + 1) (cells + 1169) (slots + 11281) := by
  obtain ⟨N, T, U, now, price, money, F, Lx, Nt, h1, h2, h3, hSt, hnt, ec, es⟩ := h
  exact ⟨N, T, U, now, price, money, F, Lx, Nt, h1, h2, h3, hSt.le (Nat.le_succ _), hnt, by rw [ec]; unfold CB; omega, by rw [es]; unfold SB; omega⟩
set_option maxHeartbeats 4000000 in
set_option maxRecDepth 100000 in
theorem law_loop (C : LH p l s m args c G b L xs) (hend : ∀ (M : HM) (H : Heap) (locs : List Loc) (ls : Array Slot) (cells slots : Nat), Wd G M s H locs → cells ≤ 601024 → slots ≤ 7293034 → W p l e room_1 s m args below meth c H locs cells slots Q (F0 m 1859 ls [])) : ∀ (n cc : Nat), cc + n = 512 → ∀ (M : HM) (H : Heap) (locs : List Loc) (ls : Array Slot) (cells slots : Nat), Wd G M s H locs → LwS G M xa ma oa cc cells slots → lv_has ls 9 [(0, .ref b), (1, .ref xa), (2, .ref ma), (3, .ref oa), (4, .int (nI (7 * cc)))] → W p l e room_1 s m args below meth c H locs cells slots Q (F0 m 23 ls []) := by
  have C0 := C
  obtain ⟨hx, hb, hml, hown, hts, hY, hK, hX, hst, hSc, hbl, hbA, hL⟩ := C
  intro n
  induction n with
  | zero =>
    intro cc hcn M H locs ls cells slots hM hS hl
    obtain ⟨f1, f2⟩ := hS.fit (by omega)
    refine lv_iload hx hb dL_law_23 (lv_at hl 4 rfl) ?_
    refine lv_aload_n hx hb dL_law_25 rfl (lv_at hl 0 rfl) ?_
    refine va_slen hx hb hSc hbl (A := gA G) hbA hM.2.1 dL_law_26 ?_
    refine lv_bipush (v := (7 : Int32)) hx hb dL_law_27 (by decide) ?_
    refine lv_isub hx hb dL_law_29 ?_
    refine lv_icmp_gt (tgt := 1859) hx hb dL_law_30 (by decide) (fun _ => hend M H locs ls cells slots hM f1 f2) (fun z => ?_)
    refine absurd (Int32.lt_iff_toInt_lt.mpr ?_) z
    have e7 : (7 : Int32).toInt = 7 := by decide
    have eL : (Int32.ofNat L).toInt = L := nI_toInt (n := L) (by omega)
    rw [ti_sub (by omega) (by omega), eL, e7, nI_toInt (by omega)]
    omega
  | succ n ih =>
    intro cc hcn M H locs ls cells slots hM hS hl
    obtain ⟨f1, f2⟩ := hS.fit (by omega)
    refine lv_iload hx hb dL_law_23 (lv_at hl 4 rfl) ?_
    refine lv_aload_n hx hb dL_law_25 rfl (lv_at hl 0 rfl) ?_
    refine va_slen hx hb hSc hbl (A := gA G) hbA hM.2.1 dL_law_26 ?_
    refine lv_bipush (v := (7 : Int32)) hx hb dL_law_27 (by decide) ?_
    refine lv_isub hx hb dL_law_29 ?_
    refine lv_icmp_gt (tgt := 1859) hx hb dL_law_30 (by decide) (fun _ => hend M H locs ls cells slots hM f1 f2) (fun z => ?_)
    have hq : 7 * cc + 7 ≤ L := by
      have e7 : (7 : Int32).toInt = 7 := by decide
      have eL : (Int32.ofNat L).toInt = L := nI_toInt (n := L) (by omega)
      have z2 := mt Int32.lt_iff_toInt_lt.mpr z
      rw [ti_sub (by omega) (by omega), eL, e7, nI_toInt (by omega)] at z2
      omega
    have hcc : cc < 512 := by omega
    have tail : ∀ (M' : HM) (H : Heap) (locs : List Loc) (ls : Array Slot) (cells' slots' : Nat), LwS G M' xa ma oa (cc + 1) cells' slots' → Wd G M' s H locs → lv_has ls 9 [(0, .ref b), (1, .ref xa), (2, .ref ma), (3, .ref oa), (4, .int (nI (7 * cc)))] → W p l e room_1 s m args below meth c H locs cells' slots' Q (F0 m 1853 ls []) := by
      intro M' H locs ls cells' slots' hS hM hl
      refine lv_iinc (v := nI (7 * (cc + 1))) (lv' := [(4, .int (nI (7 * (cc + 1)))), (0, .ref b), (1, .ref xa), (2, .ref ma), (3, .ref oa)]) hx hb dL_law_1853 hl (k := 4) rfl (by rw [show 7 * (cc + 1) = 7 * cc + 7 by omega]; exact nI_add (7 * cc) 7) (by decide) rfl (fun ls hl => ?_)
      refine lv_goto (tgt := 23) hx hb dL_law_1856 (by decide) ?_
      exact ih (cc + 1) (by omega) M' H locs ls cells' slots' hM hS (lv_sub hl [1, 2, 3, 4, 0] rfl)
    refine lv_aload_n hx hb dL_law_33 rfl (lv_at hl 0 rfl) ?_
    refine lv_iload hx hb dL_law_34 (lv_at hl 4 rfl) ?_
    refine va_sld hx hb hSc hbl (A := gA G) hbA hM.2.1 (vp_in_nI (show 7 * cc < L by omega) (by omega)) dL_law_36 ?_
    refine lv_bipush (v := (31 : Int32)) hx hb dL_law_37 (by decide) ?_
    refine lv_iand hx hb dL_law_39 ?_
    refine lv_topi (fun x _ => ?_)
    by_cases hin : x.toInt < 0 ∨ 23 < x.toInt
    · refine lv_tableOut (tgt := 1853) hx hb dL_law_40 hin (by decide) ?_
      exact W.widen (Nat.le_add_right _ _) (Nat.le_add_right _ _) (tail M H locs ls _ _ hS.up hM hl)
    · obtain ⟨k, hk, ek⟩ : ∃ k : Nat, k < 24 ∧ x.toInt = (k : Int) := ⟨x.toInt.toNat, by omega, by omega⟩
      have h1 : ¬ x.toInt < 0 := by omega
      have h2 : ¬ 23 < x.toInt := by omega
      match k, hk with
      | 0, _ =>
        refine lv_tableIn (off := 112) (tgt := 152) hx hb dL_law_40 h1 h2 (by rw [ek]; rfl) (by decide) ?_
        exact l_field C0 hM hS hcc hq hl tail
      | 1, _ =>
        refine lv_tableIn (off := 216) (tgt := 256) hx hb dL_law_40 h1 h2 (by rw [ek]; rfl) (by decide) ?_
        exact l_crop C0 hM hS hcc hq hl tail
      | 2, _ =>
        refine lv_tableIn (off := 296) (tgt := 336) hx hb dL_law_40 h1 h2 (by rw [ek]; rfl) (by decide) ?_
        exact l_combine C0 hM hS hcc hq hl tail
      | 3, _ =>
        refine lv_tableIn (off := 364) (tgt := 404) hx hb dL_law_40 h1 h2 (by rw [ek]; rfl) (by decide) ?_
        exact l_truck C0 hM hS hcc hq hl tail
      | 4, _ =>
        refine lv_tableIn (off := 420) (tgt := 460) hx hb dL_law_40 h1 h2 (by rw [ek]; rfl) (by decide) ?_
        exact l_elevator C0 hM hS hcc hq hl tail
      | 5, _ =>
        refine lv_tableIn (off := 538) (tgt := 578) hx hb dL_law_40 h1 h2 (by rw [ek]; rfl) (by decide) ?_
        exact l_price C0 hM hS hcc hq hl tail
      | 6, _ =>
        refine lv_tableIn (off := 594) (tgt := 634) hx hb dL_law_40 h1 h2 (by rw [ek]; rfl) (by decide) ?_
        exact l_cut C0 hM hS hcc hq hl tail
      | 7, _ =>
        refine lv_tableIn (off := 662) (tgt := 702) hx hb dL_law_40 h1 h2 (by rw [ek]; rfl) (by decide) ?_
        exact l_fetch C0 hM hS hcc hq hl tail
      | 8, _ =>
        refine lv_tableIn (off := 730) (tgt := 770) hx hb dL_law_40 h1 h2 (by rw [ek]; rfl) (by decide) ?_
        exact l_haul C0 hM hS hcc hq hl tail
      | 9, _ =>
        refine lv_tableIn (off := 798) (tgt := 838) hx hb dL_law_40 h1 h2 (by rw [ek]; rfl) (by decide) ?_
        exact l_stop C0 hM hS hcc hq hl tail
      | 10, _ =>
        refine lv_tableIn (off := 854) (tgt := 894) hx hb dL_law_40 h1 h2 (by rw [ek]; rfl) (by decide) ?_
        exact l_mend C0 hM hS hcc hq hl tail
      | 11, _ =>
        refine lv_tableIn (off := 910) (tgt := 950) hx hb dL_law_40 h1 h2 (by rw [ek]; rfl) (by decide) ?_
        exact l_train C0 hM hS hcc hq hl tail
      | 12, _ =>
        refine lv_tableIn (off := 978) (tgt := 1018) hx hb dL_law_40 h1 h2 (by rw [ek]; rfl) (by decide) ?_
        exact l_pass C0 hM hS hcc hq hl tail
      | 13, _ =>
        refine lv_tableIn (off := 1070) (tgt := 1110) hx hb dL_law_40 h1 h2 (by rw [ek]; rfl) (by decide) ?_
        exact l_ofField C0 hM hS hcc hq hl tail
      | 14, _ =>
        refine lv_tableIn (off := 1138) (tgt := 1178) hx hb dL_law_40 h1 h2 (by rw [ek]; rfl) (by decide) ?_
        exact l_ofCombine C0 hM hS hcc hq hl tail
      | 15, _ =>
        refine lv_tableIn (off := 1206) (tgt := 1246) hx hb dL_law_40 h1 h2 (by rw [ek]; rfl) (by decide) ?_
        exact l_ofTruck C0 hM hS hcc hq hl tail
      | 16, _ =>
        refine lv_tableIn (off := 1274) (tgt := 1314) hx hb dL_law_40 h1 h2 (by rw [ek]; rfl) (by decide) ?_
        exact l_ofTicket C0 hM hS hcc hq hl tail
      | 17, _ =>
        refine lv_tableIn (off := 1342) (tgt := 1382) hx hb dL_law_40 h1 h2 (by rw [ek]; rfl) (by decide) ?_
        exact l_owed C0 hM hS hcc hq hl tail
      | 18, _ =>
        refine lv_tableIn (off := 1426) (tgt := 1466) hx hb dL_law_40 h1 h2 (by rw [ek]; rfl) (by decide) ?_
        exact l_many C0 hM hS hcc hq hl tail
      | 19, _ =>
        refine lv_tableIn (off := 1482) (tgt := 1522) hx hb dL_law_40 h1 h2 (by rw [ek]; rfl) (by decide) ?_
        exact l_meanDamp C0 hM hS hcc hl tail
      | 20, _ =>
        refine lv_tableIn (off := 1523) (tgt := 1563) hx hb dL_law_40 h1 h2 (by rw [ek]; rfl) (by decide) ?_
        exact l_readyIn C0 hM hS hcc hq hl tail
      | 21, _ =>
        refine lv_tableIn (off := 1603) (tgt := 1643) hx hb dL_law_40 h1 h2 (by rw [ek]; rfl) (by decide) ?_
        exact l_nextField C0 hM hS hcc hq hl tail
      | 22, _ =>
        refine lv_tableIn (off := 1695) (tgt := 1735) hx hb dL_law_40 h1 h2 (by rw [ek]; rfl) (by decide) ?_
        exact l_waiting C0 hM hS hcc hq hl tail
      | 23, _ =>
        refine lv_tableIn (off := 1799) (tgt := 1839) hx hb dL_law_40 h1 h2 (by rw [ek]; rfl) (by decide) ?_
        exact l_digest C0 hM hS hcc hl tail
      | k9 + 24, hk9 => exact absurd hk9 (by omega)
end LP

/-! a round of the law: the same hours at once; who was sent has cut -/
section L4
variable {p : Program} {l : Launch} {e : Env} {s : State} {m : MethodId} {args : Array Value} {below : List Frame} {meth : Method} {c : Code} {H : Heap} {locs : List Loc} {cells slots : Nat} {Q : State → Prop}
variable {ls : Array Slot} {G : GG} {M : HM} {b L tt oo xa xo time k D Do n4 nw f wm ai hr : Nat} {xs : Nat → Int32} {B : Nat → Int32} {z z2 : Int32} {T : Tb} {now money : Int32}
variable {nx wt rd al : Int32} {T' : Tb}
set_option maxHeartbeats 4000000 in
set_option maxRecDepth 100000 in
theorem sg4 (C : LH p l s m args c G b L xs) (hM : Wd G M s H locs) (hT : TO G M 0 tt xa b D 4 2 2 2 B z (Nq (hrsP 4 2 2 2 0 (nI nw) 400 (nI wm) (nI ai) 0 hr (T', n4, money)).2.1) (hrsP 4 2 2 2 0 (nI nw) 400 (nI wm) (nI ai) 0 hr (T', n4, money)).1 (nI nw + nI hr) (hrsP 4 2 2 2 0 (nI nw) 400 (nI wm) (nI ai) 0 hr (T', n4, money)).2.2) (hO : TO G M 10 oo xo b Do 4 2 2 2 B z2 (Nq n4) T' (nI nw) money) (hI0 : Iv 4 2 2 T) (hI : Iv 4 2 2 T') (hf : f < 4) (hwm : wm ≤ 45) (hai : ai ≤ 100) (hh1 : 1 ≤ hr) (hh2 : hr ≤ 12) (hnw : nw + hr ≤ 2400) (hn4 : n4 ≤ 400) (hk9 : k < 100) (hse : ((T' = T ∧ (nx < 0 ∨ ¬ k % 2 = 0)) ∨ (k % 2 = 0 ∧ ∃ j, j < 4 ∧ nx = nI j ∧ 0 < bsP (Nq n4) T 1 (nI nw) 400 money (nI 0) (nI j) (nI hr) (nI wm) (nI ai) ∧ T' = tu T 1 0 (upd (T 1 0) 9 (nI j))))) (hc : cells + 200 ≤ 1048973 ∧ slots + 40000 ≤ 5954851) (hl : lv_has ls 24 [(18, .int (T' 1 0 10)), (17, .int (T 0 f 2 - T 0 f 5)), (16, .int (T 0 f 8)), (15, .int al), (14, .int nx), (13, .int wt), (12, .int rd), (9, .int (nI hr)), (8, .int (nI ai)), (7, .int (nI wm)), (6, .int (nI f)), (5, .int (nI k)), (0, .ref b), (1, .int (nI time)), (2, .ref tt), (3, .ref oo), (4, .ref xa)])
    (kk : ∀ (M1 : HM) (H : Heap) (locs : List Loc) (ls : Array Slot), TO G M1 0 tt xa b D 4 2 2 2 B z (Nq (hrsP 4 2 2 2 0 (nI nw) 400 (nI wm) (nI ai) 0 hr (T', n4, money)).2.1) (hrsP 4 2 2 2 0 (nI nw) 400 (nI wm) (nI ai) 0 hr (T', n4, money)).1 (nI nw + nI hr) (hrsP 4 2 2 2 0 (nI nw) 400 (nI wm) (nI ai) 0 hr (T', n4, money)).2.2 → TO G M1 10 oo xo b Do 4 2 2 2 B z2 (Nq (hrsP 4 2 2 2 0 (nI nw) 400 (nI wm) (nI ai) 0 hr (T', n4, money)).2.1) (hrsP 4 2 2 2 0 (nI nw) 400 (nI wm) (nI ai) 0 hr (T', n4, money)).1 (nI nw + nI hr) (hrsP 4 2 2 2 0 (nI nw) 400 (nI wm) (nI ai) 0 hr (T', n4, money)).2.2 → Wd G M1 s H locs → lv_has ls 24 [(18, .int (T' 1 0 10)), (17, .int (T 0 f 2 - T 0 f 5)), (16, .int (T 0 f 8)), (15, .int al), (14, .int nx), (13, .int wt), (12, .int rd), (9, .int (nI hr)), (8, .int (nI ai)), (7, .int (nI wm)), (6, .int (nI f)), (5, .int (nI k)), (0, .ref b), (1, .int (nI time)), (2, .ref tt), (3, .ref oo), (4, .ref xa)] → W p l e room_1 s m args below meth c H locs (cells + 110) (slots + 24932) Q (F0 m 461 ls [])) : W p l e room_1 s m args below meth c H locs cells slots Q (F0 m 401 ls []) := by
  obtain ⟨hx, hb, hml, hown, hts, hS, hK, hX, hst, hL⟩ := C
  obtain ⟨hc1, hc2⟩ := hc
  have eh : ix (nI hr) = hr := nI_clamp (by omega)
  have hIS := (hI.hrs (n3 := 2) (tr := 0) (now := nI nw) (price := 400) (w := nI wm) (a := nI ai) (r := 0) (money := money) (n := n4) (by decide) (by decide) hr).1
  refine lv_aload_n hx hb dL_law_401 rfl (lv_at hl 15 rfl) ?_
  obtain ⟨fa9, ca9, ta9, ea9, ka9, oa9, hc9⟩ := hO.cell
  refine fg_L_14 hx hb hts hown hK hM hc9 dL_law_402 ?_
  clear hc9
  refine lv_iload hx hb dL_law_405 (lv_at hl 7 rfl) ?_
  refine lv_iload hx hb dL_law_407 (lv_at hl 9 rfl) ?_
  refine lv_iload hx hb dL_law_409 (lv_at hl 8 rfl) ?_
  refine lv_iconst (v := (0 : Int32)) hx hb dL_law_411 (by decide) ?_
  have kp : kc_X6_pass (Nq n4) T' 0 (nI nw) 400 money (nI hr) (nI wm) (nI ai) (0 : Int32) = 0 := kz_pass hh1 (by omega) hwm hai hnw
  refine r_pass (hh := hr) eh hh2 hx hb hml hl.1 hown hts hK hX hst hM hO.wr hI (by omega) kp wm_L_57 ⟨Nat.le_of_ble_eq_true rfl, Nat.le_of_ble_eq_true rfl⟩ ⟨by show cells + (4 * hr + 1) ≤ 1048973; omega, by show slots + (2000 * hr + 6) ≤ 5954851; omega⟩ (Nat.le_of_ble_eq_true rfl) dL_law_412 (fun M1 H locs hw sx hM => ?_)
  replace hT := hT.sb (Sb.sx sx) (by omega)
  replace hO := hO.face hw sx
  clear hw sx
  refine lv_pop hx hb dL_law_415 rfl ?_
  refine lv_aload hx hb dL_law_416 (lv_at hl 16 rfl) ?_
  refine r_digest hx hb hml hl.1 hown hts hK hX hst hM hT.wr hIS wm_L_26 ⟨Nat.le_of_ble_eq_true rfl, Nat.le_of_ble_eq_true rfl⟩ ⟨by show cells + (4 * hr + 1) + 30 ≤ 1048973; omega, by show slots + (2000 * hr + 6) + 460 ≤ 5954851; omega⟩ (Nat.le_of_ble_eq_true rfl) dL_law_418 (fun M1 H locs hw sx hM => ?_)
  replace hO := hO.sb (Sb.sx sx) (by omega)
  replace hT := hT.face hw sx
  clear hw sx
  refine lv_aload_n hx hb dL_law_421 rfl (lv_at hl 15 rfl) ?_
  obtain ⟨fa9, ca9, ta9, ea9, ka9, oa9, hc9⟩ := hO.cell
  refine fg_L_14 hx hb hts hown hK hM hc9 dL_law_422 ?_
  clear hc9
  refine r_digest hx hb hml hl.1 hown hts hK hX hst hM hO.wr hIS wm_L_26 ⟨Nat.le_of_ble_eq_true rfl, Nat.le_of_ble_eq_true rfl⟩ ⟨by show cells + (4 * hr + 1) + 30 + 30 ≤ 1048973; omega, by show slots + (2000 * hr + 6) + 460 + 460 ≤ 5954851; omega⟩ (Nat.le_of_ble_eq_true rfl) dL_law_425 (fun M1 H locs hw sx hM => ?_)
  replace hT := hT.sb (Sb.sx sx) (by omega)
  replace hO := hO.face hw sx
  clear hw sx
  refine W.lcmp hx hb dL_law_428 ?_
  rw [cmp_s]
  refine lv_if_eq (tgt := 434) hx hb dL_law_429 (by decide) (fun _ => ?_) (fun z9 => absurd rfl z9)
  refine lv_iload hx hb dL_law_434 (lv_at hl 4 rfl) ?_
  refine lv_if_lt (tgt := 461) hx hb dL_law_436 (by decide) (fun c1 => ?_) (fun c1 => ?_)
  · refine W.widen (k := cells + 110) (n := slots + 24932) (by omega) (by omega) ?_
    exact kk _ _ _ _ hT hO hM hl
  · skip
    refine lv_iload hx hb dL_law_439 (lv_at hl 11 rfl) ?_
    refine lv_iconst (v := nI 2) hx hb dL_law_441 (by decide) ?_
    refine lv_irem hx hb dL_law_442 (nI_ne0 (by decide) (by decide)) ?_
    rw [pk_rem (by omega) (by decide) (by decide)]
    refine lv_if_ne (tgt := 461) hx hb dL_law_443 (by decide) (fun c2 => ?_) (fun c2 => ?_)
    · refine W.widen (k := cells + 110) (n := slots + 24932) (by omega) (by omega) ?_
      exact kk _ _ _ _ hT hO hM hl
    · skip
      refine lv_aload hx hb dL_law_446 (lv_at hl 16 rfl) ?_
      refine lv_iconst (v := nI 0) hx hb dL_law_448 (by decide) ?_
      refine lv_bipush (v := nI 6) hx hb dL_law_449 (by decide) ?_
      refine r_ofCombine hx hb hml hl.1 hown hts hK hX hst hM hT.wr kz_ofCombine wm_L_51 ⟨Nat.le_of_ble_eq_true rfl, Nat.le_of_ble_eq_true rfl⟩ ⟨by show cells + (4 * hr + 1) + 30 + 30 + 1 ≤ 1048973; omega, by show slots + (2000 * hr + 6) + 460 + 460 + 6 ≤ 5954851; omega⟩ (Nat.le_of_ble_eq_true rfl) dL_law_451 (fun H locs hM => ?_)
      rw [qc_6]
      refine lv_iload hx hb dL_law_454 (lv_at hl 0 rfl) ?_
      refine lv_icmp_ne (tgt := 461) hx hb dL_law_456 (by decide) (fun c3 => ?_) (fun c3 => ?_)
      · refine W.widen (k := cells + 110) (n := slots + 24932) (by omega) (by omega) ?_
        exact kk _ _ _ _ hT hO hM hl
      · exfalso
        have hk2 : k % 2 = 0 := (nI_eq (a := k % 2) (b := 0) (by omega) (by decide)).mp (c2.trans nI_0.symm)
        rcases hse with ⟨-, q | q⟩ | ⟨-, j, hj, ej, hbs, eT'⟩
        · exact c1 q
        · exact q hk2
        · have z := bs_cut (N := Nq n4) (T := T) (now := nI nw) (price := 400) (money := money) (price' := 400) (money' := money) (f := nI j) (h := nI hr) (w := nI wm) (a := nI ai) (c := 0) (n := n4) hI0 (Nat.le_of_ble_eq_true rfl) (Nat.le_of_ble_eq_true rfl) (by rw [eh]; omega) (by show 0 < 2; decide) hbs
          rw [eh, ← eT'] at z
          have e10 : T' 1 0 10 = T 1 0 10 := by rw [eT', tu_s]; exact upd_o (by decide)
          exact z (c3.trans e10)
end L4

/-! a round of the law: what waiting costs; who is alone keeps its acres -/
section L5
variable {p : Program} {l : Launch} {e : Env} {s : State} {m : MethodId} {args : Array Value} {below : List Frame} {meth : Method} {c : Code} {H : Heap} {locs : List Loc} {cells slots : Nat} {Q : State → Prop}
variable {ls : Array Slot} {G : GG} {M : HM} {b L tt oo xa xo time k D Do n4 nw f wm ai hr : Nat} {xs : Nat → Int32} {B : Nat → Int32} {z z2 : Int32} {T : Tb} {now money : Int32}
variable {nx wt rd al : Int32} {T' : Tb}
set_option maxHeartbeats 4000000 in
set_option maxRecDepth 100000 in
theorem sg5 (C : LH p l s m args c G b L xs) (hM : Wd G M s H locs) (hT : TO G M 0 tt xa b D 4 2 2 2 B z (Nq (hrsP 4 2 2 2 0 (nI nw) 400 (nI wm) (nI ai) 0 hr (T', n4, money)).2.1) (hrsP 4 2 2 2 0 (nI nw) 400 (nI wm) (nI ai) 0 hr (T', n4, money)).1 (nI nw + nI hr) (hrsP 4 2 2 2 0 (nI nw) 400 (nI wm) (nI ai) 0 hr (T', n4, money)).2.2) (hO : TO G M 10 oo xo b Do 4 2 2 2 B z2 (Nq (hrsP 4 2 2 2 0 (nI nw) 400 (nI wm) (nI ai) 0 hr (T', n4, money)).2.1) (hrsP 4 2 2 2 0 (nI nw) 400 (nI wm) (nI ai) 0 hr (T', n4, money)).1 (nI nw + nI hr) (hrsP 4 2 2 2 0 (nI nw) 400 (nI wm) (nI ai) 0 hr (T', n4, money)).2.2) (hI0 : Iv 4 2 2 T) (hI : Iv 4 2 2 T') (hf : f < 4) (hwm : wm ≤ 45) (hai : ai ≤ 100) (hh1 : 1 ≤ hr) (hh2 : hr ≤ 12) (hnw : nw + hr ≤ 2400) (hn4 : n4 ≤ 400) (hk9 : k < 100) (hse : ((T' = T ∧ (nx < 0 ∨ ¬ k % 2 = 0)) ∨ (k % 2 = 0 ∧ ∃ j, j < 4 ∧ nx = nI j ∧ 0 < bsP (Nq n4) T 1 (nI nw) 400 money (nI 0) (nI j) (nI hr) (nI wm) (nI ai) ∧ T' = tu T 1 0 (upd (T 1 0) 9 (nI j))))) (hal : (al = 0 ∨ ∀ i, i < 2 → ¬ T 1 i 9 = nI f)) (hB : T 0 f 3 = B f) (ewt : wt = (t_X2_uncut_0 (T 0 f 2) (T 0 f 5)) * ((t_X2_brings_0 (T 0 f 3) (T 0 f 8)) - (t_X2_brings_0 (fhP (nI nw) (nI wm) (nI ai) 0 hr (T 0 f) 3) (fhP (nI nw) (nI wm) (nI ai) 0 hr (T 0 f) 8)))) (hc : cells + 200 ≤ 1048973 ∧ slots + 40000 ≤ 5954851) (hl : lv_has ls 24 [(18, .int (T' 1 0 10)), (17, .int (T 0 f 2 - T 0 f 5)), (16, .int (T 0 f 8)), (15, .int al), (14, .int nx), (13, .int wt), (12, .int rd), (9, .int (nI hr)), (8, .int (nI ai)), (7, .int (nI wm)), (6, .int (nI f)), (5, .int (nI k)), (0, .ref b), (1, .int (nI time)), (2, .ref tt), (3, .ref oo), (4, .ref xa)])
    (kk : ∀ (M1 : HM) (H : Heap) (locs : List Loc) (ls : Array Slot), TO G M1 0 tt xa b D 4 2 2 2 B z (Nq (hrsP 4 2 2 2 0 (nI nw) 400 (nI wm) (nI ai) 0 hr (T', n4, money)).2.1) (hrsP 4 2 2 2 0 (nI nw) 400 (nI wm) (nI ai) 0 hr (T', n4, money)).1 (nI nw + nI hr) (hrsP 4 2 2 2 0 (nI nw) 400 (nI wm) (nI ai) 0 hr (T', n4, money)).2.2 → TO G M1 10 oo xo b Do 4 2 2 2 B z2 (Nq (hrsP 4 2 2 2 0 (nI nw) 400 (nI wm) (nI ai) 0 hr (T', n4, money)).2.1) (hrsP 4 2 2 2 0 (nI nw) 400 (nI wm) (nI ai) 0 hr (T', n4, money)).1 (nI nw + nI hr) (hrsP 4 2 2 2 0 (nI nw) 400 (nI wm) (nI ai) 0 hr (T', n4, money)).2.2 → Wd G M1 s H locs → lv_has ls 24 [(5, .int (nI k)), (0, .ref b), (1, .int (nI time)), (2, .ref tt), (3, .ref oo), (4, .ref xa)] → W p l e room_1 s m args below meth c H locs (cells + 3) (slots + 18) Q (F0 m 556 ls [])) : W p l e room_1 s m args below meth c H locs cells slots Q (F0 m 461 ls []) := by
  obtain ⟨hx, hb, hml, hown, hts, hS, hK, hX, hst, hL⟩ := C
  obtain ⟨hc1, hc2⟩ := hc
  obtain ⟨-, -, r3, r4, -⟩ := hI.hrs (n3 := 2) (tr := 0) (now := nI nw) (price := 400) (w := nI wm) (a := nI ai) (r := 0) (money := money) (n := n4) (by decide) (by decide) hr
  have t0 : T' 0 f = T 0 f := by
    rcases hse with ⟨q, -⟩ | ⟨-, j, -, -, -, q⟩
    · rw [q]
    · rw [q, tu_k (by decide)]
  have s8 : (hrsP 4 2 2 2 0 (nI nw) 400 (nI wm) (nI ai) 0 hr (T', n4, money)).1 0 f 8 = fhP (nI nw) (nI wm) (nI ai) 0 hr (T 0 f) 8 := by rw [r3 f hf 8 (by decide) (by decide) (by decide) (by decide) (by decide), t0]
  have s2 : (hrsP 4 2 2 2 0 (nI nw) 400 (nI wm) (nI ai) 0 hr (T', n4, money)).1 0 f 2 = T 0 f 2 := by rw [r3 f hf 2 (by decide) (by decide) (by decide) (by decide) (by decide), t0]; exact fhP_2 hr
  obtain ⟨fa, ca, ta, ea, ka, oa, h1, ⟨g9, f1, f2⟩, h3⟩ := id hT
  obtain ⟨y, fr, y1, y2, y3, -⟩ := f2 f hf
  have e9 : va_rf (g9 (nI f).toNatClampNeg) = .ref y := by rw [nI_clamp (by omega), y1]; rfl
  refine lv_aload_n hx hb dL_law_461 rfl (lv_at hl 14 rfl) ?_
  refine fg_L_60 hx hb hts hown hK hM h1 dL_law_462 ?_
  refine lv_iload hx hb dL_law_465 (lv_at hl 10 rfl) ?_
  refine g_aald hx hb hK hM (j := 1) f1 rfl rfl (vp_in_nI (show f < 4 from hf) (by omega)) dL_law_467 ?_
  rw [e9]
  refine lv_bipush (v := (9 : Int32)) hx hb dL_law_468 (by decide) ?_
  refine g_iald hx hb hK hM y2 (i := (9 : Int32)) (by unfold vp_in; decide) dL_law_470 ?_
  rw [show fr (9 : Int32).toNatClampNeg = B f from y3]
  refine lv_bipush (v := (100 : Int32)) hx hb dL_law_471 (by decide) ?_
  refine lv_iload hx hb dL_law_473 (lv_at hl 2 rfl) ?_
  refine lv_isub hx hb dL_law_475 ?_
  refine lv_imul hx hb dL_law_476 ?_
  refine lv_bipush (v := (100 : Int32)) hx hb dL_law_477 (by decide) ?_
  refine lv_idiv hx hb dL_law_479 (by decide) ?_
  refine lv_aload_n hx hb dL_law_480 rfl (lv_at hl 14 rfl) ?_
  refine fg_L_60 hx hb hts hown hK hM h1 dL_law_481 ?_
  refine lv_iload hx hb dL_law_484 (lv_at hl 10 rfl) ?_
  refine g_aald hx hb hK hM (j := 1) f1 rfl rfl (vp_in_nI (show f < 4 from hf) (by omega)) dL_law_486 ?_
  rw [e9]
  refine lv_bipush (v := (9 : Int32)) hx hb dL_law_487 (by decide) ?_
  refine g_iald hx hb hK hM y2 (i := (9 : Int32)) (by unfold vp_in; decide) dL_law_489 ?_
  rw [show fr (9 : Int32).toNatClampNeg = B f from y3]
  refine lv_bipush (v := (100 : Int32)) hx hb dL_law_490 (by decide) ?_
  refine lv_aload hx hb dL_law_492 (lv_at hl 16 rfl) ?_
  refine lv_iload hx hb dL_law_494 (lv_at hl 10 rfl) ?_
  refine lv_bipush (v := nI 6) hx hb dL_law_496 (by decide) ?_
  refine r_ofField hx hb hml hl.1 hown hts hK hX hst hM hT.wr (kz_ofField hf (by decide)) wm_L_44 ⟨Nat.le_of_ble_eq_true rfl, Nat.le_of_ble_eq_true rfl⟩ ⟨by show cells + 1 ≤ 1048973; omega, by show slots + 6 ≤ 5954851; omega⟩ (Nat.le_of_ble_eq_true rfl) dL_law_498 (fun H locs hM => ?_)
  rw [qf_6 hf]
  refine lv_isub hx hb dL_law_501 ?_
  refine lv_imul hx hb dL_law_502 ?_
  refine lv_bipush (v := (100 : Int32)) hx hb dL_law_503 (by decide) ?_
  refine lv_idiv hx hb dL_law_505 (by decide) ?_
  refine lv_isub hx hb dL_law_506 ?_
  obtain ⟨eo, eeo⟩ : ∃ q, q = ((B f * ((100 : Int32) - T 0 f 8)) / (100 : Int32)) - ((B f * ((100 : Int32) - (hrsP 4 2 2 2 0 (nI nw) 400 (nI wm) (nI ai) 0 hr (T', n4, money)).1 0 f 8)) / (100 : Int32)) := ⟨_, rfl⟩
  rw [← eeo]
  refine lv_istore (lv' := [(19, .int eo), (18, .int (T' 1 0 10)), (17, .int (T 0 f 2 - T 0 f 5)), (16, .int (T 0 f 8)), (15, .int al), (14, .int nx), (13, .int wt), (12, .int rd), (9, .int (nI hr)), (8, .int (nI ai)), (7, .int (nI wm)), (6, .int (nI f)), (5, .int (nI k)), (0, .ref b), (1, .int (nI time)), (2, .ref tt), (3, .ref oo), (4, .ref xa)]) hx hb dL_law_507 hl (by decide) rfl (fun ls hl => ?_)
  refine lv_iload hx hb dL_law_509 (lv_at hl 6 rfl) ?_
  refine lv_iload hx hb dL_law_511 (lv_at hl 2 rfl) ?_
  refine lv_iload hx hb dL_law_513 (lv_at hl 0 rfl) ?_
  refine lv_imul hx hb dL_law_515 ?_
  have key : wt = ((T 0 f 2 - T 0 f 5) * eo) := by
    rw [ewt, eeo, s8, fhP_3, hB]
    rfl
  refine lv_icmp_ne (tgt := 554) hx hb dL_law_516 (by decide) (fun c1 => absurd key c1) (fun _ => ?_)
  refine lv_iload hx hb dL_law_519 (lv_at hl 4 rfl) ?_
  refine lv_if_eq (tgt := 556) hx hb dL_law_521 (by decide) (fun c2 => ?_) (fun c2 => ?_)
  · refine W.widen (k := cells + 3) (n := slots + 18) (by omega) (by omega) ?_
    exact kk _ _ _ _ hT hO hM (lv_sub hl [12, 13, 14, 15, 16, 17] rfl)
  · skip
    refine lv_iload hx hb dL_law_524 (lv_at hl 12 rfl) ?_
    refine lv_iconst (v := nI 2) hx hb dL_law_526 (by decide) ?_
    refine lv_irem hx hb dL_law_527 (nI_ne0 (by decide) (by decide)) ?_
    rw [pk_rem (by omega) (by decide) (by decide)]
    refine lv_iconst (v := nI 1) hx hb dL_law_528 (by decide) ?_
    refine lv_icmp_ne (tgt := 556) hx hb dL_law_529 (by decide) (fun c3 => ?_) (fun c3 => ?_)
    · refine W.widen (k := cells + 3) (n := slots + 18) (by omega) (by omega) ?_
      exact kk _ _ _ _ hT hO hM (lv_sub hl [12, 13, 14, 15, 16, 17] rfl)
    · skip
      have hk2 : k % 2 = 1 := (nI_eq (a := k % 2) (b := 1) (by omega) (by decide)).mp c3
      have tT : T' = T := by
        rcases hse with ⟨q, -⟩ | ⟨q, -⟩
        · exact q
        · omega
      have hal2 : ∀ i, i < 2 → ¬ T 1 i 9 = nI f := hal.resolve_left c2
      have s5 : (hrsP 4 2 2 2 0 (nI nw) 400 (nI wm) (nI ai) 0 hr (T', n4, money)).1 0 f 5 = T 0 f 5 := by
        rw [r4 f hf (fun i hi q => ?_), t0]
        rw [tT] at q
        exact hal2 i hi (ixR_lt (by decide) q).2
      refine lv_aload hx hb dL_law_532 (lv_at hl 17 rfl) ?_
      refine lv_iload hx hb dL_law_534 (lv_at hl 11 rfl) ?_
      refine lv_iconst (v := nI 2) hx hb dL_law_536 (by decide) ?_
      refine r_ofField hx hb hml hl.1 hown hts hK hX hst hM hT.wr (kz_ofField hf (by decide)) wm_L_44 ⟨Nat.le_of_ble_eq_true rfl, Nat.le_of_ble_eq_true rfl⟩ ⟨by show cells + 1 + 1 ≤ 1048973; omega, by show slots + 6 + 6 ≤ 5954851; omega⟩ (Nat.le_of_ble_eq_true rfl) dL_law_537 (fun H locs hM => ?_)
      rw [qf_2 hf]
      refine lv_aload hx hb dL_law_540 (lv_at hl 17 rfl) ?_
      refine lv_iload hx hb dL_law_542 (lv_at hl 11 rfl) ?_
      refine lv_iconst (v := nI 3) hx hb dL_law_544 (by decide) ?_
      refine r_ofField hx hb hml hl.1 hown hts hK hX hst hM hT.wr (kz_ofField hf (by decide)) wm_L_44 ⟨Nat.le_of_ble_eq_true rfl, Nat.le_of_ble_eq_true rfl⟩ ⟨by show cells + 1 + 1 + 1 ≤ 1048973; omega, by show slots + 6 + 6 + 6 ≤ 5954851; omega⟩ (Nat.le_of_ble_eq_true rfl) dL_law_545 (fun H locs hM => ?_)
      rw [qf_3 hf]
      refine lv_isub hx hb dL_law_548 ?_
      refine lv_iload hx hb dL_law_549 (lv_at hl 2 rfl) ?_
      refine lv_icmp_eq (tgt := 556) hx hb dL_law_551 (by decide) (fun _ => ?_) (fun c4 => absurd (by rw [s2, s5]) c4)
      refine W.widen (k := cells + 3) (n := slots + 18) (by omega) (by omega) ?_
      exact kk _ _ _ _ hT hO hM (lv_sub hl [12, 13, 14, 15, 16, 17] rfl)
end L5

/-! a round of the law: a machine is sent, in both lands -/
section L6
variable {p : Program} {l : Launch} {e : Env} {s : State} {m : MethodId} {args : Array Value} {below : List Frame} {meth : Method} {c : Code} {H : Heap} {locs : List Loc} {cells slots : Nat} {Q : State → Prop}
variable {ls : Array Slot} {G : GG} {M : HM} {b L tt oo xa xo time k D Do n4 nw f wm ai hr : Nat} {xs : Nat → Int32} {B : Nat → Int32} {z z2 : Int32} {T : Tb} {now money : Int32}
set_option maxHeartbeats 4000000 in
set_option maxRecDepth 100000 in
theorem sg6 (C : LH p l s m args c G b L xs) (hM : Wd G M s H locs) (hT : TO G M 0 tt xa b (D) 4 2 2 2 B z (Nq n4) T now money) (hO : TO G M 10 oo xo b Do 4 2 2 2 B z2 (Nq n4) T now money) (hI : Iv 4 2 2 T) (hD : D < 5000) (hc : cells + 100 ≤ 1048973 ∧ slots + 1000 ≤ 5954851) (hl : lv_has ls 24 [(5, .int (nI k)), (0, .ref b), (1, .int (nI time)), (2, .ref tt), (3, .ref oo), (4, .ref xa)])
    (kk : ∀ (M1 : HM) (H : Heap) (locs : List Loc) (ls : Array Slot) (T' : Tb), Iv 4 2 2 T' → (∀ i, T' 0 i = T 0 i) → TO G M1 0 tt xa b (D + 2) 4 2 2 2 B z (Nq n4) T' now money → TO G M1 10 oo xo b Do 4 2 2 2 B z2 (Nq n4) T' now money → Wd G M1 s H locs → lv_has ls 24 [(5, .int (nI (k + 1))), (0, .ref b), (1, .int (nI time)), (2, .ref tt), (3, .ref oo), (4, .ref xa)] → W p l e room_1 s m args below meth c H locs (cells + 2) (slots + 12) Q (F0 m 66 ls [])) : W p l e room_1 s m args below meth c H locs cells slots Q (F0 m 556 ls []) := by
  obtain ⟨hx, hb, hml, hown, hts, hS, hK, hX, hst, hL⟩ := C
  obtain ⟨hc1, hc2⟩ := hc
  refine lv_aload_n hx hb dL_law_556 rfl (lv_at hl 3 rfl) ?_
  refine lv_iconst (v := nI 2) hx hb dL_law_557 (by decide) ?_
  refine r_draw hx hb hml hl.1 hown hts hS hK hX hM hT hL (by omega) (by decide) (by decide) wm_L_22 ⟨Nat.le_of_ble_eq_true rfl, Nat.le_of_ble_eq_true rfl⟩ ⟨by show cells ≤ 1048973; omega, by show slots ≤ 5954851; omega⟩ (Nat.le_of_ble_eq_true rfl) dL_law_558 (fun M1 H locs hT sb hM => ?_)
  replace hO := hO.sb sb (by omega)
  clear sb
  obtain ⟨to, eto⟩ : ∃ q, q = drN L xs (D) 2 := ⟨_, rfl⟩
  have hto : to < 2 := by rw [eto]; exact drN_lt (by decide)
  rw [← eto]
  clear eto
  refine lv_istore (lv' := [(20, .int (nI to)), (5, .int (nI k)), (0, .ref b), (1, .int (nI time)), (2, .ref tt), (3, .ref oo), (4, .ref xa)]) hx hb dL_law_561 hl (by decide) rfl (fun ls hl => ?_)
  refine lv_aload_n hx hb dL_law_563 rfl (lv_at hl 4 rfl) ?_
  refine lv_iconst (v := nI 3) hx hb dL_law_564 (by decide) ?_
  refine r_draw hx hb hml hl.1 hown hts hS hK hX hM hT hL (by omega) (by decide) (by decide) wm_L_22 ⟨Nat.le_of_ble_eq_true rfl, Nat.le_of_ble_eq_true rfl⟩ ⟨by show cells ≤ 1048973; omega, by show slots ≤ 5954851; omega⟩ (Nat.le_of_ble_eq_true rfl) dL_law_565 (fun M1 H locs hT sb hM => ?_)
  replace hO := hO.sb sb (by omega)
  clear sb
  obtain ⟨kd, ekd⟩ : ∃ q, q = drN L xs (D + 1) 3 := ⟨_, rfl⟩
  have hkd : kd < 3 := by rw [ekd]; exact drN_lt (by decide)
  rw [← ekd]
  clear ekd
  refine lv_istore (lv' := [(21, .int (nI kd)), (20, .int (nI to)), (5, .int (nI k)), (0, .ref b), (1, .int (nI time)), (2, .ref tt), (3, .ref oo), (4, .ref xa)]) hx hb dL_law_568 hl (by decide) rfl (fun ls hl => ?_)
  refine lv_iconst (v := nI 0) hx hb dL_law_570 (by decide) ?_
  refine lv_istore (lv' := [(22, .int (nI 0)), (21, .int (nI kd)), (20, .int (nI to)), (5, .int (nI k)), (0, .ref b), (1, .int (nI time)), (2, .ref tt), (3, .ref oo), (4, .ref xa)]) hx hb dL_law_571 hl (by decide) rfl (fun ls hl => ?_)
  have eo : ix (nI to) = to := nI_clamp (by omega)
  have e1 : ix (nI 1) = 1 := nI_clamp (by decide)
  rcases (by omega : kd = 0 ∨ kd = 1 ∨ kd = 2) with z9 | z9 | z9
  · subst z9
    refine lv_iload hx hb dL_law_573 (lv_at hl 0 rfl) ?_
    refine lv_iconst (v := nI 2) hx hb dL_law_575 (by decide) ?_
    refine lv_icmp_ge (tgt := 645) hx hb dL_law_576 (by decide) (fun c1 => absurd c1 (by decide)) (fun _ => ?_)
    refine lv_iload hx hb dL_law_579 (lv_at hl 0 rfl) ?_
    refine lv_if_ne (tgt := 589) hx hb dL_law_581 (by decide) (fun c1 => absurd (by decide) c1) (fun _ => ?_)
    refine lv_aload hx hb dL_law_584 (lv_at hl 8 rfl) ?_
    refine lv_goto (tgt := 593) hx hb dL_law_586 (by decide) ?_
    refine lv_astore (lv' := [(23, .ref xa), (22, .int (nI 0)), (21, .int (nI 0)), (20, .int (nI to)), (5, .int (nI k)), (0, .ref b), (1, .int (nI time)), (2, .ref tt), (3, .ref oo), (4, .ref xa)]) hx hb dL_law_593 hl (by decide) rfl (fun ls hl => ?_)
    refine lv_iload hx hb dL_law_595 (lv_at hl 2 rfl) ?_
    refine lv_if_ne (tgt := 612) hx hb dL_law_597 (by decide) (fun c1 => absurd (by decide) c1) (fun _ => ?_)
    refine lv_aload hx hb dL_law_600 (lv_at hl 0 rfl) ?_
    refine lv_iload hx hb dL_law_602 (lv_at hl 3 rfl) ?_
    refine lv_iconst (v := nI 0) hx hb dL_law_604 (by decide) ?_
    refine r_fetch hx hb hml hl.1 hown hts hK hX hst hM hT.wr (kz_fetch hto) wm_L_64 ⟨Nat.le_of_ble_eq_true rfl, Nat.le_of_ble_eq_true rfl⟩ ⟨by show cells + 1 ≤ 1048973; omega, by show slots + 6 ≤ 5954851; omega⟩ (Nat.le_of_ble_eq_true rfl) dL_law_605 (fun M1 H locs hw sx hM => ?_)
    rw [eo] at hw
    replace hO := hO.sb (Sb.sx sx) (by omega)
    replace hT := hT.face hw sx
    clear hw sx
    refine lv_pop hx hb dL_law_608 rfl ?_
    refine lv_goto (tgt := 639) hx hb dL_law_609 (by decide) ?_
    refine lv_iinc (v := nI 1) (lv' := [(22, .int (nI 1)), (23, .ref xa), (21, .int (nI 0)), (20, .int (nI to)), (5, .int (nI k)), (0, .ref b), (1, .int (nI time)), (2, .ref tt), (3, .ref oo), (4, .ref xa)]) hx hb dL_law_639 hl (k := 1) rfl (nI_1 0) (by decide) rfl (fun ls hl => ?_)
    refine lv_goto (tgt := 573) hx hb dL_law_642 (by decide) ?_
    refine lv_iload hx hb dL_law_573 (lv_at hl 0 rfl) ?_
    refine lv_iconst (v := nI 2) hx hb dL_law_575 (by decide) ?_
    refine lv_icmp_ge (tgt := 645) hx hb dL_law_576 (by decide) (fun c1 => absurd c1 (by decide)) (fun _ => ?_)
    refine lv_iload hx hb dL_law_579 (lv_at hl 0 rfl) ?_
    refine lv_if_ne (tgt := 589) hx hb dL_law_581 (by decide) (fun _ => ?_) (fun c1 => absurd c1 (by decide))
    refine lv_aload_n hx hb dL_law_589 rfl (lv_at hl 8 rfl) ?_
    obtain ⟨fa9, ca9, ta9, ea9, ka9, oa9, hc9⟩ := hO.cell
    refine fg_L_14 hx hb hts hown hK hM hc9 dL_law_590 ?_
    clear hc9
    refine lv_astore (lv' := [(23, .ref xo), (22, .int (nI 1)), (21, .int (nI 0)), (20, .int (nI to)), (5, .int (nI k)), (0, .ref b), (1, .int (nI time)), (2, .ref tt), (3, .ref oo), (4, .ref xa)]) hx hb dL_law_593 hl (by decide) rfl (fun ls hl => ?_)
    refine lv_iload hx hb dL_law_595 (lv_at hl 2 rfl) ?_
    refine lv_if_ne (tgt := 612) hx hb dL_law_597 (by decide) (fun c1 => absurd (by decide) c1) (fun _ => ?_)
    refine lv_aload hx hb dL_law_600 (lv_at hl 0 rfl) ?_
    refine lv_iload hx hb dL_law_602 (lv_at hl 3 rfl) ?_
    refine lv_iconst (v := nI 0) hx hb dL_law_604 (by decide) ?_
    refine r_fetch hx hb hml hl.1 hown hts hK hX hst hM hO.wr (kz_fetch hto) wm_L_64 ⟨Nat.le_of_ble_eq_true rfl, Nat.le_of_ble_eq_true rfl⟩ ⟨by show cells + 1 + 1 ≤ 1048973; omega, by show slots + 6 + 6 ≤ 5954851; omega⟩ (Nat.le_of_ble_eq_true rfl) dL_law_605 (fun M1 H locs hw sx hM => ?_)
    rw [eo] at hw
    replace hT := hT.sb (Sb.sx sx) (by omega)
    replace hO := hO.face hw sx
    clear hw sx
    refine lv_pop hx hb dL_law_608 rfl ?_
    refine lv_goto (tgt := 639) hx hb dL_law_609 (by decide) ?_
    refine lv_iinc (v := nI 2) (lv' := [(22, .int (nI 2)), (23, .ref xo), (21, .int (nI 0)), (20, .int (nI to)), (5, .int (nI k)), (0, .ref b), (1, .int (nI time)), (2, .ref tt), (3, .ref oo), (4, .ref xa)]) hx hb dL_law_639 hl (k := 1) rfl (nI_1 1) (by decide) rfl (fun ls hl => ?_)
    refine lv_goto (tgt := 573) hx hb dL_law_642 (by decide) ?_
    refine lv_iload hx hb dL_law_573 (lv_at hl 0 rfl) ?_
    refine lv_iconst (v := nI 2) hx hb dL_law_575 (by decide) ?_
    refine lv_icmp_ge (tgt := 645) hx hb dL_law_576 (by decide) (fun _ => ?_) (fun c1 => absurd (by decide) c1)
    refine lv_iinc (v := nI (k + 1)) (lv' := [(5, .int (nI (k + 1))), (22, .int (nI 2)), (23, .ref xo), (21, .int (nI 0)), (20, .int (nI to)), (0, .ref b), (1, .int (nI time)), (2, .ref tt), (3, .ref oo), (4, .ref xa)]) hx hb dL_law_645 hl (k := 4) rfl (nI_1 k) (by decide) rfl (fun ls hl => ?_)
    refine lv_goto (tgt := 66) hx hb dL_law_648 (by decide) ?_
    have i2 : ∀ q : Row, q 2 = T 2 to 2 → IT2 q := fun q hq => by
      have := hI.2.2 to hto
      unfold IT2 at *
      rw [hq]
      exact this
    have w1 : Iv 4 2 2 (tu T 2 to (upd (T 2 to) 7 (nI 0))) := hI.put (fun q => absurd q (by decide)) (fun q => absurd q (by decide)) (fun _ _ => i2 _ (upd_o (by decide)))
    have w2 : Iv 4 2 2 (tu (tu T 2 to (upd (T 2 to) 7 (nI 0))) 2 to (upd (upd (T 2 to) 7 (nI 0)) 8 (-1 : Int32))) := w1.put (fun q => absurd q (by decide)) (fun q => absurd q (by decide)) (fun _ _ => i2 _ (by rw [upd_o (by decide), upd_o (by decide)]))
    have z0 : ∀ i, (tu (tu T 2 to (upd (T 2 to) 7 (nI 0))) 2 to (upd (upd (T 2 to) 7 (nI 0)) 8 (-1 : Int32))) 0 i = T 0 i := fun i => by rw [tu_k (by decide), tu_k (by decide)]
    refine W.widen (k := cells + 2) (n := slots + 12) (by omega) (by omega) ?_
    exact kk _ _ _ _ (tu (tu T 2 to (upd (T 2 to) 7 (nI 0))) 2 to (upd (upd (T 2 to) 7 (nI 0)) 8 (-1 : Int32))) w2 z0 hT hO hM (lv_sub hl [0, 5, 6, 7, 8, 9] rfl)
  · subst z9
    refine lv_iload hx hb dL_law_573 (lv_at hl 0 rfl) ?_
    refine lv_iconst (v := nI 2) hx hb dL_law_575 (by decide) ?_
    refine lv_icmp_ge (tgt := 645) hx hb dL_law_576 (by decide) (fun c1 => absurd c1 (by decide)) (fun _ => ?_)
    refine lv_iload hx hb dL_law_579 (lv_at hl 0 rfl) ?_
    refine lv_if_ne (tgt := 589) hx hb dL_law_581 (by decide) (fun c1 => absurd (by decide) c1) (fun _ => ?_)
    refine lv_aload hx hb dL_law_584 (lv_at hl 8 rfl) ?_
    refine lv_goto (tgt := 593) hx hb dL_law_586 (by decide) ?_
    refine lv_astore (lv' := [(23, .ref xa), (22, .int (nI 0)), (21, .int (nI 1)), (20, .int (nI to)), (5, .int (nI k)), (0, .ref b), (1, .int (nI time)), (2, .ref tt), (3, .ref oo), (4, .ref xa)]) hx hb dL_law_593 hl (by decide) rfl (fun ls hl => ?_)
    refine lv_iload hx hb dL_law_595 (lv_at hl 2 rfl) ?_
    refine lv_if_ne (tgt := 612) hx hb dL_law_597 (by decide) (fun _ => ?_) (fun c1 => absurd c1 (by decide))
    refine lv_iload hx hb dL_law_612 (lv_at hl 2 rfl) ?_
    refine lv_iconst (v := nI 1) hx hb dL_law_614 (by decide) ?_
    refine lv_icmp_ne (tgt := 630) hx hb dL_law_615 (by decide) (fun c1 => absurd (by decide) c1) (fun _ => ?_)
    refine lv_aload hx hb dL_law_618 (lv_at hl 0 rfl) ?_
    refine lv_iload hx hb dL_law_620 (lv_at hl 3 rfl) ?_
    refine lv_iconst (v := nI 1) hx hb dL_law_622 (by decide) ?_
    refine r_haul hx hb hml hl.1 hown hts hK hX hst hM hT.wr (kz_haul hto) wm_L_67 ⟨Nat.le_of_ble_eq_true rfl, Nat.le_of_ble_eq_true rfl⟩ ⟨by show cells + 1 ≤ 1048973; omega, by show slots + 6 ≤ 5954851; omega⟩ (Nat.le_of_ble_eq_true rfl) dL_law_623 (fun M1 H locs hw sx hM => ?_)
    rw [eo] at hw
    replace hO := hO.sb (Sb.sx sx) (by omega)
    replace hT := hT.face hw sx
    clear hw sx
    refine lv_pop hx hb dL_law_626 rfl ?_
    refine lv_goto (tgt := 639) hx hb dL_law_627 (by decide) ?_
    refine lv_iinc (v := nI 1) (lv' := [(22, .int (nI 1)), (23, .ref xa), (21, .int (nI 1)), (20, .int (nI to)), (5, .int (nI k)), (0, .ref b), (1, .int (nI time)), (2, .ref tt), (3, .ref oo), (4, .ref xa)]) hx hb dL_law_639 hl (k := 1) rfl (nI_1 0) (by decide) rfl (fun ls hl => ?_)
    refine lv_goto (tgt := 573) hx hb dL_law_642 (by decide) ?_
    refine lv_iload hx hb dL_law_573 (lv_at hl 0 rfl) ?_
    refine lv_iconst (v := nI 2) hx hb dL_law_575 (by decide) ?_
    refine lv_icmp_ge (tgt := 645) hx hb dL_law_576 (by decide) (fun c1 => absurd c1 (by decide)) (fun _ => ?_)
    refine lv_iload hx hb dL_law_579 (lv_at hl 0 rfl) ?_
    refine lv_if_ne (tgt := 589) hx hb dL_law_581 (by decide) (fun _ => ?_) (fun c1 => absurd c1 (by decide))
    refine lv_aload_n hx hb dL_law_589 rfl (lv_at hl 8 rfl) ?_
    obtain ⟨fa9, ca9, ta9, ea9, ka9, oa9, hc9⟩ := hO.cell
    refine fg_L_14 hx hb hts hown hK hM hc9 dL_law_590 ?_
    clear hc9
    refine lv_astore (lv' := [(23, .ref xo), (22, .int (nI 1)), (21, .int (nI 1)), (20, .int (nI to)), (5, .int (nI k)), (0, .ref b), (1, .int (nI time)), (2, .ref tt), (3, .ref oo), (4, .ref xa)]) hx hb dL_law_593 hl (by decide) rfl (fun ls hl => ?_)
    refine lv_iload hx hb dL_law_595 (lv_at hl 2 rfl) ?_
    refine lv_if_ne (tgt := 612) hx hb dL_law_597 (by decide) (fun _ => ?_) (fun c1 => absurd c1 (by decide))
    refine lv_iload hx hb dL_law_612 (lv_at hl 2 rfl) ?_
    refine lv_iconst (v := nI 1) hx hb dL_law_614 (by decide) ?_
    refine lv_icmp_ne (tgt := 630) hx hb dL_law_615 (by decide) (fun c1 => absurd (by decide) c1) (fun _ => ?_)
    refine lv_aload hx hb dL_law_618 (lv_at hl 0 rfl) ?_
    refine lv_iload hx hb dL_law_620 (lv_at hl 3 rfl) ?_
    refine lv_iconst (v := nI 1) hx hb dL_law_622 (by decide) ?_
    refine r_haul hx hb hml hl.1 hown hts hK hX hst hM hO.wr (kz_haul hto) wm_L_67 ⟨Nat.le_of_ble_eq_true rfl, Nat.le_of_ble_eq_true rfl⟩ ⟨by show cells + 1 + 1 ≤ 1048973; omega, by show slots + 6 + 6 ≤ 5954851; omega⟩ (Nat.le_of_ble_eq_true rfl) dL_law_623 (fun M1 H locs hw sx hM => ?_)
    rw [eo] at hw
    replace hT := hT.sb (Sb.sx sx) (by omega)
    replace hO := hO.face hw sx
    clear hw sx
    refine lv_pop hx hb dL_law_626 rfl ?_
    refine lv_goto (tgt := 639) hx hb dL_law_627 (by decide) ?_
    refine lv_iinc (v := nI 2) (lv' := [(22, .int (nI 2)), (23, .ref xo), (21, .int (nI 1)), (20, .int (nI to)), (5, .int (nI k)), (0, .ref b), (1, .int (nI time)), (2, .ref tt), (3, .ref oo), (4, .ref xa)]) hx hb dL_law_639 hl (k := 1) rfl (nI_1 1) (by decide) rfl (fun ls hl => ?_)
    refine lv_goto (tgt := 573) hx hb dL_law_642 (by decide) ?_
    refine lv_iload hx hb dL_law_573 (lv_at hl 0 rfl) ?_
    refine lv_iconst (v := nI 2) hx hb dL_law_575 (by decide) ?_
    refine lv_icmp_ge (tgt := 645) hx hb dL_law_576 (by decide) (fun _ => ?_) (fun c1 => absurd (by decide) c1)
    refine lv_iinc (v := nI (k + 1)) (lv' := [(5, .int (nI (k + 1))), (22, .int (nI 2)), (23, .ref xo), (21, .int (nI 1)), (20, .int (nI to)), (0, .ref b), (1, .int (nI time)), (2, .ref tt), (3, .ref oo), (4, .ref xa)]) hx hb dL_law_645 hl (k := 4) rfl (nI_1 k) (by decide) rfl (fun ls hl => ?_)
    refine lv_goto (tgt := 66) hx hb dL_law_648 (by decide) ?_
    have i2 : ∀ q : Row, q 2 = T 2 to 2 → IT2 q := fun q hq => by
      have := hI.2.2 to hto
      unfold IT2 at *
      rw [hq]
      exact this
    have w1 : Iv 4 2 2 (tu T 2 to (upd (T 2 to) 7 (-1 : Int32))) := hI.put (fun q => absurd q (by decide)) (fun q => absurd q (by decide)) (fun _ _ => i2 _ (upd_o (by decide)))
    have w2 : Iv 4 2 2 (tu (tu T 2 to (upd (T 2 to) 7 (-1 : Int32))) 2 to (upd (upd (T 2 to) 7 (-1 : Int32)) 8 (nI 1))) := w1.put (fun q => absurd q (by decide)) (fun q => absurd q (by decide)) (fun _ _ => i2 _ (by rw [upd_o (by decide), upd_o (by decide)]))
    have z0 : ∀ i, (tu (tu T 2 to (upd (T 2 to) 7 (-1 : Int32))) 2 to (upd (upd (T 2 to) 7 (-1 : Int32)) 8 (nI 1))) 0 i = T 0 i := fun i => by rw [tu_k (by decide), tu_k (by decide)]
    refine W.widen (k := cells + 2) (n := slots + 12) (by omega) (by omega) ?_
    exact kk _ _ _ _ (tu (tu T 2 to (upd (T 2 to) 7 (-1 : Int32))) 2 to (upd (upd (T 2 to) 7 (-1 : Int32)) 8 (nI 1))) w2 z0 hT hO hM (lv_sub hl [0, 5, 6, 7, 8, 9] rfl)
  · subst z9
    refine lv_iload hx hb dL_law_573 (lv_at hl 0 rfl) ?_
    refine lv_iconst (v := nI 2) hx hb dL_law_575 (by decide) ?_
    refine lv_icmp_ge (tgt := 645) hx hb dL_law_576 (by decide) (fun c1 => absurd c1 (by decide)) (fun _ => ?_)
    refine lv_iload hx hb dL_law_579 (lv_at hl 0 rfl) ?_
    refine lv_if_ne (tgt := 589) hx hb dL_law_581 (by decide) (fun c1 => absurd (by decide) c1) (fun _ => ?_)
    refine lv_aload hx hb dL_law_584 (lv_at hl 8 rfl) ?_
    refine lv_goto (tgt := 593) hx hb dL_law_586 (by decide) ?_
    refine lv_astore (lv' := [(23, .ref xa), (22, .int (nI 0)), (21, .int (nI 2)), (20, .int (nI to)), (5, .int (nI k)), (0, .ref b), (1, .int (nI time)), (2, .ref tt), (3, .ref oo), (4, .ref xa)]) hx hb dL_law_593 hl (by decide) rfl (fun ls hl => ?_)
    refine lv_iload hx hb dL_law_595 (lv_at hl 2 rfl) ?_
    refine lv_if_ne (tgt := 612) hx hb dL_law_597 (by decide) (fun _ => ?_) (fun c1 => absurd c1 (by decide))
    refine lv_iload hx hb dL_law_612 (lv_at hl 2 rfl) ?_
    refine lv_iconst (v := nI 1) hx hb dL_law_614 (by decide) ?_
    refine lv_icmp_ne (tgt := 630) hx hb dL_law_615 (by decide) (fun _ => ?_) (fun c1 => absurd c1 (by decide))
    refine lv_aload hx hb dL_law_630 (lv_at hl 0 rfl) ?_
    refine lv_iconst (v := nI 1) hx hb dL_law_632 (by decide) ?_
    refine lv_iload hx hb dL_law_633 (lv_at hl 3 rfl) ?_
    refine r_cut hx hb hml hl.1 hown hts hK hX hst hM hT.wr (kz_cut (by decide) (by omega)) wm_L_48 ⟨Nat.le_of_ble_eq_true rfl, Nat.le_of_ble_eq_true rfl⟩ ⟨by show cells + 1 ≤ 1048973; omega, by show slots + 6 ≤ 5954851; omega⟩ (Nat.le_of_ble_eq_true rfl) dL_law_635 (fun M1 H locs hw sx hM => ?_)
    rw [e1] at hw
    replace hO := hO.sb (Sb.sx sx) (by omega)
    replace hT := hT.face hw sx
    clear hw sx
    refine lv_pop hx hb dL_law_638 rfl ?_
    refine lv_iinc (v := nI 1) (lv' := [(22, .int (nI 1)), (23, .ref xa), (21, .int (nI 2)), (20, .int (nI to)), (5, .int (nI k)), (0, .ref b), (1, .int (nI time)), (2, .ref tt), (3, .ref oo), (4, .ref xa)]) hx hb dL_law_639 hl (k := 1) rfl (nI_1 0) (by decide) rfl (fun ls hl => ?_)
    refine lv_goto (tgt := 573) hx hb dL_law_642 (by decide) ?_
    refine lv_iload hx hb dL_law_573 (lv_at hl 0 rfl) ?_
    refine lv_iconst (v := nI 2) hx hb dL_law_575 (by decide) ?_
    refine lv_icmp_ge (tgt := 645) hx hb dL_law_576 (by decide) (fun c1 => absurd c1 (by decide)) (fun _ => ?_)
    refine lv_iload hx hb dL_law_579 (lv_at hl 0 rfl) ?_
    refine lv_if_ne (tgt := 589) hx hb dL_law_581 (by decide) (fun _ => ?_) (fun c1 => absurd c1 (by decide))
    refine lv_aload_n hx hb dL_law_589 rfl (lv_at hl 8 rfl) ?_
    obtain ⟨fa9, ca9, ta9, ea9, ka9, oa9, hc9⟩ := hO.cell
    refine fg_L_14 hx hb hts hown hK hM hc9 dL_law_590 ?_
    clear hc9
    refine lv_astore (lv' := [(23, .ref xo), (22, .int (nI 1)), (21, .int (nI 2)), (20, .int (nI to)), (5, .int (nI k)), (0, .ref b), (1, .int (nI time)), (2, .ref tt), (3, .ref oo), (4, .ref xa)]) hx hb dL_law_593 hl (by decide) rfl (fun ls hl => ?_)
    refine lv_iload hx hb dL_law_595 (lv_at hl 2 rfl) ?_
    refine lv_if_ne (tgt := 612) hx hb dL_law_597 (by decide) (fun _ => ?_) (fun c1 => absurd c1 (by decide))
    refine lv_iload hx hb dL_law_612 (lv_at hl 2 rfl) ?_
    refine lv_iconst (v := nI 1) hx hb dL_law_614 (by decide) ?_
    refine lv_icmp_ne (tgt := 630) hx hb dL_law_615 (by decide) (fun _ => ?_) (fun c1 => absurd c1 (by decide))
    refine lv_aload hx hb dL_law_630 (lv_at hl 0 rfl) ?_
    refine lv_iconst (v := nI 1) hx hb dL_law_632 (by decide) ?_
    refine lv_iload hx hb dL_law_633 (lv_at hl 3 rfl) ?_
    refine r_cut hx hb hml hl.1 hown hts hK hX hst hM hO.wr (kz_cut (by decide) (by omega)) wm_L_48 ⟨Nat.le_of_ble_eq_true rfl, Nat.le_of_ble_eq_true rfl⟩ ⟨by show cells + 1 + 1 ≤ 1048973; omega, by show slots + 6 + 6 ≤ 5954851; omega⟩ (Nat.le_of_ble_eq_true rfl) dL_law_635 (fun M1 H locs hw sx hM => ?_)
    rw [e1] at hw
    replace hT := hT.sb (Sb.sx sx) (by omega)
    replace hO := hO.face hw sx
    clear hw sx
    refine lv_pop hx hb dL_law_638 rfl ?_
    refine lv_iinc (v := nI 2) (lv' := [(22, .int (nI 2)), (23, .ref xo), (21, .int (nI 2)), (20, .int (nI to)), (5, .int (nI k)), (0, .ref b), (1, .int (nI time)), (2, .ref tt), (3, .ref oo), (4, .ref xa)]) hx hb dL_law_639 hl (k := 1) rfl (nI_1 1) (by decide) rfl (fun ls hl => ?_)
    refine lv_goto (tgt := 573) hx hb dL_law_642 (by decide) ?_
    refine lv_iload hx hb dL_law_573 (lv_at hl 0 rfl) ?_
    refine lv_iconst (v := nI 2) hx hb dL_law_575 (by decide) ?_
    refine lv_icmp_ge (tgt := 645) hx hb dL_law_576 (by decide) (fun _ => ?_) (fun c1 => absurd (by decide) c1)
    refine lv_iinc (v := nI (k + 1)) (lv' := [(5, .int (nI (k + 1))), (22, .int (nI 2)), (23, .ref xo), (21, .int (nI 2)), (20, .int (nI to)), (0, .ref b), (1, .int (nI time)), (2, .ref tt), (3, .ref oo), (4, .ref xa)]) hx hb dL_law_645 hl (k := 4) rfl (nI_1 k) (by decide) rfl (fun ls hl => ?_)
    refine lv_goto (tgt := 66) hx hb dL_law_648 (by decide) ?_
    have w2 : Iv 4 2 2 (tu T 1 1 (upd (T 1 1) 9 (nI to))) := hI.put (fun q => absurd q (by decide)) (fun _ _ => ⟨by rw [upd_o (by decide)]; exact (hI.2.1 1 (by decide)).1, by rw [upd_o (by decide)]; exact (hI.2.1 1 (by decide)).2.1, by rw [upd_o (by decide)]; exact (hI.2.1 1 (by decide)).2.2⟩) (fun q => absurd q (by decide))
    have z0 : ∀ i, (tu T 1 1 (upd (T 1 1) 9 (nI to))) 0 i = T 0 i := fun i => by rw [tu_k (by decide)]
    refine W.widen (k := cells + 2) (n := slots + 12) (by omega) (by omega) ?_
    exact kk _ _ _ _ (tu T 1 1 (upd (T 1 1) 9 (nI to))) w2 z0 hT hO hM (lv_sub hl [0, 5, 6, 7, 8, 9] rfl)
end L6

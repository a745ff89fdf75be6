/-! the three times of the law -/
theorem nfX7 : ∀ j, j < 12 → defaultValue (tyX7 j) = vp_V [.null, .null, .int 0, .null, .null, .null, .null, .null, .null, .int 0, .int 0, .int 0] j := by
  intro j hj
  match j, hj with
  | 0, _ => rfl
  | 1, _ => rfl
  | 2, _ => rfl
  | 3, _ => rfl
  | 4, _ => rfl
  | 5, _ => rfl
  | 6, _ => rfl
  | 7, _ => rfl
  | 8, _ => rfl
  | 9, _ => rfl
  | 10, _ => rfl
  | 11, _ => rfl
section L8
variable {p : Program} {l : Launch} {e : Env} {s : State} {m : MethodId} {args : Array Value} {below : List Frame} {meth : Method} {c : Code} {H : Heap} {locs : List Loc} {cells slots : Nat} {Q : State → Prop}
variable {ls : Array Slot} {G : GG} {M : HM} {b L tt oo xa xo time k D Do n4 nw f wm ai hr : Nat} {xs : Nat → Int32} {B : Nat → Int32} {z z2 : Int32} {T : Tb} {now money : Int32}
set_option maxHeartbeats 4000000 in
set_option maxRecDepth 100000 in
theorem law_go (C : LH p l s m args c G b L xs) (hend : ∀ (M : HM) (H : Heap) (locs : List Loc) (ls : Array Slot), Wd G M s H locs → W p l e room_1 s m args below meth c H locs 9000 1290000 Q (F0 m 657 ls [])) : ∀ (n time : Nat), time ≤ 3 → 3 - time < n → ∀ (M : HM) (H : Heap) (locs : List Loc) (ls : Array Slot), Wd G M s H locs → lv_has ls 24 [(1, .int (nI time)), (0, .ref b)] → W p l e room_1 s m args below meth c H locs (3000 * time) (430000 * time) Q (F0 m 2 ls []) := by
  have C0 := C
  obtain ⟨hx, hb, hml, hown, hts, hS, hK, hX, hst, hL⟩ := C
  intro n
  induction n with
  | zero => intro k h1 h2; omega
  | succ n ih =>
    intro time h1 h2 M H locs ls hM hl
    refine lv_iload_n hx hb dL_law_2 rfl (lv_at hl 0 rfl) ?_
    refine lv_iconst (v := nI 3) hx hb dL_law_3 (by decide) ?_
    refine lv_icmp_ge (tgt := 657) hx hb dL_law_4 (by decide) (fun c1 => ?_) (fun c1 => ?_)
    · have hk : time = 3 := by
        have := (nI_leI (a := 3) (b := time) (by omega) (by omega)).mp c1
        omega
      subst hk
      exact hend M H locs ls hM
    · have hk : time < 3 := by
        rcases Nat.lt_or_ge time 3 with q | q
        · exact q
        · exact absurd (nI_le q (by omega)) c1
      refine g_new (ci := 8) (fs := [.null, .null, .int 0, .null, .null, .null, .null, .null, .null, .int 0, .int 0, .int 0]) hx hb hts hown hK hM iaX7 rfl tyX7 tyX7_ok wk_L_9 wb_X7 wn_X7 nfX7 0 (by show 3000 * time + 1 ≤ 1048973; omega) (by show 430000 * time + 12 ≤ 5954851; omega) dL_law_7 (fun tt H htt hM => ?_)
      refine lv_dup hx hb dL_law_10 rfl ?_
      refine lv_aload_n hx hb dL_law_11 rfl (lv_at hl 1 rfl) ?_
      refine lv_bipush (v := nI 31) hx hb dL_law_12 (by decide) ?_
      refine lv_iload_n hx hb dL_law_14 rfl (lv_at hl 0 rfl) ?_
      refine lv_imul hx hb dL_law_15 ?_
      rw [pk_mul 31 time]
      refine lv_bipush (v := nI 7) hx hb dL_law_16 (by decide) ?_
      refine lv_iadd hx hb dL_law_18 ?_
      rw [nI_add (31 * time) 7]
      refine g_callIv (n9 := 2) (As := [.ref b, .int (nI (31 * time + 7))]) (rest := [.ref tt]) hx hb hml hl.1 hown hts hK hM (c_X7_init l G _ 0 tt b (31 * time + 7) hu_s) wm_L_11 wi_X7_init wn_X7 rfl wc_X7_init (by decide +kernel) ⟨Nat.le_of_ble_eq_true rfl, Nat.le_of_ble_eq_true rfl⟩ ⟨by show 3000 * time + 1 + 20 ≤ 1048973; omega, by show 430000 * time + 12 + 72 ≤ 5954851; omega⟩ rfl (Nat.le_of_ble_eq_true rfl) rfl dL_law_19 (fun M1 H locs hq hM => ?_)
      obtain ⟨xa, hT, -⟩ := hq
      refine lv_astore_n (lv' := [(2, .ref tt), (1, .int (nI time)), (0, .ref b)]) hx hb dL_law_22 rfl hl (by decide) rfl (fun ls hl => ?_)
      refine g_new (ci := 8) (fs := [.null, .null, .int 0, .null, .null, .null, .null, .null, .null, .int 0, .int 0, .int 0]) hx hb hts hown hK hM iaX7 rfl tyX7 tyX7_ok wk_L_9 wb_X7 wn_X7 nfX7 10 (by show 3000 * time + 1 + 20 + 1 ≤ 1048973; omega) (by show 430000 * time + 12 + 72 + 12 ≤ 5954851; omega) dL_law_23 (fun oo H hoo hM => ?_)
      refine lv_dup hx hb dL_law_26 rfl ?_
      refine lv_aload_n hx hb dL_law_27 rfl (lv_at hl 2 rfl) ?_
      refine lv_bipush (v := nI 31) hx hb dL_law_28 (by decide) ?_
      refine lv_iload_n hx hb dL_law_30 rfl (lv_at hl 1 rfl) ?_
      refine lv_imul hx hb dL_law_31 ?_
      rw [pk_mul 31 time]
      refine lv_bipush (v := nI 7) hx hb dL_law_32 (by decide) ?_
      refine lv_iadd hx hb dL_law_34 ?_
      rw [nI_add (31 * time) 7]
      refine g_callIv (n9 := 2) (As := [.ref b, .int (nI (31 * time + 7))]) (rest := [.ref oo]) hx hb hml hl.1 hown hts hK hM (c_X7_init l G _ 10 oo b (31 * time + 7) hu_s) wm_L_11 wi_X7_init wn_X7 rfl wc_X7_init (by decide +kernel) ⟨Nat.le_of_ble_eq_true rfl, Nat.le_of_ble_eq_true rfl⟩ ⟨by show 3000 * time + 1 + 20 + 1 + 20 ≤ 1048973; omega, by show 430000 * time + 12 + 72 + 12 + 72 ≤ 5954851; omega⟩ rfl (Nat.le_of_ble_eq_true rfl) rfl dL_law_35 (fun M2 H locs hq hM => ?_)
      obtain ⟨xo, hO, sb⟩ := hq
      replace hT := (hT.sb (Sb.nw (ρ := 10) hoo) (by omega)).sb sb (by omega)
      clear sb
      refine lv_astore_n (lv' := [(3, .ref oo), (2, .ref tt), (1, .int (nI time)), (0, .ref b)]) hx hb dL_law_38 rfl hl (by decide) rfl (fun ls hl => ?_)
      refine lv_aload_n hx hb dL_law_39 rfl (lv_at hl 1 rfl) ?_
      obtain ⟨fa9, ca9, ta9, ea9, ka9, oa9, hc9⟩ := hT.cell
      refine fg_L_14 hx hb hts hown hK hM hc9 dL_law_40 ?_
      clear hc9
      refine lv_astore (lv' := [(4, .ref xa), (3, .ref oo), (2, .ref tt), (1, .int (nI time)), (0, .ref b)]) hx hb dL_law_43 hl (by decide) rfl (fun ls hl => ?_)
      refine lv_aload_n hx hb dL_law_45 rfl (lv_at hl 2 rfl) ?_
      refine lv_iconst (v := nI 4) hx hb dL_law_46 (by decide) ?_
      obtain ⟨fa9, ca9, ta9, ea9, ka9, oa9, hc9⟩ := hT.cell
      refine g_sVi (n9 := 1) (As := [.int (nI 4)]) (rest := []) hx hb hml hl.1 hown hts hS hK hX hM (c_X7_found l hst G _ b L xs 0 tt xa (31 * time + 7) hT hL (by omega)) wm_L_18 wi_X7_found wl_X7_found wn_X7 wc_X7_found (by decide +kernel) (hM.recv hK (ci := 8) rfl hc9) ⟨Nat.le_of_ble_eq_true rfl, Nat.le_of_ble_eq_true rfl⟩ ⟨by show 3000 * time + 1 + 20 + 1 + 20 + 44 ≤ 1048973; omega, by show 430000 * time + 12 + 72 + 12 + 72 + 2100 ≤ 5954851; omega⟩ rfl (Nat.le_of_ble_eq_true rfl) rfl dL_law_47 (fun r9 M3 H locs hq hM => ?_)
      clear hc9
      obtain ⟨er9, ⟨ztt, hT⟩, sb⟩ := hq
      subst er9
      replace hO := hO.sb sb (by omega)
      clear sb
      refine lv_if_eq (tgt := 61) hx hb dL_law_50 (by decide) (fun z9 => absurd z9 (by decide)) (fun _ => ?_)
      refine lv_aload_n hx hb dL_law_53 rfl (lv_at hl 1 rfl) ?_
      refine lv_iconst (v := nI 4) hx hb dL_law_54 (by decide) ?_
      obtain ⟨fa9, ca9, ta9, ea9, ka9, oa9, hc9⟩ := hO.cell
      refine g_sVi (n9 := 1) (As := [.int (nI 4)]) (rest := []) hx hb hml hl.1 hown hts hS hK hX hM (c_X7_found l hst G _ b L xs 10 oo xo (31 * time + 7) hO hL (by omega)) wm_L_18 wi_X7_found wl_X7_found wn_X7 wc_X7_found (by decide +kernel) (hM.recv hK (ci := 8) rfl hc9) ⟨Nat.le_of_ble_eq_true rfl, Nat.le_of_ble_eq_true rfl⟩ ⟨by show 3000 * time + 1 + 20 + 1 + 20 + 44 + 44 ≤ 1048973; omega, by show 430000 * time + 12 + 72 + 12 + 72 + 2100 + 2100 ≤ 5954851; omega⟩ rfl (Nat.le_of_ble_eq_true rfl) rfl dL_law_55 (fun r9 M3 H locs hq hM => ?_)
      clear hc9
      obtain ⟨er9, ⟨zoo, hO⟩, sb⟩ := hq
      subst er9
      replace hT := hT.sb sb (by omega)
      clear sb
      refine lv_if_ne (tgt := 63) hx hb dL_law_58 (by decide) (fun _ => ?_) (fun z9 => absurd z9 (by decide))
      refine lv_iconst (v := nI 0) hx hb dL_law_63 (by decide) ?_
      refine lv_istore (lv' := [(5, .int (nI 0)), (4, .ref xa), (3, .ref oo), (2, .ref tt), (1, .int (nI time)), (0, .ref b)]) hx hb dL_law_64 hl (by decide) rfl (fun ls hl => ?_)
      obtain ⟨hI, hB⟩ := fdT_f (L := L) (xs := xs) (31 * time + 7)
      refine W.widen (k := 3000 * time + 200 + 400 * 0) (n := 430000 * time + 10000 + 60000 * 0) (by omega) (by omega) ?_
      refine rnds (D0 := (31 * time + 7) + 46) (c0 := 3000 * time + 200) (s0 := 430000 * time + 10000) (B := ffB L xs (31 * time + 7)) C0 (by omega) (by omega) (by omega) hk (fun M9 H locs ls hM hl => ?_) 8 0 (by decide) (by decide) _ _ _ _ _ 0 0 1000 (by rw [nI_0]; exact hT) (by rw [nI_0]; exact hO) hI hB (Nat.zero_le _) (Nat.zero_le _) hM (lv_sub hl [0, 5, 4, 3, 2, 1] rfl)
      refine lv_iinc (v := nI (time + 1)) (lv' := [(1, .int (nI (time + 1))), (0, .ref b)]) hx hb dL_law_651 hl (k := 1) rfl (nI_1 time) (by decide) rfl (fun ls hl => ?_)
      refine lv_goto (tgt := 2) hx hb dL_law_654 (by decide) ?_
      refine W.widen (k := 3000 * (time + 1)) (n := 430000 * (time + 1)) (by omega) (by omega) ?_
      exact ih (time + 1) (by omega) (by omega) M9 _ _ _ hM hl
end L8

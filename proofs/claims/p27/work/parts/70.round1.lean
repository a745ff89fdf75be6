/-! a round of the law: what is drawn and asked -/
section L1
variable {p : Program} {l : Launch} {e : Env} {s : State} {m : MethodId} {args : Array Value} {below : List Frame} {meth : Method} {c : Code} {H : Heap} {locs : List Loc} {cells slots : Nat} {Q : State → Prop}
variable {ls : Array Slot} {G : GG} {M : HM} {b L tt oo xa xo time k D Do n4 nw f wm ai hr : Nat} {xs : Nat → Int32} {B : Nat → Int32} {z z2 : Int32} {T : Tb} {now money : Int32}
set_option maxHeartbeats 4000000 in
set_option maxRecDepth 100000 in
theorem sg1 (C : LH p l s m args c G b L xs) (hM : Wd G M s H locs) (hT : TO G M 0 tt xa b (D) 4 2 2 2 B z (Nq n4) T now money) (hO : TO G M 10 oo xo b Do 4 2 2 2 B z2 (Nq n4) T now money) (hI : Iv 4 2 2 T) (hD : D < 5000) (hc : cells + 400 ≤ 1048973 ∧ slots + 60000 ≤ 5954851) (hl : lv_has ls 24 [(5, .int (nI k)), (0, .ref b), (1, .int (nI time)), (2, .ref tt), (3, .ref oo), (4, .ref xa)])
    (kk : ∀ (M1 : HM) (H : Heap) (locs : List Loc) (ls : Array Slot) (f wm ai hr : Nat) (nx wt rd : Int32), f < 4 → wm ≤ 45 → ai ≤ 100 → 1 ≤ hr → hr ≤ 12 → nx = (nfP (Nq n4) T 1 now 400 money (nI 0) (nI hr) (nI wm) (nI ai) 4).1 → wt = (t_X2_uncut_0 (T 0 f 2) (T 0 f 5)) * ((t_X2_brings_0 (T 0 f 3) (T 0 f 8)) - (t_X2_brings_0 (fhP now (nI wm) (nI ai) 0 hr (T 0 f) 3) (fhP now (nI wm) (nI ai) 0 hr (T 0 f) 8))) → rd = rdQ now (nI wm) (nI ai) (T 0 f) → TO G M1 0 tt xa b (D + 4) 4 2 2 2 B z (Nq n4) T now money → TO G M1 10 oo xo b Do 4 2 2 2 B z2 (Nq n4) T now money → Wd G M1 s H locs → lv_has ls 24 [(14, .int nx), (13, .int wt), (12, .int rd), (9, .int (nI hr)), (8, .int (nI ai)), (7, .int (nI wm)), (6, .int (nI f)), (5, .int (nI k)), (0, .ref b), (1, .int (nI time)), (2, .ref tt), (3, .ref oo), (4, .ref xa)] → W p l e room_1 s m args below meth c H locs (cells + 113) (slots + 1798) Q (F0 m 185 ls [])) : W p l e room_1 s m args below meth c H locs cells slots Q (F0 m 73 ls []) := by
  obtain ⟨hx, hb, hml, hown, hts, hS, hK, hX, hst, hL⟩ := C
  obtain ⟨hc1, hc2⟩ := hc
  have e0 : ix (nI 0) = 0 := nI_clamp (by decide)
  refine lv_aload_n hx hb dL_law_73 rfl (lv_at hl 3 rfl) ?_
  refine lv_iconst (v := nI 4) hx hb dL_law_74 (by decide) ?_
  refine r_draw hx hb hml hl.1 hown hts hS hK hX hM hT hL (by omega) (by decide) (by decide) wm_L_22 ⟨Nat.le_of_ble_eq_true rfl, Nat.le_of_ble_eq_true rfl⟩ ⟨by show cells ≤ 1048973; omega, by show slots ≤ 5954851; omega⟩ (Nat.le_of_ble_eq_true rfl) dL_law_75 (fun M1 H locs hT sb hM => ?_)
  replace hO := hO.sb sb (by omega)
  clear sb
  obtain ⟨f, ef⟩ : ∃ q, q = drN L xs (D) 4 := ⟨_, rfl⟩
  have hf : f < 4 := by rw [ef]; exact drN_lt (by decide)
  rw [← ef]
  clear ef
  refine lv_istore (lv' := [(6, .int (nI f)), (5, .int (nI k)), (0, .ref b), (1, .int (nI time)), (2, .ref tt), (3, .ref oo), (4, .ref xa)]) hx hb dL_law_78 hl (by decide) rfl (fun ls hl => ?_)
  refine lv_bipush (v := nI 10) hx hb dL_law_80 (by decide) ?_
  refine lv_aload_n hx hb dL_law_82 rfl (lv_at hl 4 rfl) ?_
  refine lv_bipush (v := nI 30) hx hb dL_law_83 (by decide) ?_
  refine r_draw hx hb hml hl.1 hown hts hS hK hX hM hT hL (by omega) (by decide) (by decide) wm_L_22 ⟨Nat.le_of_ble_eq_true rfl, Nat.le_of_ble_eq_true rfl⟩ ⟨by show cells ≤ 1048973; omega, by show slots ≤ 5954851; omega⟩ (Nat.le_of_ble_eq_true rfl) dL_law_85 (fun M1 H locs hT sb hM => ?_)
  replace hO := hO.sb sb (by omega)
  clear sb
  obtain ⟨w0, ew0⟩ : ∃ q, q = drN L xs (D + 1) 30 := ⟨_, rfl⟩
  have hw0 : w0 < 30 := by rw [ew0]; exact drN_lt (by decide)
  rw [← ew0]
  clear ew0
  refine lv_iadd hx hb dL_law_88 ?_
  rw [nI_add 10 w0]
  obtain ⟨wm, ewm⟩ : ∃ q, q = 10 + w0 := ⟨_, rfl⟩
  rw [← ewm]
  refine lv_istore (lv' := [(7, .int (nI wm)), (6, .int (nI f)), (5, .int (nI k)), (0, .ref b), (1, .int (nI time)), (2, .ref tt), (3, .ref oo), (4, .ref xa)]) hx hb dL_law_89 hl (by decide) rfl (fun ls hl => ?_)
  refine lv_aload_n hx hb dL_law_91 rfl (lv_at hl 5 rfl) ?_
  refine lv_bipush (v := nI 70) hx hb dL_law_92 (by decide) ?_
  refine r_draw hx hb hml hl.1 hown hts hS hK hX hM hT hL (by omega) (by decide) (by decide) wm_L_22 ⟨Nat.le_of_ble_eq_true rfl, Nat.le_of_ble_eq_true rfl⟩ ⟨by show cells ≤ 1048973; omega, by show slots ≤ 5954851; omega⟩ (Nat.le_of_ble_eq_true rfl) dL_law_94 (fun M1 H locs hT sb hM => ?_)
  replace hO := hO.sb sb (by omega)
  clear sb
  obtain ⟨ai, eai⟩ : ∃ q, q = drN L xs (D + 1 + 1) 70 := ⟨_, rfl⟩
  have hai : ai < 70 := by rw [eai]; exact drN_lt (by decide)
  rw [← eai]
  clear eai
  refine lv_istore (lv' := [(8, .int (nI ai)), (7, .int (nI wm)), (6, .int (nI f)), (5, .int (nI k)), (0, .ref b), (1, .int (nI time)), (2, .ref tt), (3, .ref oo), (4, .ref xa)]) hx hb dL_law_97 hl (by decide) rfl (fun ls hl => ?_)
  refine lv_iconst (v := nI 1) hx hb dL_law_99 (by decide) ?_
  refine lv_aload_n hx hb dL_law_100 rfl (lv_at hl 6 rfl) ?_
  refine lv_bipush (v := nI 12) hx hb dL_law_101 (by decide) ?_
  refine r_draw hx hb hml hl.1 hown hts hS hK hX hM hT hL (by omega) (by decide) (by decide) wm_L_22 ⟨Nat.le_of_ble_eq_true rfl, Nat.le_of_ble_eq_true rfl⟩ ⟨by show cells ≤ 1048973; omega, by show slots ≤ 5954851; omega⟩ (Nat.le_of_ble_eq_true rfl) dL_law_103 (fun M1 H locs hT sb hM => ?_)
  replace hO := hO.sb sb (by omega)
  clear sb
  obtain ⟨h0, eh0⟩ : ∃ q, q = drN L xs (D + 1 + 1 + 1) 12 := ⟨_, rfl⟩
  have hh0 : h0 < 12 := by rw [eh0]; exact drN_lt (by decide)
  rw [← eh0]
  clear eh0
  refine lv_iadd hx hb dL_law_106 ?_
  rw [nI_add 1 h0]
  obtain ⟨hr, ehr⟩ : ∃ q, q = 1 + h0 := ⟨_, rfl⟩
  rw [← ehr]
  refine lv_istore (lv' := [(9, .int (nI hr)), (8, .int (nI ai)), (7, .int (nI wm)), (6, .int (nI f)), (5, .int (nI k)), (0, .ref b), (1, .int (nI time)), (2, .ref tt), (3, .ref oo), (4, .ref xa)]) hx hb dL_law_107 hl (by decide) rfl (fun ls hl => ?_)
  have ef : ix (nI f) = f := nI_clamp (by omega)
  have eh : ix (nI hr) = hr := nI_clamp (by omega)
  refine lv_aload hx hb dL_law_109 (lv_at hl 9 rfl) ?_
  refine r_digest hx hb hml hl.1 hown hts hK hX hst hM hT.wr hI wm_L_26 ⟨Nat.le_of_ble_eq_true rfl, Nat.le_of_ble_eq_true rfl⟩ ⟨by show cells + 30 ≤ 1048973; omega, by show slots + 460 ≤ 5954851; omega⟩ (Nat.le_of_ble_eq_true rfl) dL_law_111 (fun M1 H locs hw sx hM => ?_)
  replace hO := hO.sb (Sb.sx sx) (by omega)
  replace hT := hT.face hw sx
  clear hw sx
  obtain ⟨dg, edg⟩ : ∃ q, q = dgQ (Nq n4) T 0 1 now 400 money := ⟨_, rfl⟩
  rw [← edg]
  refine lv_lstore (lv' := [(10, .long dg), (9, .int (nI hr)), (8, .int (nI ai)), (7, .int (nI wm)), (6, .int (nI f)), (5, .int (nI k)), (0, .ref b), (1, .int (nI time)), (2, .ref tt), (3, .ref oo), (4, .ref xa)]) hx hb dL_law_114 hl (by decide) rfl (fun ls hl => ?_)
  refine lv_aload hx hb dL_law_116 (lv_at hl 10 rfl) ?_
  refine lv_iload hx hb dL_law_118 (lv_at hl 4 rfl) ?_
  refine lv_iload hx hb dL_law_120 (lv_at hl 3 rfl) ?_
  refine lv_iload hx hb dL_law_122 (lv_at hl 2 rfl) ?_
  refine r_readyIn hx hb hml hl.1 hown hts hK hX hst hM hT.wr (kz_readyIn hf (by omega) (by omega)) wm_L_32 ⟨Nat.le_of_ble_eq_true rfl, Nat.le_of_ble_eq_true rfl⟩ ⟨by show cells + 30 + 1 ≤ 1048973; omega, by show slots + 460 + 6 ≤ 5954851; omega⟩ (Nat.le_of_ble_eq_true rfl) dL_law_124 (fun M1 H locs hw sx hM => ?_)
  replace hO := hO.sb (Sb.sx sx) (by omega)
  replace hT := hT.face hw sx
  clear hw sx
  rw [ef]
  obtain ⟨rd, erd⟩ : ∃ q, q = rdQ now (nI wm) (nI ai) (T 0 f) := ⟨_, rfl⟩
  rw [← erd]
  refine lv_istore (lv' := [(12, .int rd), (10, .long dg), (9, .int (nI hr)), (8, .int (nI ai)), (7, .int (nI wm)), (6, .int (nI f)), (5, .int (nI k)), (0, .ref b), (1, .int (nI time)), (2, .ref tt), (3, .ref oo), (4, .ref xa)]) hx hb dL_law_127 hl (by decide) rfl (fun ls hl => ?_)
  refine lv_aload hx hb dL_law_129 (lv_at hl 11 rfl) ?_
  refine lv_iload hx hb dL_law_131 (lv_at hl 5 rfl) ?_
  refine lv_iload hx hb dL_law_133 (lv_at hl 2 rfl) ?_
  refine lv_iload hx hb dL_law_135 (lv_at hl 4 rfl) ?_
  refine lv_iload hx hb dL_law_137 (lv_at hl 3 rfl) ?_
  refine lv_iconst (v := (0 : Int32)) hx hb dL_law_139 (by decide) ?_
  refine r_waiting hx hb hml hl.1 hown hts hK hX hst hM hT.wr (kz_waiting hf (by omega) (by omega) (by omega) (by omega)) wm_L_36 ⟨Nat.le_of_ble_eq_true rfl, Nat.le_of_ble_eq_true rfl⟩ ⟨by show cells + 30 + 1 + 1 ≤ 1048973; omega, by show slots + 460 + 6 + 6 ≤ 5954851; omega⟩ (Nat.le_of_ble_eq_true rfl) dL_law_140 (fun M1 H locs hw sx hM => ?_)
  replace hO := hO.sb (Sb.sx sx) (by omega)
  replace hT := hT.face hw sx
  clear hw sx
  rw [ef, eh]
  obtain ⟨wt, ewt⟩ : ∃ q, q = (t_X2_uncut_0 (T 0 f 2) (T 0 f 5)) * ((t_X2_brings_0 (T 0 f 3) (T 0 f 8)) - (t_X2_brings_0 (fhP now (nI wm) (nI ai) 0 hr (T 0 f) 3) (fhP now (nI wm) (nI ai) 0 hr (T 0 f) 8))) := ⟨_, rfl⟩
  rw [← ewt]
  refine lv_istore (lv' := [(13, .int wt), (12, .int rd), (10, .long dg), (9, .int (nI hr)), (8, .int (nI ai)), (7, .int (nI wm)), (6, .int (nI f)), (5, .int (nI k)), (0, .ref b), (1, .int (nI time)), (2, .ref tt), (3, .ref oo), (4, .ref xa)]) hx hb dL_law_143 hl (by decide) rfl (fun ls hl => ?_)
  refine lv_aload hx hb dL_law_145 (lv_at hl 12 rfl) ?_
  refine lv_iconst (v := nI 0) hx hb dL_law_147 (by decide) ?_
  refine lv_iload hx hb dL_law_148 (lv_at hl 3 rfl) ?_
  refine lv_iload hx hb dL_law_150 (lv_at hl 5 rfl) ?_
  refine lv_iload hx hb dL_law_152 (lv_at hl 4 rfl) ?_
  refine r_nextField hx hb hml hl.1 hown hts hK hX hst hM hT.wr hI (kz_nextField (by omega) (by omega) (by omega) (by omega)) wm_L_40 ⟨Nat.le_of_ble_eq_true rfl, Nat.le_of_ble_eq_true rfl⟩ ⟨by show cells + 30 + 1 + 1 + 21 ≤ 1048973; omega, by show slots + 460 + 6 + 6 + 406 ≤ 5954851; omega⟩ (Nat.le_of_ble_eq_true rfl) dL_law_154 (fun M1 H locs hw sx hM => ?_)
  replace hO := hO.sb (Sb.sx sx) (by omega)
  replace hT := hT.face hw sx
  clear hw sx
  obtain ⟨nx, enx⟩ : ∃ q, q = (nfP (Nq n4) T 1 now 400 money (nI 0) (nI hr) (nI wm) (nI ai) 4).1 := ⟨_, rfl⟩
  rw [← enx]
  refine lv_istore (lv' := [(14, .int nx), (13, .int wt), (12, .int rd), (10, .long dg), (9, .int (nI hr)), (8, .int (nI ai)), (7, .int (nI wm)), (6, .int (nI f)), (5, .int (nI k)), (0, .ref b), (1, .int (nI time)), (2, .ref tt), (3, .ref oo), (4, .ref xa)]) hx hb dL_law_157 hl (by decide) rfl (fun ls hl => ?_)
  refine lv_aload hx hb dL_law_159 (lv_at hl 13 rfl) ?_
  refine r_digest hx hb hml hl.1 hown hts hK hX hst hM hT.wr hI wm_L_26 ⟨Nat.le_of_ble_eq_true rfl, Nat.le_of_ble_eq_true rfl⟩ ⟨by show cells + 30 + 1 + 1 + 21 + 30 ≤ 1048973; omega, by show slots + 460 + 6 + 6 + 406 + 460 ≤ 5954851; omega⟩ (Nat.le_of_ble_eq_true rfl) dL_law_161 (fun M1 H locs hw sx hM => ?_)
  replace hO := hO.sb (Sb.sx sx) (by omega)
  replace hT := hT.face hw sx
  clear hw sx
  rw [← edg]
  refine lv_lload hx hb dL_law_164 (lv_at hl 3 rfl) ?_
  refine W.lcmp hx hb dL_law_166 ?_
  rw [cmp_s]
  refine lv_if_ne (tgt := 183) hx hb dL_law_167 (by decide) (fun z9 => absurd rfl z9) (fun _ => ?_)
  refine lv_aload_n hx hb dL_law_170 rfl (lv_at hl 12 rfl) ?_
  obtain ⟨fa9, ca9, ta9, ea9, ka9, oa9, hc9⟩ := hO.cell
  refine fg_L_14 hx hb hts hown hK hM hc9 dL_law_171 ?_
  clear hc9
  refine r_digest hx hb hml hl.1 hown hts hK hX hst hM hO.wr hI wm_L_26 ⟨Nat.le_of_ble_eq_true rfl, Nat.le_of_ble_eq_true rfl⟩ ⟨by show cells + 30 + 1 + 1 + 21 + 30 + 30 ≤ 1048973; omega, by show slots + 460 + 6 + 6 + 406 + 460 + 460 ≤ 5954851; omega⟩ (Nat.le_of_ble_eq_true rfl) dL_law_174 (fun M1 H locs hw sx hM => ?_)
  replace hT := hT.sb (Sb.sx sx) (by omega)
  replace hO := hO.face hw sx
  clear hw sx
  rw [← edg]
  refine lv_lload hx hb dL_law_177 (lv_at hl 3 rfl) ?_
  refine W.lcmp hx hb dL_law_179 ?_
  rw [cmp_s]
  refine lv_if_eq (tgt := 185) hx hb dL_law_180 (by decide) (fun _ => ?_) (fun z9 => absurd rfl z9)
  refine W.widen (k := cells + 113) (n := slots + 1798) (by omega) (by omega) ?_
  exact kk _ _ _ _ f wm ai hr nx wt rd hf (by omega) (by omega) (by omega) (by omega) enx ewt erd hT hO hM (lv_sub hl [0, 1, 2, 4, 5, 6, 7, 8, 9, 10, 11, 12, 13] rfl)
end L1

/-! a round of the law: a combine is sent to the next field -/
section L2
variable {p : Program} {l : Launch} {e : Env} {s : State} {m : MethodId} {args : Array Value} {below : List Frame} {meth : Method} {c : Code} {H : Heap} {locs : List Loc} {cells slots : Nat} {Q : State → Prop}
variable {ls : Array Slot} {G : GG} {M : HM} {b L tt oo xa xo time k D Do n4 nw f wm ai hr : Nat} {xs : Nat → Int32} {B : Nat → Int32} {z z2 : Int32} {T : Tb} {now money : Int32}
variable {nx wt rd : Int32}
set_option maxHeartbeats 4000000 in
set_option maxRecDepth 100000 in
theorem sg2 (C : LH p l s m args c G b L xs) (hM : Wd G M s H locs) (hT : TO G M 0 tt xa b (D) 4 2 2 2 B z (Nq n4) T now money) (hO : TO G M 10 oo xo b Do 4 2 2 2 B z2 (Nq n4) T now money) (hI : Iv 4 2 2 T) (hf : f < 4) (hwm : wm ≤ 45) (hai : ai ≤ 100) (hh1 : 1 ≤ hr) (hh2 : hr ≤ 12) (hk9 : k < 100) (enx : nx = (nfP (Nq n4) T 1 now 400 money (nI 0) (nI hr) (nI wm) (nI ai) 4).1) (hc : cells + 200 ≤ 1048973 ∧ slots + 50000 ≤ 5954851) (hl : lv_has ls 24 [(14, .int nx), (13, .int wt), (12, .int rd), (9, .int (nI hr)), (8, .int (nI ai)), (7, .int (nI wm)), (6, .int (nI f)), (5, .int (nI k)), (0, .ref b), (1, .int (nI time)), (2, .ref tt), (3, .ref oo), (4, .ref xa)])
    (kk : ∀ (M1 : HM) (H : Heap) (locs : List Loc) (ls : Array Slot) (al : Int32) (T' : Tb), (al = 0 ∨ ∀ i, i < 2 → ¬ T 1 i 9 = nI f) → ((T' = T ∧ (nx < 0 ∨ ¬ k % 2 = 0)) ∨ (k % 2 = 0 ∧ ∃ j, j < 4 ∧ nx = nI j ∧ 0 < bsP (Nq n4) T 1 now 400 money (nI 0) (nI j) (nI hr) (nI wm) (nI ai) ∧ T' = tu T 1 0 (upd (T 1 0) 9 (nI j)))) → TO G M1 0 tt xa b (D) 4 2 2 2 B z (Nq n4) T' now money → TO G M1 10 oo xo b Do 4 2 2 2 B z2 (Nq n4) T' now money → Wd G M1 s H locs → lv_has ls 24 [(17, .int (T 0 f 2 - T 0 f 5)), (16, .int (T 0 f 8)), (15, .int al), (14, .int nx), (13, .int wt), (12, .int rd), (9, .int (nI hr)), (8, .int (nI ai)), (7, .int (nI wm)), (6, .int (nI f)), (5, .int (nI k)), (0, .ref b), (1, .int (nI time)), (2, .ref tt), (3, .ref oo), (4, .ref xa)] → W p l e room_1 s m args below meth c H locs (cells + 27) (slots + 442) Q (F0 m 285 ls [])) : W p l e room_1 s m args below meth c H locs cells slots Q (F0 m 185 ls []) := by
  obtain ⟨hx, hb, hml, hown, hts, hS, hK, hX, hst, hL⟩ := C
  obtain ⟨hc1, hc2⟩ := hc
  have e0 : ix (nI 0) = 0 := nI_clamp (by decide)
  refine lv_aload hx hb dL_law_185 (lv_at hl 12 rfl) ?_
  refine lv_iload hx hb dL_law_187 (lv_at hl 6 rfl) ?_
  refine lv_bipush (v := nI 11) hx hb dL_law_189 (by decide) ?_
  refine r_ofField hx hb hml hl.1 hown hts hK hX hst hM hT.wr (kz_ofField hf (by decide)) wm_L_44 ⟨Nat.le_of_ble_eq_true rfl, Nat.le_of_ble_eq_true rfl⟩ ⟨by show cells + 1 ≤ 1048973; omega, by show slots + 6 ≤ 5954851; omega⟩ (Nat.le_of_ble_eq_true rfl) dL_law_191 (fun H locs hM => ?_)
  rw [qf_11]
  have Z : ∀ al : Int32, (al = 0 ∨ ∀ i, i < 2 → ¬ T 1 i 9 = nI f) → W p l e room_1 s m args below meth c H locs (cells + 1) (slots + 6) Q (F0 m 202 ls [.int al]) := by
    intro al hal
    refine lv_istore (lv' := [(15, .int al), (14, .int nx), (13, .int wt), (12, .int rd), (9, .int (nI hr)), (8, .int (nI ai)), (7, .int (nI wm)), (6, .int (nI f)), (5, .int (nI k)), (0, .ref b), (1, .int (nI time)), (2, .ref tt), (3, .ref oo), (4, .ref xa)]) hx hb dL_law_202 hl (by decide) rfl (fun ls hl => ?_)
    refine lv_aload hx hb dL_law_204 (lv_at hl 13 rfl) ?_
    refine lv_iload hx hb dL_law_206 (lv_at hl 7 rfl) ?_
    refine lv_bipush (v := nI 6) hx hb dL_law_208 (by decide) ?_
    refine r_ofField hx hb hml hl.1 hown hts hK hX hst hM hT.wr (kz_ofField hf (by decide)) wm_L_44 ⟨Nat.le_of_ble_eq_true rfl, Nat.le_of_ble_eq_true rfl⟩ ⟨by show cells + 1 + 1 ≤ 1048973; omega, by show slots + 6 + 6 ≤ 5954851; omega⟩ (Nat.le_of_ble_eq_true rfl) dL_law_210 (fun H locs hM => ?_)
    rw [qf_6 hf]
    refine lv_istore (lv' := [(16, .int (T 0 f 8)), (15, .int al), (14, .int nx), (13, .int wt), (12, .int rd), (9, .int (nI hr)), (8, .int (nI ai)), (7, .int (nI wm)), (6, .int (nI f)), (5, .int (nI k)), (0, .ref b), (1, .int (nI time)), (2, .ref tt), (3, .ref oo), (4, .ref xa)]) hx hb dL_law_213 hl (by decide) rfl (fun ls hl => ?_)
    refine lv_aload hx hb dL_law_215 (lv_at hl 14 rfl) ?_
    refine lv_iload hx hb dL_law_217 (lv_at hl 8 rfl) ?_
    refine lv_iconst (v := nI 2) hx hb dL_law_219 (by decide) ?_
    refine r_ofField hx hb hml hl.1 hown hts hK hX hst hM hT.wr (kz_ofField hf (by decide)) wm_L_44 ⟨Nat.le_of_ble_eq_true rfl, Nat.le_of_ble_eq_true rfl⟩ ⟨by show cells + 1 + 1 + 1 ≤ 1048973; omega, by show slots + 6 + 6 + 6 ≤ 5954851; omega⟩ (Nat.le_of_ble_eq_true rfl) dL_law_220 (fun H locs hM => ?_)
    rw [qf_2 hf]
    refine lv_aload hx hb dL_law_223 (lv_at hl 14 rfl) ?_
    refine lv_iload hx hb dL_law_225 (lv_at hl 8 rfl) ?_
    refine lv_iconst (v := nI 3) hx hb dL_law_227 (by decide) ?_
    refine r_ofField hx hb hml hl.1 hown hts hK hX hst hM hT.wr (kz_ofField hf (by decide)) wm_L_44 ⟨Nat.le_of_ble_eq_true rfl, Nat.le_of_ble_eq_true rfl⟩ ⟨by show cells + 1 + 1 + 1 + 1 ≤ 1048973; omega, by show slots + 6 + 6 + 6 + 6 ≤ 5954851; omega⟩ (Nat.le_of_ble_eq_true rfl) dL_law_228 (fun H locs hM => ?_)
    rw [qf_3 hf]
    refine lv_isub hx hb dL_law_231 ?_
    refine lv_istore (lv' := [(17, .int ((T 0 f 2) - (T 0 f 5))), (16, .int (T 0 f 8)), (15, .int al), (14, .int nx), (13, .int wt), (12, .int rd), (9, .int (nI hr)), (8, .int (nI ai)), (7, .int (nI wm)), (6, .int (nI f)), (5, .int (nI k)), (0, .ref b), (1, .int (nI time)), (2, .ref tt), (3, .ref oo), (4, .ref xa)]) hx hb dL_law_232 hl (by decide) rfl (fun ls hl => ?_)
    refine lv_iload hx hb dL_law_234 (lv_at hl 3 rfl) ?_
    refine lv_if_lt (tgt := 285) hx hb dL_law_236 (by decide) (fun c1 => ?_) (fun c1 => ?_)
    · refine W.widen (k := cells + 27) (n := slots + 442) (by omega) (by omega) ?_
      exact kk _ _ _ _ al T hal (Or.inl ⟨rfl, Or.inl c1⟩) hT hO hM (lv_sub hl [0, 1, 2, 3, 4, 5, 6, 7, 8, 9, 10, 11, 12, 13, 14, 15] rfl)
    · skip
      refine lv_iload hx hb dL_law_239 (lv_at hl 10 rfl) ?_
      refine lv_iconst (v := nI 2) hx hb dL_law_241 (by decide) ?_
      refine lv_irem hx hb dL_law_242 (nI_ne0 (by decide) (by decide)) ?_
      rw [pk_rem (by omega) (by decide) (by decide)]
      refine lv_if_ne (tgt := 285) hx hb dL_law_243 (by decide) (fun c2 => ?_) (fun c2 => ?_)
      · refine W.widen (k := cells + 27) (n := slots + 442) (by omega) (by omega) ?_
        exact kk _ _ _ _ al T hal (Or.inl ⟨rfl, Or.inr (fun z9 => c2 (by rw [z9]; decide))⟩) hT hO hM (lv_sub hl [0, 1, 2, 3, 4, 5, 6, 7, 8, 9, 10, 11, 12, 13, 14, 15] rfl)
      · skip
        have hk2 : k % 2 = 0 := by
          have q := (nI_eq (a := k % 2) (b := 0) (by omega) (by decide)).mp (c2.trans nI_0.symm)
          exact q
        obtain ⟨j, hj, ej, hbs⟩ : ∃ j, j < 4 ∧ nx = nI j ∧ 0 < bsP (Nq n4) T 1 now 400 money (nI 0) (nI j) (nI hr) (nI wm) (nI ai) := by
          rcases nfP_m1 (N := Nq n4) (T := T) (tr := 1) (now := now) (price := 400) (money := money) (c := nI 0) (h := nI hr) (w := nI wm) (a := nI ai) (n := 4) with q | ⟨j, q1, q2, q3⟩
          · exact absurd (by rw [enx, q]; decide) c1
          · exact ⟨j, q1, enx.trans q2, q3⟩
        obtain ⟨T', eT'⟩ : ∃ T', T' = tu T 1 0 (upd (T 1 0) 9 (nI j)) := ⟨_, rfl⟩
        have hI' : Iv 4 2 2 T' := by rw [eT']; exact hI.put (fun z9 => by omega) (fun _ hi => hI.2.1 0 hi) (fun z9 => by omega)
        have kc : kc_X6_cut (Nq n4) T 0 now 400 money (nI 0) nx = 0 := by rw [ej]; exact kz_cut (by decide) hj
        refine lv_aload hx hb dL_law_246 (lv_at hl 15 rfl) ?_
        refine lv_iconst (v := nI 0) hx hb dL_law_248 (by decide) ?_
        refine lv_iload hx hb dL_law_249 (lv_at hl 3 rfl) ?_
        refine r_cut hx hb hml hl.1 hown hts hK hX hst hM hT.wr kc wm_L_48 ⟨Nat.le_of_ble_eq_true rfl, Nat.le_of_ble_eq_true rfl⟩ ⟨by show cells + 1 + 1 + 1 + 1 + 1 ≤ 1048973; omega, by show slots + 6 + 6 + 6 + 6 + 6 ≤ 5954851; omega⟩ (Nat.le_of_ble_eq_true rfl) dL_law_251 (fun M1 H locs hw sx hM => ?_)
        rw [e0, ej, ← eT'] at hw
        replace hO := hO.sb (Sb.sx sx) (by omega)
        replace hT := hT.face hw sx
        clear hw sx
        refine lv_pop hx hb dL_law_254 rfl ?_
        refine lv_aload_n hx hb dL_law_255 rfl (lv_at hl 14 rfl) ?_
        obtain ⟨fa9, ca9, ta9, ea9, ka9, oa9, hc9⟩ := hO.cell
        refine fg_L_14 hx hb hts hown hK hM hc9 dL_law_256 ?_
        clear hc9
        refine lv_iconst (v := nI 0) hx hb dL_law_259 (by decide) ?_
        refine lv_iload hx hb dL_law_260 (lv_at hl 3 rfl) ?_
        refine r_cut hx hb hml hl.1 hown hts hK hX hst hM hO.wr kc wm_L_48 ⟨Nat.le_of_ble_eq_true rfl, Nat.le_of_ble_eq_true rfl⟩ ⟨by show cells + 1 + 1 + 1 + 1 + 1 + 1 ≤ 1048973; omega, by show slots + 6 + 6 + 6 + 6 + 6 + 6 ≤ 5954851; omega⟩ (Nat.le_of_ble_eq_true rfl) dL_law_262 (fun M1 H locs hw sx hM => ?_)
        rw [e0, ej, ← eT'] at hw
        replace hT := hT.sb (Sb.sx sx) (by omega)
        replace hO := hO.face hw sx
        clear hw sx
        refine lv_pop hx hb dL_law_265 rfl ?_
        refine lv_aload hx hb dL_law_266 (lv_at hl 15 rfl) ?_
        refine lv_iconst (v := nI 0) hx hb dL_law_268 (by decide) ?_
        refine lv_iload hx hb dL_law_269 (lv_at hl 6 rfl) ?_
        refine lv_iload hx hb dL_law_271 (lv_at hl 8 rfl) ?_
        refine lv_iload hx hb dL_law_273 (lv_at hl 7 rfl) ?_
        refine r_nextField hx hb hml hl.1 hown hts hK hX hst hM hT.wr hI' (kz_nextField (by omega) (by omega) (by omega) (by omega)) wm_L_40 ⟨Nat.le_of_ble_eq_true rfl, Nat.le_of_ble_eq_true rfl⟩ ⟨by show cells + 1 + 1 + 1 + 1 + 1 + 1 + 21 ≤ 1048973; omega, by show slots + 6 + 6 + 6 + 6 + 6 + 6 + 406 ≤ 5954851; omega⟩ (Nat.le_of_ble_eq_true rfl) dL_law_275 (fun M1 H locs hw sx hM => ?_)
        replace hO := hO.sb (Sb.sx sx) (by omega)
        replace hT := hT.face hw sx
        clear hw sx
        have est : (nfP (Nq n4) T' 1 now 400 money (nI 0) (nI hr) (nI wm) (nI ai) 4).1 = nx := by rw [ej, eT']; exact nfP_stay (by decide) (by decide) hj (by rw [← enx]; exact ej)
        rw [est]
        refine lv_iload hx hb dL_law_278 (lv_at hl 3 rfl) ?_
        refine lv_icmp_eq (tgt := 285) hx hb dL_law_280 (by decide) (fun _ => ?_) (fun z9 => absurd rfl z9)
        refine W.widen (k := cells + 27) (n := slots + 442) (by omega) (by omega) ?_
        exact kk _ _ _ _ al T' hal (Or.inr ⟨hk2, j, hj, ej, hbs, eT'⟩) hT hO hM (lv_sub hl [0, 1, 2, 3, 4, 5, 6, 7, 8, 9, 10, 11, 12, 13, 14, 15] rfl)
  refine lv_if_ne (tgt := 201) hx hb dL_law_194 (by decide) (fun c0 => ?_) (fun c0 => ?_)
  · refine lv_iconst (v := (0 : Int32)) hx hb dL_law_201 (by decide) ?_
    exact Z 0 (Or.inl rfl)
  · refine lv_iconst (v := (1 : Int32)) hx hb dL_law_197 (by decide) ?_
    refine lv_goto (tgt := 202) hx hb dL_law_198 (by decide) ?_
    exact Z 1 (Or.inr (alone c0))
end L2

section CS
variable {p : Program} {l : Launch} {e : Env} {s : State} {m : MethodId} {args : Array Value} {below : List Frame} {meth : Method} {c : Code} {H : Heap} {locs : List Loc} {cells slots : Nat} {Q : State → Prop}
variable {ls : Array Slot} {G : GG} {M : HM} {b L q xa ma oa cc : Nat} {xs : Nat → Int32}
set_option maxHeartbeats 4000000 in
set_option maxRecDepth 100000 in
theorem l_field (C : LH p l s m args c G b L xs) (hM : Wd G M s H locs) (hS : LwS G M xa ma oa cc cells slots) (hcc : cc < 512) (hq : q + 7 ≤ L) (hl : lv_has ls 9 [(0, .ref b), (1, .ref xa), (2, .ref ma), (3, .ref oa), (4, .int (nI q))])
    (kk : ∀ (M' : HM) (H : Heap) (locs : List Loc) (ls : Array Slot) (cells' slots' : Nat), LwS G M' xa ma oa (cc + 1) cells' slots' → Wd G M' s H locs → lv_has ls 9 [(0, .ref b), (1, .ref xa), (2, .ref ma), (3, .ref oa), (4, .int (nI q))] → W p l e room_1 s m args below meth c H locs cells' slots' Q (F0 m 1853 ls [])) : W p l e room_1 s m args below meth c H locs cells slots Q (F0 m 152 ls []) := by
  have C0 := C
  obtain ⟨hx, hb, hml, hown, hts, hY, hK, hX, hst, hSc, hbl, hbA, hL⟩ := C
  obtain ⟨N, T, U, now, price, money, F, Lx, Nt, ⟨h0, h2, h3, Y, Yt, Tt, a1, a2, a3, ft, c1, c2, c3, c4⟩, ⟨k0, fa, lb, th, Z, r1, r2⟩, ⟨fo, o1⟩, hSt, hnt, ec, es⟩ := hS
  have hN := hSt.2.1
  have hn4 := hSt.n4
  obtain ⟨n0, n1, n2, n3⟩ := id hN
  obtain ⟨t0, t1, t2, t3, t4⟩ := id hnt
  have tb : s4 Nt ≤ 19 := by show Nt 0 + Nt 1 + Nt 2 + Nt 3 ≤ 19; omega
  obtain ⟨sn, esn⟩ : ∃ z, z = s4 Nt := ⟨_, rfl⟩
  rw [← esn] at ec es tb
  refine lv_aload_n hx hb dL_law_152 rfl (lv_at hl 1 rfl) ?_
  refine s_arg (j := 1) (q := q) C0 hM (lv_at hl 0 rfl) (lv_at hl 4 rfl) (by omega) (by decide) dL_law_153 dL_law_154 dL_law_156 dL_law_157 dL_law_158 ?_
  refine s_arg (j := 2) (q := q) C0 hM (lv_at hl 0 rfl) (lv_at hl 4 rfl) (by omega) (by decide) dL_law_159 dL_law_160 dL_law_162 dL_law_163 dL_law_164 ?_
  refine s_arg (j := 3) (q := q) C0 hM (lv_at hl 0 rfl) (lv_at hl 4 rfl) (by omega) (by decide) dL_law_165 dL_law_166 dL_law_168 dL_law_169 dL_law_170 ?_
  refine s_arg (j := 4) (q := q) C0 hM (lv_at hl 0 rfl) (lv_at hl 4 rfl) (by omega) (by decide) dL_law_171 dL_law_172 dL_law_174 dL_law_175 dL_law_176 ?_
  refine s_arg (j := 5) (q := q) C0 hM (lv_at hl 0 rfl) (lv_at hl 4 rfl) (by omega) (by decide) dL_law_177 dL_law_178 dL_law_180 dL_law_181 dL_law_182 ?_
  refine lv_aload_n hx hb dL_law_183 rfl (lv_at hl 3 rfl) ?_
  refine g_callW (n9 := 7) (As := [.ref xa, .int (xs (q + 1)), .int (xs (q + 2)), .int (xs (q + 3)), .int (xs (q + 4)), .int (xs (q + 5)), .ref oa]) (rest := []) hx hb hml hl.1 hown hts hY hK hX hM (w_field l G M xa 1 oa 8 (kc_X6_field N T 0 now price money (xs (q + 1)) (xs (q + 2)) (xs (q + 3)) (xs (q + 4)) (xs (q + 5))) _ _ _ _ [.ref h0, .ref h2, .ref h3] (xs (q + 1)) (xs (q + 2)) (xs (q + 3)) (xs (q + 4)) (xs (q + 5)) _ (c_X6_field l hst G M xa 1 h2 h3 2 h0 Y N T 0 now price money (xs (q + 1)) (xs (q + 2)) (xs (q + 3)) (xs (q + 4)) (xs (q + 5)) c1 (by decide) c2) c1 ks_field (fun v M1 z => ⟨z.1, fo, by obtain ⟨-, -, Y9, -, hF⟩ := z; exact hF _ _ _ (by decide) o1⟩)) wm_L_92 wt_L_field wn_L wx_L_field (by decide +kernel) ⟨Nat.le_of_ble_eq_true rfl, Nat.le_of_ble_eq_true rfl⟩ ⟨by show cells + (2) ≤ 601024; rw [ec]; unfold CB; omega, by show slots + (60) ≤ 7293034; rw [es]; unfold SB; omega⟩ rfl (Nat.le_of_ble_eq_true rfl) rfl dL_law_184 (fun r M1 H locs hq1 hM => ?_)
  obtain ⟨er, hcase⟩ := hq1
  subst er
  have hsr : Sv M M1 rR := by
    rcases hcase with ⟨-, v, Ma, f, hP1, -, e1⟩ | ⟨-, e1⟩
    · obtain ⟨-, -, Y9, -, hF⟩ := hP1
      rw [e1]
      exact Sv.tr (M1 := Ma) (Sv.fr hF (by decide)) (Sv.up (e0 := loE G fo) (hF _ _ _ (by decide) o1) (by decide))
    · rw [e1]
      exact Sv.rf
  have r1' := r1.same (fun q e hq => hsr _ _ _ (Or.inl rfl) hq)
  have r2' := r2.same (fun q e hq => hsr _ _ _ (Or.inr rfl) hq)
  refine lv_istore (lv' := [(5, .int ((pcd 1 2 3) (kc_X6_field N T 0 now price money (xs (q + 1)) (xs (q + 2)) (xs (q + 3)) (xs (q + 4)) (xs (q + 5))))), (0, .ref b), (1, .ref xa), (2, .ref ma), (3, .ref oa), (4, .int (nI q))]) hx hb dL_law_187 hl (by decide) rfl (fun ls hl => ?_)
  refine lv_aload_n hx hb dL_law_189 rfl (lv_at hl 3 rfl) ?_
  refine s_arg (j := 1) (q := q) C0 hM (lv_at hl 1 rfl) (lv_at hl 5 rfl) (by omega) (by decide) dL_law_190 dL_law_191 dL_law_193 dL_law_194 dL_law_195 ?_
  refine s_arg (j := 2) (q := q) C0 hM (lv_at hl 1 rfl) (lv_at hl 5 rfl) (by omega) (by decide) dL_law_196 dL_law_197 dL_law_199 dL_law_200 dL_law_201 ?_
  refine s_arg (j := 3) (q := q) C0 hM (lv_at hl 1 rfl) (lv_at hl 5 rfl) (by omega) (by decide) dL_law_202 dL_law_203 dL_law_205 dL_law_206 dL_law_207 ?_
  refine s_arg (j := 4) (q := q) C0 hM (lv_at hl 1 rfl) (lv_at hl 5 rfl) (by omega) (by decide) dL_law_208 dL_law_209 dL_law_211 dL_law_212 dL_law_213 ?_
  refine s_arg (j := 5) (q := q) C0 hM (lv_at hl 1 rfl) (lv_at hl 5 rfl) (by omega) (by decide) dL_law_214 dL_law_215 dL_law_217 dL_law_218 dL_law_219 ?_
  refine g_callVi (n9 := 5) (As := [.int (xs (q + 1)), .int (xs (q + 2)), .int (xs (q + 3)), .int (xs (q + 4)), .int (xs (q + 5))]) (rest := []) hx hb hml hl.1 hown hts hK hM (c_X8_field l G M1 5 ma k0 fa lb 6 7 Z N U now th price money F Lx (xs (q + 1)) (xs (q + 2)) (xs (q + 3)) (xs (q + 4)) (xs (q + 5)) r1' r2' (by decide) (by decide) (by decide)) wm_L_97 wi_X8_field wl_X8_field wn_X8 wc_X8_field (by decide +kernel) (hM.recv hK (ci := 9) rfl r1'.1) ⟨Nat.le_of_ble_eq_true rfl, Nat.le_of_ble_eq_true rfl⟩ ⟨by show cells + (2) + (1) ≤ 601024; rw [ec]; unfold CB; omega, by show slots + (60) + (11) ≤ 7293034; rw [es]; unfold SB; omega⟩ rfl (Nat.le_of_ble_eq_true rfl) rfl dL_law_220 (fun rb M2 H locs hq2 hM => ?_)
  obtain ⟨eb, hXP⟩ := hq2
  subst eb
  obtain ⟨hO2, ⟨Z2, hL2⟩, hF3⟩ := id hXP
  rcases hcase with ⟨hk0, v, Ma, f, hP1, hfv, e1⟩ | ⟨hk1, e1⟩
  · obtain ⟨-, ev, Y9, hL9, hF⟩ := hP1
    have oa1 : Ma oa = some (8, loE G fo) := hF _ _ _ (by decide) o1
    have hMa : M1 oa = some (8, loE G f) := by rw [e1]; exact hu_s
    have o2 : M2 oa = some (8, loE G f) := hF3 _ _ _ (by decide) (by decide) (by decide) hMa
    have hs8 : Sv Ma M2 cR := Sv.tr (M1 := M1) (by rw [e1]; exact Sv.up oa1 (by decide)) (Sv.f3 hF3 (by decide) (by decide) (by decide))
    refine lw_cmp (v := q_X8_field N U now th price money F Lx (xs (q + 1)) (xs (q + 2)) (xs (q + 3)) (xs (q + 4)) (xs (q + 5))) C0 ⟨Nat.le_of_ble_eq_true rfl, Nat.le_of_ble_eq_true rfl⟩ ⟨by show cells + (2) + (1) ≤ 601024; rw [ec]; unfold CB; omega, by show slots + (60) + (11) ≤ 7293034; rw [es]; unfold SB; omega⟩ hM hl hO2 o2 (cd_field hN).symm (fun _ => by rw [hfv, ev, an_field hSt hk0]) dL_law_223 dL_law_225 dL_law_226 dL_law_229 dL_law_231 dL_law_236 dL_law_238 dL_law_241 dL_law_242 dL_law_243 dL_law_244 dL_law_246 dL_law_247 dL_law_248 dL_law_253 (by decide) (fun H locs ls hM hl => ?_)
    rw [u0_field hN hk0, n0_field hN hk0] at hXP
    have hcp := CP.sv (M := Ma) (xa := xa) (Nt := Nt) (⟨h0, h2, h3, Y9, Yt, Tt, a1, a2, a3, ft, hF _ _ _ (by decide) c1, hL9, c3.frame (by decide) hF, hF _ _ _ (by decide) c4⟩) hs8
    have hrp := RP.of hXP
    have hst2 := to_field hSt hk0
    refine (fun z => W.widen (by rw [show nu N 0 (N 0 + 1) 4 = N 4 from nu_n (by decide), ← esn]; rw [ec]; unfold CB; omega) (by rw [show nu N 0 (N 0 + 1) 4 = N 4 from nu_n (by decide), ← esn]; rw [es]; unfold SB; omega) (kk M2 H locs ls _ _ ⟨_, _, _, _, _, _, _, _, Nt, hcp, hrp, ⟨_, o2⟩, hst2, ⟨(by show Nt 0 ≤ nu N 0 (N 0 + 1) 0; first | (rw [nu_s]; omega) | (rw [nu_n (by decide)]; omega)), (by show Nt 1 ≤ nu N 0 (N 0 + 1) 1; first | (rw [nu_s]; omega) | (rw [nu_n (by decide)]; omega)), (by show Nt 2 ≤ nu N 0 (N 0 + 1) 2; first | (rw [nu_s]; omega) | (rw [nu_n (by decide)]; omega)), (by show Nt 3 ≤ nu N 0 (N 0 + 1) 3; first | (rw [nu_s]; omega) | (rw [nu_n (by decide)]; omega)), t4⟩, rfl, rfl⟩ hM hl)) ()
  · have o2 : M2 oa = some (8, loE G fo) := hF3 _ _ _ (by decide) (by decide) (by decide) (by rw [e1]; exact o1)
    have hs8 : Sv M M2 cR := Sv.tr (M1 := M1) (by rw [e1]; exact Sv.rf) (Sv.f3 hF3 (by decide) (by decide) (by decide))
    refine lw_cmp (v := q_X8_field N U now th price money F Lx (xs (q + 1)) (xs (q + 2)) (xs (q + 3)) (xs (q + 4)) (xs (q + 5))) C0 ⟨Nat.le_of_ble_eq_true rfl, Nat.le_of_ble_eq_true rfl⟩ ⟨by show cells + (2) + (1) ≤ 601024; rw [ec]; unfold CB; omega, by show slots + (60) + (11) ≤ 7293034; rw [es]; unfold SB; omega⟩ hM hl hO2 o2 (cd_field hN).symm (fun z => absurd (kz_field z) hk1) dL_law_223 dL_law_225 dL_law_226 dL_law_229 dL_law_231 dL_law_236 dL_law_238 dL_law_241 dL_law_242 dL_law_243 dL_law_244 dL_law_246 dL_law_247 dL_law_248 dL_law_253 (by decide) (fun H locs ls hM hl => ?_)
    rw [u1_field hN hk1, n1_field hN hk1] at hXP
    have hcp := CP.sv (M := M) (xa := xa) (Nt := Nt) ⟨h0, h2, h3, Y, Yt, Tt, a1, a2, a3, ft, c1, c2, c3, c4⟩ hs8
    have hrp := RP.of hXP
    refine (fun z => W.widen (by rw [← esn]; rw [ec]; unfold CB; omega) (by rw [← esn]; rw [es]; unfold SB; omega) (kk M2 H locs ls _ _ ⟨_, _, _, _, _, _, _, _, Nt, hcp, hrp, ⟨_, o2⟩, hSt.le (Nat.le_succ _), hnt, rfl, rfl⟩ hM hl)) ()
set_option maxHeartbeats 4000000 in
set_option maxRecDepth 100000 in
theorem l_crop (C : LH p l s m args c G b L xs) (hM : Wd G M s H locs) (hS : LwS G M xa ma oa cc cells slots) (hcc : cc < 512) (hq : q + 7 ≤ L) (hl : lv_has ls 9 [(0, .ref b), (1, .ref xa), (2, .ref ma), (3, .ref oa), (4, .int (nI q))])
    (kk : ∀ (M' : HM) (H : Heap) (locs : List Loc) (ls : Array Slot) (cells' slots' : Nat), LwS G M' xa ma oa (cc + 1) cells' slots' → Wd G M' s H locs → lv_has ls 9 [(0, .ref b), (1, .ref xa), (2, .ref ma), (3, .ref oa), (4, .int (nI q))] → W p l e room_1 s m args below meth c H locs cells' slots' Q (F0 m 1853 ls [])) : W p l e room_1 s m args below meth c H locs cells slots Q (F0 m 256 ls []) := by
  have C0 := C
  obtain ⟨hx, hb, hml, hown, hts, hY, hK, hX, hst, hSc, hbl, hbA, hL⟩ := C
  obtain ⟨N, T, U, now, price, money, F, Lx, Nt, ⟨h0, h2, h3, Y, Yt, Tt, a1, a2, a3, ft, c1, c2, c3, c4⟩, ⟨k0, fa, lb, th, Z, r1, r2⟩, ⟨fo, o1⟩, hSt, hnt, ec, es⟩ := hS
  have hN := hSt.2.1
  have hn4 := hSt.n4
  obtain ⟨n0, n1, n2, n3⟩ := id hN
  obtain ⟨t0, t1, t2, t3, t4⟩ := id hnt
  have tb : s4 Nt ≤ 19 := by show Nt 0 + Nt 1 + Nt 2 + Nt 3 ≤ 19; omega
  obtain ⟨sn, esn⟩ : ∃ z, z = s4 Nt := ⟨_, rfl⟩
  rw [← esn] at ec es tb
  refine lv_aload_n hx hb dL_law_256 rfl (lv_at hl 1 rfl) ?_
  refine s_arg (j := 1) (q := q) C0 hM (lv_at hl 0 rfl) (lv_at hl 4 rfl) (by omega) (by decide) dL_law_257 dL_law_258 dL_law_260 dL_law_261 dL_law_262 ?_
  refine s_arg (j := 2) (q := q) C0 hM (lv_at hl 0 rfl) (lv_at hl 4 rfl) (by omega) (by decide) dL_law_263 dL_law_264 dL_law_266 dL_law_267 dL_law_268 ?_
  refine s_arg (j := 3) (q := q) C0 hM (lv_at hl 0 rfl) (lv_at hl 4 rfl) (by omega) (by decide) dL_law_269 dL_law_270 dL_law_272 dL_law_273 dL_law_274 ?_
  refine lv_aload_n hx hb dL_law_275 rfl (lv_at hl 3 rfl) ?_
  refine g_callW (n9 := 5) (As := [.ref xa, .int (xs (q + 1)), .int (xs (q + 2)), .int (xs (q + 3)), .ref oa]) (rest := []) hx hb hml hl.1 hown hts hY hK hX hM (w_crop l G M xa 1 oa 8 (kc_X6_crop N T 0 now price money (xs (q + 1)) (xs (q + 2)) (xs (q + 3))) _ _ _ _ [.ref h0, .ref h2, .ref h3] (xs (q + 1)) (xs (q + 2)) (xs (q + 3)) _ (c_X6_crop l hst G M xa 1 h2 h3 2 h0 Y N T 0 now price money (xs (q + 1)) (xs (q + 2)) (xs (q + 3)) c1 (by decide) c2) c1 ks_crop (fun v M1 z => ⟨z.1, fo, by obtain ⟨-, -, Y9, -, hF⟩ := z; exact hF _ _ _ (by decide) o1⟩)) wm_L_102 wt_L_crop wn_L wx_L_crop (by decide +kernel) ⟨Nat.le_of_ble_eq_true rfl, Nat.le_of_ble_eq_true rfl⟩ ⟨by show cells + (1) ≤ 601024; rw [ec]; unfold CB; omega, by show slots + (6) ≤ 7293034; rw [es]; unfold SB; omega⟩ rfl (Nat.le_of_ble_eq_true rfl) rfl dL_law_276 (fun r M1 H locs hq1 hM => ?_)
  obtain ⟨er, hcase⟩ := hq1
  subst er
  have hsr : Sv M M1 rR := by
    rcases hcase with ⟨-, v, Ma, f, hP1, -, e1⟩ | ⟨-, e1⟩
    · obtain ⟨-, -, Y9, -, hF⟩ := hP1
      rw [e1]
      exact Sv.tr (M1 := Ma) (Sv.fr hF (by decide)) (Sv.up (e0 := loE G fo) (hF _ _ _ (by decide) o1) (by decide))
    · rw [e1]
      exact Sv.rf
  have r1' := r1.same (fun q e hq => hsr _ _ _ (Or.inl rfl) hq)
  have r2' := r2.same (fun q e hq => hsr _ _ _ (Or.inr rfl) hq)
  refine lv_istore (lv' := [(5, .int ((pcd 1 2 0) (kc_X6_crop N T 0 now price money (xs (q + 1)) (xs (q + 2)) (xs (q + 3))))), (0, .ref b), (1, .ref xa), (2, .ref ma), (3, .ref oa), (4, .int (nI q))]) hx hb dL_law_279 hl (by decide) rfl (fun ls hl => ?_)
  refine lv_aload_n hx hb dL_law_281 rfl (lv_at hl 3 rfl) ?_
  refine s_arg (j := 1) (q := q) C0 hM (lv_at hl 1 rfl) (lv_at hl 5 rfl) (by omega) (by decide) dL_law_282 dL_law_283 dL_law_285 dL_law_286 dL_law_287 ?_
  refine s_arg (j := 2) (q := q) C0 hM (lv_at hl 1 rfl) (lv_at hl 5 rfl) (by omega) (by decide) dL_law_288 dL_law_289 dL_law_291 dL_law_292 dL_law_293 ?_
  refine s_arg (j := 3) (q := q) C0 hM (lv_at hl 1 rfl) (lv_at hl 5 rfl) (by omega) (by decide) dL_law_294 dL_law_295 dL_law_297 dL_law_298 dL_law_299 ?_
  refine g_callVi (n9 := 3) (As := [.int (xs (q + 1)), .int (xs (q + 2)), .int (xs (q + 3))]) (rest := []) hx hb hml hl.1 hown hts hK hM (c_X8_crop l G M1 5 ma k0 fa lb 6 7 Z N U now th price money F Lx (xs (q + 1)) (xs (q + 2)) (xs (q + 3)) r1' r2' (by decide) (by decide) (by decide)) wm_L_105 wi_X8_crop wl_X8_crop wn_X8 wc_X8_crop (by decide +kernel) (hM.recv hK (ci := 9) rfl r1'.1) ⟨Nat.le_of_ble_eq_true rfl, Nat.le_of_ble_eq_true rfl⟩ ⟨by show cells + (1) + (0) ≤ 601024; rw [ec]; unfold CB; omega, by show slots + (6) + (0) ≤ 7293034; rw [es]; unfold SB; omega⟩ rfl (Nat.le_of_ble_eq_true rfl) rfl dL_law_300 (fun rb M2 H locs hq2 hM => ?_)
  obtain ⟨eb, hXP⟩ := hq2
  subst eb
  obtain ⟨hO2, ⟨Z2, hL2⟩, hF3⟩ := id hXP
  rcases hcase with ⟨hk0, v, Ma, f, hP1, hfv, e1⟩ | ⟨hk1, e1⟩
  · obtain ⟨-, ev, Y9, hL9, hF⟩ := hP1
    have oa1 : Ma oa = some (8, loE G fo) := hF _ _ _ (by decide) o1
    have hMa : M1 oa = some (8, loE G f) := by rw [e1]; exact hu_s
    have o2 : M2 oa = some (8, loE G f) := hF3 _ _ _ (by decide) (by decide) (by decide) hMa
    have hs8 : Sv Ma M2 cR := Sv.tr (M1 := M1) (by rw [e1]; exact Sv.up oa1 (by decide)) (Sv.f3 hF3 (by decide) (by decide) (by decide))
    refine lw_cmp (v := q_X8_crop N U now th price money F Lx (xs (q + 1)) (xs (q + 2)) (xs (q + 3))) C0 ⟨Nat.le_of_ble_eq_true rfl, Nat.le_of_ble_eq_true rfl⟩ ⟨by show cells + (1) + (0) ≤ 601024; rw [ec]; unfold CB; omega, by show slots + (6) + (0) ≤ 7293034; rw [es]; unfold SB; omega⟩ hM hl hO2 o2 (cd_crop hN).symm (fun _ => by rw [hfv, ev, an_crop hSt hk0]) dL_law_303 dL_law_305 dL_law_306 dL_law_309 dL_law_311 dL_law_316 dL_law_318 dL_law_321 dL_law_322 dL_law_323 dL_law_324 dL_law_326 dL_law_327 dL_law_328 dL_law_333 (by decide) (fun H locs ls hM hl => ?_)
    rw [u0_crop hN hk0] at hXP
    have hcp := CP.sv (M := Ma) (xa := xa) (Nt := Nt) (⟨h0, h2, h3, Y9, Yt, Tt, a1, a2, a3, ft, hF _ _ _ (by decide) c1, hL9, c3.frame (by decide) hF, hF _ _ _ (by decide) c4⟩) hs8
    have hrp := RP.of hXP
    have hst2 := (to_crop hSt hk0).1
    refine (fun z => W.widen (by rw [← esn]; rw [ec]; unfold CB; omega) (by rw [← esn]; rw [es]; unfold SB; omega) (kk M2 H locs ls _ _ ⟨_, _, _, _, _, _, _, _, Nt, hcp, hrp, ⟨_, o2⟩, hst2, hnt, rfl, rfl⟩ hM hl)) ()
  · have o2 : M2 oa = some (8, loE G fo) := hF3 _ _ _ (by decide) (by decide) (by decide) (by rw [e1]; exact o1)
    have hs8 : Sv M M2 cR := Sv.tr (M1 := M1) (by rw [e1]; exact Sv.rf) (Sv.f3 hF3 (by decide) (by decide) (by decide))
    refine lw_cmp (v := q_X8_crop N U now th price money F Lx (xs (q + 1)) (xs (q + 2)) (xs (q + 3))) C0 ⟨Nat.le_of_ble_eq_true rfl, Nat.le_of_ble_eq_true rfl⟩ ⟨by show cells + (1) + (0) ≤ 601024; rw [ec]; unfold CB; omega, by show slots + (6) + (0) ≤ 7293034; rw [es]; unfold SB; omega⟩ hM hl hO2 o2 (cd_crop hN).symm (fun z => absurd (kz_crop z) hk1) dL_law_303 dL_law_305 dL_law_306 dL_law_309 dL_law_311 dL_law_316 dL_law_318 dL_law_321 dL_law_322 dL_law_323 dL_law_324 dL_law_326 dL_law_327 dL_law_328 dL_law_333 (by decide) (fun H locs ls hM hl => ?_)
    rw [u1_crop hN hk1] at hXP
    have hcp := CP.sv (M := M) (xa := xa) (Nt := Nt) ⟨h0, h2, h3, Y, Yt, Tt, a1, a2, a3, ft, c1, c2, c3, c4⟩ hs8
    have hrp := RP.of hXP
    refine (fun z => W.widen (by rw [← esn]; rw [ec]; unfold CB; omega) (by rw [← esn]; rw [es]; unfold SB; omega) (kk M2 H locs ls _ _ ⟨_, _, _, _, _, _, _, _, Nt, hcp, hrp, ⟨_, o2⟩, hSt.le (Nat.le_succ _), hnt, rfl, rfl⟩ hM hl)) ()
set_option maxHeartbeats 4000000 in
set_option maxRecDepth 100000 in
theorem l_combine (C : LH p l s m args c G b L xs) (hM : Wd G M s H locs) (hS : LwS G M xa ma oa cc cells slots) (hcc : cc < 512) (hq : q + 7 ≤ L) (hl : lv_has ls 9 [(0, .ref b), (1, .ref xa), (2, .ref ma), (3, .ref oa), (4, .int (nI q))])
    (kk : ∀ (M' : HM) (H : Heap) (locs : List Loc) (ls : Array Slot) (cells' slots' : Nat), LwS G M' xa ma oa (cc + 1) cells' slots' → Wd G M' s H locs → lv_has ls 9 [(0, .ref b), (1, .ref xa), (2, .ref ma), (3, .ref oa), (4, .int (nI q))] → W p l e room_1 s m args below meth c H locs cells' slots' Q (F0 m 1853 ls [])) : W p l e room_1 s m args below meth c H locs cells slots Q (F0 m 336 ls []) := by
  have C0 := C
  obtain ⟨hx, hb, hml, hown, hts, hY, hK, hX, hst, hSc, hbl, hbA, hL⟩ := C
  obtain ⟨N, T, U, now, price, money, F, Lx, Nt, ⟨h0, h2, h3, Y, Yt, Tt, a1, a2, a3, ft, c1, c2, c3, c4⟩, ⟨k0, fa, lb, th, Z, r1, r2⟩, ⟨fo, o1⟩, hSt, hnt, ec, es⟩ := hS
  have hN := hSt.2.1
  have hn4 := hSt.n4
  obtain ⟨n0, n1, n2, n3⟩ := id hN
  obtain ⟨t0, t1, t2, t3, t4⟩ := id hnt
  have tb : s4 Nt ≤ 19 := by show Nt 0 + Nt 1 + Nt 2 + Nt 3 ≤ 19; omega
  obtain ⟨sn, esn⟩ : ∃ z, z = s4 Nt := ⟨_, rfl⟩
  rw [← esn] at ec es tb
  refine lv_aload_n hx hb dL_law_336 rfl (lv_at hl 1 rfl) ?_
  refine s_arg (j := 1) (q := q) C0 hM (lv_at hl 0 rfl) (lv_at hl 4 rfl) (by omega) (by decide) dL_law_337 dL_law_338 dL_law_340 dL_law_341 dL_law_342 ?_
  refine s_arg (j := 2) (q := q) C0 hM (lv_at hl 0 rfl) (lv_at hl 4 rfl) (by omega) (by decide) dL_law_343 dL_law_344 dL_law_346 dL_law_347 dL_law_348 ?_
  refine lv_aload_n hx hb dL_law_349 rfl (lv_at hl 3 rfl) ?_
  refine g_callW (n9 := 4) (As := [.ref xa, .int (xs (q + 1)), .int (xs (q + 2)), .ref oa]) (rest := []) hx hb hml hl.1 hown hts hY hK hX hM (w_combine l G M xa 1 oa 8 (kc_X6_combine N T 0 now price money (xs (q + 1)) (xs (q + 2))) _ _ _ _ [.ref h0, .ref h2, .ref h3] (xs (q + 1)) (xs (q + 2)) _ (c_X6_combine l hst G M xa 1 h2 h3 2 h0 Y N T 0 now price money (xs (q + 1)) (xs (q + 2)) c1 (by decide) c2) c1 ks_combine (fun v M1 z => ⟨z.1, fo, by obtain ⟨-, -, Y9, -, hF⟩ := z; exact hF _ _ _ (by decide) o1⟩)) wm_L_106 wt_L_combine wn_L wx_L_combine (by decide +kernel) ⟨Nat.le_of_ble_eq_true rfl, Nat.le_of_ble_eq_true rfl⟩ ⟨by show cells + (2) ≤ 601024; rw [ec]; unfold CB; omega, by show slots + (60) ≤ 7293034; rw [es]; unfold SB; omega⟩ rfl (Nat.le_of_ble_eq_true rfl) rfl dL_law_350 (fun r M1 H locs hq1 hM => ?_)
  obtain ⟨er, hcase⟩ := hq1
  subst er
  have hsr : Sv M M1 rR := by
    rcases hcase with ⟨-, v, Ma, f, hP1, -, e1⟩ | ⟨-, e1⟩
    · obtain ⟨-, -, Y9, -, hF⟩ := hP1
      rw [e1]
      exact Sv.tr (M1 := Ma) (Sv.fr hF (by decide)) (Sv.up (e0 := loE G fo) (hF _ _ _ (by decide) o1) (by decide))
    · rw [e1]
      exact Sv.rf
  have r1' := r1.same (fun q e hq => hsr _ _ _ (Or.inl rfl) hq)
  have r2' := r2.same (fun q e hq => hsr _ _ _ (Or.inr rfl) hq)
  refine lv_istore (lv' := [(5, .int ((pcd 0 1 2) (kc_X6_combine N T 0 now price money (xs (q + 1)) (xs (q + 2))))), (0, .ref b), (1, .ref xa), (2, .ref ma), (3, .ref oa), (4, .int (nI q))]) hx hb dL_law_353 hl (by decide) rfl (fun ls hl => ?_)
  refine lv_aload_n hx hb dL_law_355 rfl (lv_at hl 3 rfl) ?_
  refine s_arg (j := 1) (q := q) C0 hM (lv_at hl 1 rfl) (lv_at hl 5 rfl) (by omega) (by decide) dL_law_356 dL_law_357 dL_law_359 dL_law_360 dL_law_361 ?_
  refine s_arg (j := 2) (q := q) C0 hM (lv_at hl 1 rfl) (lv_at hl 5 rfl) (by omega) (by decide) dL_law_362 dL_law_363 dL_law_365 dL_law_366 dL_law_367 ?_
  refine g_callVi (n9 := 2) (As := [.int (xs (q + 1)), .int (xs (q + 2))]) (rest := []) hx hb hml hl.1 hown hts hK hM (c_X8_combine l G M1 5 ma k0 fa lb 6 7 Z N U now th price money F Lx (xs (q + 1)) (xs (q + 2)) r1' r2' (by decide) (by decide) (by decide)) wm_L_109 wi_X8_combine wl_X8_combine wn_X8 wc_X8_combine (by decide +kernel) (hM.recv hK (ci := 9) rfl r1'.1) ⟨Nat.le_of_ble_eq_true rfl, Nat.le_of_ble_eq_true rfl⟩ ⟨by show cells + (2) + (1) ≤ 601024; rw [ec]; unfold CB; omega, by show slots + (60) + (11) ≤ 7293034; rw [es]; unfold SB; omega⟩ rfl (Nat.le_of_ble_eq_true rfl) rfl dL_law_368 (fun rb M2 H locs hq2 hM => ?_)
  obtain ⟨eb, hXP⟩ := hq2
  subst eb
  obtain ⟨hO2, ⟨Z2, hL2⟩, hF3⟩ := id hXP
  rcases hcase with ⟨hk0, v, Ma, f, hP1, hfv, e1⟩ | ⟨hk1, e1⟩
  · obtain ⟨-, ev, Y9, hL9, hF⟩ := hP1
    have oa1 : Ma oa = some (8, loE G fo) := hF _ _ _ (by decide) o1
    have hMa : M1 oa = some (8, loE G f) := by rw [e1]; exact hu_s
    have o2 : M2 oa = some (8, loE G f) := hF3 _ _ _ (by decide) (by decide) (by decide) hMa
    have hs8 : Sv Ma M2 cR := Sv.tr (M1 := M1) (by rw [e1]; exact Sv.up oa1 (by decide)) (Sv.f3 hF3 (by decide) (by decide) (by decide))
    refine lw_cmp (v := q_X8_combine N U now th price money F Lx (xs (q + 1)) (xs (q + 2))) C0 ⟨Nat.le_of_ble_eq_true rfl, Nat.le_of_ble_eq_true rfl⟩ ⟨by show cells + (2) + (1) ≤ 601024; rw [ec]; unfold CB; omega, by show slots + (60) + (11) ≤ 7293034; rw [es]; unfold SB; omega⟩ hM hl hO2 o2 (cd_combine hN).symm (fun _ => by rw [hfv, ev, an_combine hSt hk0]) dL_law_371 dL_law_373 dL_law_374 dL_law_377 dL_law_379 dL_law_384 dL_law_386 dL_law_389 dL_law_390 dL_law_391 dL_law_392 dL_law_394 dL_law_395 dL_law_396 dL_law_401 (by decide) (fun H locs ls hM hl => ?_)
    rw [u0_combine hN hk0, n0_combine hN hk0] at hXP
    have hcp := CP.sv (M := Ma) (xa := xa) (Nt := Nt) (⟨h0, h2, h3, Y9, Yt, Tt, a1, a2, a3, ft, hF _ _ _ (by decide) c1, hL9, c3.frame (by decide) hF, hF _ _ _ (by decide) c4⟩) hs8
    have hrp := RP.of hXP
    have hst2 := to_combine hSt hk0
    refine (fun z => W.widen (by rw [show nu N 1 (N 1 + 1) 4 = N 4 from nu_n (by decide), ← esn]; rw [ec]; unfold CB; omega) (by rw [show nu N 1 (N 1 + 1) 4 = N 4 from nu_n (by decide), ← esn]; rw [es]; unfold SB; omega) (kk M2 H locs ls _ _ ⟨_, _, _, _, _, _, _, _, Nt, hcp, hrp, ⟨_, o2⟩, hst2, ⟨(by show Nt 0 ≤ nu N 1 (N 1 + 1) 0; first | (rw [nu_s]; omega) | (rw [nu_n (by decide)]; omega)), (by show Nt 1 ≤ nu N 1 (N 1 + 1) 1; first | (rw [nu_s]; omega) | (rw [nu_n (by decide)]; omega)), (by show Nt 2 ≤ nu N 1 (N 1 + 1) 2; first | (rw [nu_s]; omega) | (rw [nu_n (by decide)]; omega)), (by show Nt 3 ≤ nu N 1 (N 1 + 1) 3; first | (rw [nu_s]; omega) | (rw [nu_n (by decide)]; omega)), t4⟩, rfl, rfl⟩ hM hl)) ()
  · have o2 : M2 oa = some (8, loE G fo) := hF3 _ _ _ (by decide) (by decide) (by decide) (by rw [e1]; exact o1)
    have hs8 : Sv M M2 cR := Sv.tr (M1 := M1) (by rw [e1]; exact Sv.rf) (Sv.f3 hF3 (by decide) (by decide) (by decide))
    refine lw_cmp (v := q_X8_combine N U now th price money F Lx (xs (q + 1)) (xs (q + 2))) C0 ⟨Nat.le_of_ble_eq_true rfl, Nat.le_of_ble_eq_true rfl⟩ ⟨by show cells + (2) + (1) ≤ 601024; rw [ec]; unfold CB; omega, by show slots + (60) + (11) ≤ 7293034; rw [es]; unfold SB; omega⟩ hM hl hO2 o2 (cd_combine hN).symm (fun z => absurd (kz_combine z) hk1) dL_law_371 dL_law_373 dL_law_374 dL_law_377 dL_law_379 dL_law_384 dL_law_386 dL_law_389 dL_law_390 dL_law_391 dL_law_392 dL_law_394 dL_law_395 dL_law_396 dL_law_401 (by decide) (fun H locs ls hM hl => ?_)
    rw [u1_combine hN hk1, n1_combine hN hk1] at hXP
    have hcp := CP.sv (M := M) (xa := xa) (Nt := Nt) ⟨h0, h2, h3, Y, Yt, Tt, a1, a2, a3, ft, c1, c2, c3, c4⟩ hs8
    have hrp := RP.of hXP
    refine (fun z => W.widen (by rw [← esn]; rw [ec]; unfold CB; omega) (by rw [← esn]; rw [es]; unfold SB; omega) (kk M2 H locs ls _ _ ⟨_, _, _, _, _, _, _, _, Nt, hcp, hrp, ⟨_, o2⟩, hSt.le (Nat.le_succ _), hnt, rfl, rfl⟩ hM hl)) ()
set_option maxHeartbeats 4000000 in
set_option maxRecDepth 100000 in
theorem l_truck (C : LH p l s m args c G b L xs) (hM : Wd G M s H locs) (hS : LwS G M xa ma oa cc cells slots) (hcc : cc < 512) (hq : q + 7 ≤ L) (hl : lv_has ls 9 [(0, .ref b), (1, .ref xa), (2, .ref ma), (3, .ref oa), (4, .int (nI q))])
    (kk : ∀ (M' : HM) (H : Heap) (locs : List Loc) (ls : Array Slot) (cells' slots' : Nat), LwS G M' xa ma oa (cc + 1) cells' slots' → Wd G M' s H locs → lv_has ls 9 [(0, .ref b), (1, .ref xa), (2, .ref ma), (3, .ref oa), (4, .int (nI q))] → W p l e room_1 s m args below meth c H locs cells' slots' Q (F0 m 1853 ls [])) : W p l e room_1 s m args below meth c H locs cells slots Q (F0 m 404 ls []) := by
  have C0 := C
  obtain ⟨hx, hb, hml, hown, hts, hY, hK, hX, hst, hSc, hbl, hbA, hL⟩ := C
  obtain ⟨N, T, U, now, price, money, F, Lx, Nt, ⟨h0, h2, h3, Y, Yt, Tt, a1, a2, a3, ft, c1, c2, c3, c4⟩, ⟨k0, fa, lb, th, Z, r1, r2⟩, ⟨fo, o1⟩, hSt, hnt, ec, es⟩ := hS
  have hN := hSt.2.1
  have hn4 := hSt.n4
  obtain ⟨n0, n1, n2, n3⟩ := id hN
  obtain ⟨t0, t1, t2, t3, t4⟩ := id hnt
  have tb : s4 Nt ≤ 19 := by show Nt 0 + Nt 1 + Nt 2 + Nt 3 ≤ 19; omega
  obtain ⟨sn, esn⟩ : ∃ z, z = s4 Nt := ⟨_, rfl⟩
  rw [← esn] at ec es tb
  refine lv_aload_n hx hb dL_law_404 rfl (lv_at hl 1 rfl) ?_
  refine s_arg (j := 1) (q := q) C0 hM (lv_at hl 0 rfl) (lv_at hl 4 rfl) (by omega) (by decide) dL_law_405 dL_law_406 dL_law_408 dL_law_409 dL_law_410 ?_
  refine lv_aload_n hx hb dL_law_411 rfl (lv_at hl 3 rfl) ?_
  refine g_callW (n9 := 3) (As := [.ref xa, .int (xs (q + 1)), .ref oa]) (rest := []) hx hb hml hl.1 hown hts hY hK hX hM (w_truck l G M xa 1 oa 8 (kc_X6_truck N T 0 now price money (xs (q + 1))) _ _ _ _ [.ref h0, .ref h2, .ref h3] (xs (q + 1)) _ (c_X6_truck l hst G M xa 1 h2 h3 2 h0 Y N T 0 now price money (xs (q + 1)) c1 (by decide) c2) c1 ks_truck (fun v M1 z => ⟨z.1, fo, by obtain ⟨-, -, Y9, -, hF⟩ := z; exact hF _ _ _ (by decide) o1⟩)) wm_L_110 wt_L_truck wn_L wx_L_truck (by decide +kernel) ⟨Nat.le_of_ble_eq_true rfl, Nat.le_of_ble_eq_true rfl⟩ ⟨by show cells + (2) ≤ 601024; rw [ec]; unfold CB; omega, by show slots + (60) ≤ 7293034; rw [es]; unfold SB; omega⟩ rfl (Nat.le_of_ble_eq_true rfl) rfl dL_law_412 (fun r M1 H locs hq1 hM => ?_)
  obtain ⟨er, hcase⟩ := hq1
  subst er
  have hsr : Sv M M1 rR := by
    rcases hcase with ⟨-, v, Ma, f, hP1, -, e1⟩ | ⟨-, e1⟩
    · obtain ⟨-, -, Y9, -, hF⟩ := hP1
      rw [e1]
      exact Sv.tr (M1 := Ma) (Sv.fr hF (by decide)) (Sv.up (e0 := loE G fo) (hF _ _ _ (by decide) o1) (by decide))
    · rw [e1]
      exact Sv.rf
  have r1' := r1.same (fun q e hq => hsr _ _ _ (Or.inl rfl) hq)
  have r2' := r2.same (fun q e hq => hsr _ _ _ (Or.inr rfl) hq)
  refine lv_istore (lv' := [(5, .int ((pcd 0 1 2) (kc_X6_truck N T 0 now price money (xs (q + 1))))), (0, .ref b), (1, .ref xa), (2, .ref ma), (3, .ref oa), (4, .int (nI q))]) hx hb dL_law_415 hl (by decide) rfl (fun ls hl => ?_)
  refine lv_aload_n hx hb dL_law_417 rfl (lv_at hl 3 rfl) ?_
  refine s_arg (j := 1) (q := q) C0 hM (lv_at hl 1 rfl) (lv_at hl 5 rfl) (by omega) (by decide) dL_law_418 dL_law_419 dL_law_421 dL_law_422 dL_law_423 ?_
  refine g_callVi (n9 := 1) (As := [.int (xs (q + 1))]) (rest := []) hx hb hml hl.1 hown hts hK hM (c_X8_truck l G M1 5 ma k0 fa lb 6 7 Z N U now th price money F Lx (xs (q + 1)) r1' r2' (by decide) (by decide) (by decide)) wm_L_113 wi_X8_truck wl_X8_truck wn_X8 wc_X8_truck (by decide +kernel) (hM.recv hK (ci := 9) rfl r1'.1) ⟨Nat.le_of_ble_eq_true rfl, Nat.le_of_ble_eq_true rfl⟩ ⟨by show cells + (2) + (1) ≤ 601024; rw [ec]; unfold CB; omega, by show slots + (60) + (10) ≤ 7293034; rw [es]; unfold SB; omega⟩ rfl (Nat.le_of_ble_eq_true rfl) rfl dL_law_424 (fun rb M2 H locs hq2 hM => ?_)
  obtain ⟨eb, hXP⟩ := hq2
  subst eb
  obtain ⟨hO2, ⟨Z2, hL2⟩, hF3⟩ := id hXP
  rcases hcase with ⟨hk0, v, Ma, f, hP1, hfv, e1⟩ | ⟨hk1, e1⟩
  · obtain ⟨-, ev, Y9, hL9, hF⟩ := hP1
    have oa1 : Ma oa = some (8, loE G fo) := hF _ _ _ (by decide) o1
    have hMa : M1 oa = some (8, loE G f) := by rw [e1]; exact hu_s
    have o2 : M2 oa = some (8, loE G f) := hF3 _ _ _ (by decide) (by decide) (by decide) hMa
    have hs8 : Sv Ma M2 cR := Sv.tr (M1 := M1) (by rw [e1]; exact Sv.up oa1 (by decide)) (Sv.f3 hF3 (by decide) (by decide) (by decide))
    refine lw_cmp (v := q_X8_truck N U now th price money F Lx (xs (q + 1))) C0 ⟨Nat.le_of_ble_eq_true rfl, Nat.le_of_ble_eq_true rfl⟩ ⟨by show cells + (2) + (1) ≤ 601024; rw [ec]; unfold CB; omega, by show slots + (60) + (10) ≤ 7293034; rw [es]; unfold SB; omega⟩ hM hl hO2 o2 (cd_truck hN).symm (fun _ => by rw [hfv, ev, an_truck hSt hk0]) dL_law_427 dL_law_429 dL_law_430 dL_law_433 dL_law_435 dL_law_440 dL_law_442 dL_law_445 dL_law_446 dL_law_447 dL_law_448 dL_law_450 dL_law_451 dL_law_452 dL_law_457 (by decide) (fun H locs ls hM hl => ?_)
    rw [u0_truck hN hk0, n0_truck hN hk0] at hXP
    have hcp := CP.sv (M := Ma) (xa := xa) (Nt := Nt) (⟨h0, h2, h3, Y9, Yt, Tt, a1, a2, a3, ft, hF _ _ _ (by decide) c1, hL9, c3.frame (by decide) hF, hF _ _ _ (by decide) c4⟩) hs8
    have hrp := RP.of hXP
    have hst2 := to_truck hSt hk0
    refine (fun z => W.widen (by rw [show nu N 2 (N 2 + 1) 4 = N 4 from nu_n (by decide), ← esn]; rw [ec]; unfold CB; omega) (by rw [show nu N 2 (N 2 + 1) 4 = N 4 from nu_n (by decide), ← esn]; rw [es]; unfold SB; omega) (kk M2 H locs ls _ _ ⟨_, _, _, _, _, _, _, _, Nt, hcp, hrp, ⟨_, o2⟩, hst2, ⟨(by show Nt 0 ≤ nu N 2 (N 2 + 1) 0; first | (rw [nu_s]; omega) | (rw [nu_n (by decide)]; omega)), (by show Nt 1 ≤ nu N 2 (N 2 + 1) 1; first | (rw [nu_s]; omega) | (rw [nu_n (by decide)]; omega)), (by show Nt 2 ≤ nu N 2 (N 2 + 1) 2; first | (rw [nu_s]; omega) | (rw [nu_n (by decide)]; omega)), (by show Nt 3 ≤ nu N 2 (N 2 + 1) 3; first | (rw [nu_s]; omega) | (rw [nu_n (by decide)]; omega)), t4⟩, rfl, rfl⟩ hM hl)) ()
  · have o2 : M2 oa = some (8, loE G fo) := hF3 _ _ _ (by decide) (by decide) (by decide) (by rw [e1]; exact o1)
    have hs8 : Sv M M2 cR := Sv.tr (M1 := M1) (by rw [e1]; exact Sv.rf) (Sv.f3 hF3 (by decide) (by decide) (by decide))
    refine lw_cmp (v := q_X8_truck N U now th price money F Lx (xs (q + 1))) C0 ⟨Nat.le_of_ble_eq_true rfl, Nat.le_of_ble_eq_true rfl⟩ ⟨by show cells + (2) + (1) ≤ 601024; rw [ec]; unfold CB; omega, by show slots + (60) + (10) ≤ 7293034; rw [es]; unfold SB; omega⟩ hM hl hO2 o2 (cd_truck hN).symm (fun z => absurd (kz_truck z) hk1) dL_law_427 dL_law_429 dL_law_430 dL_law_433 dL_law_435 dL_law_440 dL_law_442 dL_law_445 dL_law_446 dL_law_447 dL_law_448 dL_law_450 dL_law_451 dL_law_452 dL_law_457 (by decide) (fun H locs ls hM hl => ?_)
    rw [u1_truck hN hk1, n1_truck hN hk1] at hXP
    have hcp := CP.sv (M := M) (xa := xa) (Nt := Nt) ⟨h0, h2, h3, Y, Yt, Tt, a1, a2, a3, ft, c1, c2, c3, c4⟩ hs8
    have hrp := RP.of hXP
    refine (fun z => W.widen (by rw [← esn]; rw [ec]; unfold CB; omega) (by rw [← esn]; rw [es]; unfold SB; omega) (kk M2 H locs ls _ _ ⟨_, _, _, _, _, _, _, _, Nt, hcp, hrp, ⟨_, o2⟩, hSt.le (Nat.le_succ _), hnt, rfl, rfl⟩ hM hl)) ()
set_option maxHeartbeats 4000000 in
set_option maxRecDepth 100000 in
theorem l_elevator (C : LH p l s m args c G b L xs) (hM : Wd G M s H locs) (hS : LwS G M xa ma oa cc cells slots) (hcc : cc < 512) (hq : q + 7 ≤ L) (hl : lv_has ls 9 [(0, .ref b), (1, .ref xa), (2, .ref ma), (3, .ref oa), (4, .int (nI q))])
    (kk : ∀ (M' : HM) (H : Heap) (locs : List Loc) (ls : Array Slot) (cells' slots' : Nat), LwS G M' xa ma oa (cc + 1) cells' slots' → Wd G M' s H locs → lv_has ls 9 [(0, .ref b), (1, .ref xa), (2, .ref ma), (3, .ref oa), (4, .int (nI q))] → W p l e room_1 s m args below meth c H locs cells' slots' Q (F0 m 1853 ls [])) : W p l e room_1 s m args below meth c H locs cells slots Q (F0 m 460 ls []) := by
  have C0 := C
  obtain ⟨hx, hb, hml, hown, hts, hY, hK, hX, hst, hSc, hbl, hbA, hL⟩ := C
  obtain ⟨N, T, U, now, price, money, F, Lx, Nt, ⟨h0, h2, h3, Y, Yt, Tt, a1, a2, a3, ft, c1, c2, c3, c4⟩, ⟨k0, fa, lb, th, Z, r1, r2⟩, ⟨fo, o1⟩, hSt, hnt, ec, es⟩ := hS
  have hN := hSt.2.1
  have hn4 := hSt.n4
  obtain ⟨n0, n1, n2, n3⟩ := id hN
  obtain ⟨t0, t1, t2, t3, t4⟩ := id hnt
  have tb : s4 Nt ≤ 19 := by show Nt 0 + Nt 1 + Nt 2 + Nt 3 ≤ 19; omega
  obtain ⟨sn, esn⟩ : ∃ z, z = s4 Nt := ⟨_, rfl⟩
  rw [← esn] at ec es tb
  refine lv_aload_n hx hb dL_law_460 rfl (lv_at hl 1 rfl) ?_
  refine s_arg (j := 1) (q := q) C0 hM (lv_at hl 0 rfl) (lv_at hl 4 rfl) (by omega) (by decide) dL_law_461 dL_law_462 dL_law_464 dL_law_465 dL_law_466 ?_
  refine s_arg (j := 2) (q := q) C0 hM (lv_at hl 0 rfl) (lv_at hl 4 rfl) (by omega) (by decide) dL_law_467 dL_law_468 dL_law_470 dL_law_471 dL_law_472 ?_
  refine s_arg (j := 3) (q := q) C0 hM (lv_at hl 0 rfl) (lv_at hl 4 rfl) (by omega) (by decide) dL_law_473 dL_law_474 dL_law_476 dL_law_477 dL_law_478 ?_
  refine s_arg (j := 4) (q := q) C0 hM (lv_at hl 0 rfl) (lv_at hl 4 rfl) (by omega) (by decide) dL_law_479 dL_law_480 dL_law_482 dL_law_483 dL_law_484 ?_
  refine s_arg (j := 5) (q := q) C0 hM (lv_at hl 0 rfl) (lv_at hl 4 rfl) (by omega) (by decide) dL_law_485 dL_law_486 dL_law_488 dL_law_489 dL_law_490 ?_
  refine s_arg6 (j := 6) (q := q) C0 hM (lv_at hl 0 rfl) (lv_at hl 4 rfl) (by omega) (by decide) dL_law_491 dL_law_492 dL_law_494 dL_law_496 dL_law_497 ?_
  refine lv_aload_n hx hb dL_law_498 rfl (lv_at hl 3 rfl) ?_
  refine g_callW (n9 := 8) (As := [.ref xa, .int (xs (q + 1)), .int (xs (q + 2)), .int (xs (q + 3)), .int (xs (q + 4)), .int (xs (q + 5)), .int (xs (q + 6)), .ref oa]) (rest := []) hx hb hml hl.1 hown hts hY hK hX hM (w_elevator l G M xa 1 oa 8 (kc_X6_elevator N T 0 now price money (xs (q + 1)) (xs (q + 2)) (xs (q + 3)) (xs (q + 4)) (xs (q + 5)) (xs (q + 6))) _ _ _ _ [.ref h0, .ref h2, .ref h3] (xs (q + 1)) (xs (q + 2)) (xs (q + 3)) (xs (q + 4)) (xs (q + 5)) (xs (q + 6)) _ (c_X6_elevator l hst G M xa 1 h2 h3 2 h0 Y N T 0 now price money (xs (q + 1)) (xs (q + 2)) (xs (q + 3)) (xs (q + 4)) (xs (q + 5)) (xs (q + 6)) c1 (by decide) c2) c1 ks_elevator (fun v M1 z => ⟨z.1, fo, by obtain ⟨-, -, Y9, -, hF⟩ := z; exact hF _ _ _ (by decide) o1⟩)) wm_L_114 wt_L_elevator wn_L wx_L_elevator (by decide +kernel) ⟨Nat.le_of_ble_eq_true rfl, Nat.le_of_ble_eq_true rfl⟩ ⟨by show cells + (2) ≤ 601024; rw [ec]; unfold CB; omega, by show slots + (60) ≤ 7293034; rw [es]; unfold SB; omega⟩ rfl (Nat.le_of_ble_eq_true rfl) rfl dL_law_499 (fun r M1 H locs hq1 hM => ?_)
  obtain ⟨er, hcase⟩ := hq1
  subst er
  have hsr : Sv M M1 rR := by
    rcases hcase with ⟨-, v, Ma, f, hP1, -, e1⟩ | ⟨-, e1⟩
    · obtain ⟨-, -, Y9, -, hF⟩ := hP1
      rw [e1]
      exact Sv.tr (M1 := Ma) (Sv.fr hF (by decide)) (Sv.up (e0 := loE G fo) (hF _ _ _ (by decide) o1) (by decide))
    · rw [e1]
      exact Sv.rf
  have r1' := r1.same (fun q e hq => hsr _ _ _ (Or.inl rfl) hq)
  have r2' := r2.same (fun q e hq => hsr _ _ _ (Or.inr rfl) hq)
  refine lv_istore (lv' := [(5, .int ((pcd 0 1 2) (kc_X6_elevator N T 0 now price money (xs (q + 1)) (xs (q + 2)) (xs (q + 3)) (xs (q + 4)) (xs (q + 5)) (xs (q + 6))))), (0, .ref b), (1, .ref xa), (2, .ref ma), (3, .ref oa), (4, .int (nI q))]) hx hb dL_law_502 hl (by decide) rfl (fun ls hl => ?_)
  refine lv_aload_n hx hb dL_law_504 rfl (lv_at hl 3 rfl) ?_
  refine s_arg (j := 1) (q := q) C0 hM (lv_at hl 1 rfl) (lv_at hl 5 rfl) (by omega) (by decide) dL_law_505 dL_law_506 dL_law_508 dL_law_509 dL_law_510 ?_
  refine s_arg (j := 2) (q := q) C0 hM (lv_at hl 1 rfl) (lv_at hl 5 rfl) (by omega) (by decide) dL_law_511 dL_law_512 dL_law_514 dL_law_515 dL_law_516 ?_
  refine s_arg (j := 3) (q := q) C0 hM (lv_at hl 1 rfl) (lv_at hl 5 rfl) (by omega) (by decide) dL_law_517 dL_law_518 dL_law_520 dL_law_521 dL_law_522 ?_
  refine s_arg (j := 4) (q := q) C0 hM (lv_at hl 1 rfl) (lv_at hl 5 rfl) (by omega) (by decide) dL_law_523 dL_law_524 dL_law_526 dL_law_527 dL_law_528 ?_
  refine s_arg (j := 5) (q := q) C0 hM (lv_at hl 1 rfl) (lv_at hl 5 rfl) (by omega) (by decide) dL_law_529 dL_law_530 dL_law_532 dL_law_533 dL_law_534 ?_
  refine s_arg6 (j := 6) (q := q) C0 hM (lv_at hl 1 rfl) (lv_at hl 5 rfl) (by omega) (by decide) dL_law_535 dL_law_536 dL_law_538 dL_law_540 dL_law_541 ?_
  refine g_callVi (n9 := 6) (As := [.int (xs (q + 1)), .int (xs (q + 2)), .int (xs (q + 3)), .int (xs (q + 4)), .int (xs (q + 5)), .int (xs (q + 6))]) (rest := []) hx hb hml hl.1 hown hts hK hM (c_X8_elevator l G M1 5 ma k0 fa lb 6 7 Z N U now th price money F Lx (xs (q + 1)) (xs (q + 2)) (xs (q + 3)) (xs (q + 4)) (xs (q + 5)) (xs (q + 6)) r1' r2' (by decide) (by decide) (by decide)) wm_L_117 wi_X8_elevator wl_X8_elevator wn_X8 wc_X8_elevator (by decide +kernel) (hM.recv hK (ci := 9) rfl r1'.1) ⟨Nat.le_of_ble_eq_true rfl, Nat.le_of_ble_eq_true rfl⟩ ⟨by show cells + (2) + (1) ≤ 601024; rw [ec]; unfold CB; omega, by show slots + (60) + (6) ≤ 7293034; rw [es]; unfold SB; omega⟩ rfl (Nat.le_of_ble_eq_true rfl) rfl dL_law_542 (fun rb M2 H locs hq2 hM => ?_)
  obtain ⟨eb, hXP⟩ := hq2
  subst eb
  obtain ⟨hO2, ⟨Z2, hL2⟩, hF3⟩ := id hXP
  rcases hcase with ⟨hk0, v, Ma, f, hP1, hfv, e1⟩ | ⟨hk1, e1⟩
  · obtain ⟨-, ev, Y9, hL9, hF⟩ := hP1
    have oa1 : Ma oa = some (8, loE G fo) := hF _ _ _ (by decide) o1
    have hMa : M1 oa = some (8, loE G f) := by rw [e1]; exact hu_s
    have o2 : M2 oa = some (8, loE G f) := hF3 _ _ _ (by decide) (by decide) (by decide) hMa
    have hs8 : Sv Ma M2 cR := Sv.tr (M1 := M1) (by rw [e1]; exact Sv.up oa1 (by decide)) (Sv.f3 hF3 (by decide) (by decide) (by decide))
    refine lw_cmp (v := q_X8_elevator N U now th price money F Lx (xs (q + 1)) (xs (q + 2)) (xs (q + 3)) (xs (q + 4)) (xs (q + 5)) (xs (q + 6))) C0 ⟨Nat.le_of_ble_eq_true rfl, Nat.le_of_ble_eq_true rfl⟩ ⟨by show cells + (2) + (1) ≤ 601024; rw [ec]; unfold CB; omega, by show slots + (60) + (6) ≤ 7293034; rw [es]; unfold SB; omega⟩ hM hl hO2 o2 (cd_elevator hN).symm (fun _ => by rw [hfv, ev, an_elevator hSt hk0]) dL_law_545 dL_law_547 dL_law_548 dL_law_551 dL_law_553 dL_law_558 dL_law_560 dL_law_563 dL_law_564 dL_law_565 dL_law_566 dL_law_568 dL_law_569 dL_law_570 dL_law_575 (by decide) (fun H locs ls hM hl => ?_)
    rw [u0_elevator hN hk0, n0_elevator hN hk0] at hXP
    have hcp := CP.sv (M := Ma) (xa := xa) (Nt := Nt) (⟨h0, h2, h3, Y9, Yt, Tt, a1, a2, a3, ft, hF _ _ _ (by decide) c1, hL9, c3.frame (by decide) hF, hF _ _ _ (by decide) c4⟩) hs8
    have hrp := RP.of hXP
    have hst2 := to_elevator hSt hk0
    refine (fun z => W.widen (by rw [show nu N 3 (N 3 + 1) 4 = N 4 from nu_n (by decide), ← esn]; rw [ec]; unfold CB; omega) (by rw [show nu N 3 (N 3 + 1) 4 = N 4 from nu_n (by decide), ← esn]; rw [es]; unfold SB; omega) (kk M2 H locs ls _ _ ⟨_, _, _, _, _, _, _, _, Nt, hcp, hrp, ⟨_, o2⟩, hst2, ⟨(by show Nt 0 ≤ nu N 3 (N 3 + 1) 0; first | (rw [nu_s]; omega) | (rw [nu_n (by decide)]; omega)), (by show Nt 1 ≤ nu N 3 (N 3 + 1) 1; first | (rw [nu_s]; omega) | (rw [nu_n (by decide)]; omega)), (by show Nt 2 ≤ nu N 3 (N 3 + 1) 2; first | (rw [nu_s]; omega) | (rw [nu_n (by decide)]; omega)), (by show Nt 3 ≤ nu N 3 (N 3 + 1) 3; first | (rw [nu_s]; omega) | (rw [nu_n (by decide)]; omega)), t4⟩, rfl, rfl⟩ hM hl)) ()
  · have o2 : M2 oa = some (8, loE G fo) := hF3 _ _ _ (by decide) (by decide) (by decide) (by rw [e1]; exact o1)
    have hs8 : Sv M M2 cR := Sv.tr (M1 := M1) (by rw [e1]; exact Sv.rf) (Sv.f3 hF3 (by decide) (by decide) (by decide))
    refine lw_cmp (v := q_X8_elevator N U now th price money F Lx (xs (q + 1)) (xs (q + 2)) (xs (q + 3)) (xs (q + 4)) (xs (q + 5)) (xs (q + 6))) C0 ⟨Nat.le_of_ble_eq_true rfl, Nat.le_of_ble_eq_true rfl⟩ ⟨by show cells + (2) + (1) ≤ 601024; rw [ec]; unfold CB; omega, by show slots + (60) + (6) ≤ 7293034; rw [es]; unfold SB; omega⟩ hM hl hO2 o2 (cd_elevator hN).symm (fun z => absurd (kz_elevator z) hk1) dL_law_545 dL_law_547 dL_law_548 dL_law_551 dL_law_553 dL_law_558 dL_law_560 dL_law_563 dL_law_564 dL_law_565 dL_law_566 dL_law_568 dL_law_569 dL_law_570 dL_law_575 (by decide) (fun H locs ls hM hl => ?_)
    rw [u1_elevator hN hk1, n1_elevator hN hk1] at hXP
    have hcp := CP.sv (M := M) (xa := xa) (Nt := Nt) ⟨h0, h2, h3, Y, Yt, Tt, a1, a2, a3, ft, c1, c2, c3, c4⟩ hs8
    have hrp := RP.of hXP
    refine (fun z => W.widen (by rw [← esn]; rw [ec]; unfold CB; omega) (by rw [← esn]; rw [es]; unfold SB; omega) (kk M2 H locs ls _ _ ⟨_, _, _, _, _, _, _, _, Nt, hcp, hrp, ⟨_, o2⟩, hSt.le (Nat.le_succ _), hnt, rfl, rfl⟩ hM hl)) ()
set_option maxHeartbeats 4000000 in
set_option maxRecDepth 100000 in
theorem l_price (C : LH p l s m args c G b L xs) (hM : Wd G M s H locs) (hS : LwS G M xa ma oa cc cells slots) (hcc : cc < 512) (hq : q + 7 ≤ L) (hl : lv_has ls 9 [(0, .ref b), (1, .ref xa), (2, .ref ma), (3, .ref oa), (4, .int (nI q))])
    (kk : ∀ (M' : HM) (H : Heap) (locs : List Loc) (ls : Array Slot) (cells' slots' : Nat), LwS G M' xa ma oa (cc + 1) cells' slots' → Wd G M' s H locs → lv_has ls 9 [(0, .ref b), (1, .ref xa), (2, .ref ma), (3, .ref oa), (4, .int (nI q))] → W p l e room_1 s m args below meth c H locs cells' slots' Q (F0 m 1853 ls [])) : W p l e room_1 s m args below meth c H locs cells slots Q (F0 m 578 ls []) := by
  have C0 := C
  obtain ⟨hx, hb, hml, hown, hts, hY, hK, hX, hst, hSc, hbl, hbA, hL⟩ := C
  obtain ⟨N, T, U, now, price, money, F, Lx, Nt, ⟨h0, h2, h3, Y, Yt, Tt, a1, a2, a3, ft, c1, c2, c3, c4⟩, ⟨k0, fa, lb, th, Z, r1, r2⟩, ⟨fo, o1⟩, hSt, hnt, ec, es⟩ := hS
  have hN := hSt.2.1
  have hn4 := hSt.n4
  obtain ⟨n0, n1, n2, n3⟩ := id hN
  obtain ⟨t0, t1, t2, t3, t4⟩ := id hnt
  have tb : s4 Nt ≤ 19 := by show Nt 0 + Nt 1 + Nt 2 + Nt 3 ≤ 19; omega
  obtain ⟨sn, esn⟩ : ∃ z, z = s4 Nt := ⟨_, rfl⟩
  rw [← esn] at ec es tb
  refine lv_aload_n hx hb dL_law_578 rfl (lv_at hl 1 rfl) ?_
  refine s_arg (j := 1) (q := q) C0 hM (lv_at hl 0 rfl) (lv_at hl 4 rfl) (by omega) (by decide) dL_law_579 dL_law_580 dL_law_582 dL_law_583 dL_law_584 ?_
  refine lv_aload_n hx hb dL_law_585 rfl (lv_at hl 3 rfl) ?_
  refine g_callW (n9 := 3) (As := [.ref xa, .int (xs (q + 1)), .ref oa]) (rest := []) hx hb hml hl.1 hown hts hY hK hX hM (w_price l G M xa 1 oa 8 (kc_X6_price N T 0 now price money (xs (q + 1))) _ _ _ _ [.ref h0, .ref h2, .ref h3] (xs (q + 1)) _ (c_X6_price l hst G M xa 1 h2 h3 2 h0 Y N T 0 now price money (xs (q + 1)) c1 (by decide) c2) c1 ks_price (fun v M1 z => ⟨z.1, fo, by obtain ⟨-, -, Y9, -, hF⟩ := z; exact hF _ _ _ (by decide) o1⟩)) wm_L_118 wt_L_price wn_L wx_L_price (by decide +kernel) ⟨Nat.le_of_ble_eq_true rfl, Nat.le_of_ble_eq_true rfl⟩ ⟨by show cells + (1) ≤ 601024; rw [ec]; unfold CB; omega, by show slots + (6) ≤ 7293034; rw [es]; unfold SB; omega⟩ rfl (Nat.le_of_ble_eq_true rfl) rfl dL_law_586 (fun r M1 H locs hq1 hM => ?_)
  obtain ⟨er, hcase⟩ := hq1
  subst er
  have hsr : Sv M M1 rR := by
    rcases hcase with ⟨-, v, Ma, f, hP1, -, e1⟩ | ⟨-, e1⟩
    · obtain ⟨-, -, Y9, -, hF⟩ := hP1
      rw [e1]
      exact Sv.tr (M1 := Ma) (Sv.fr hF (by decide)) (Sv.up (e0 := loE G fo) (hF _ _ _ (by decide) o1) (by decide))
    · rw [e1]
      exact Sv.rf
  have r1' := r1.same (fun q e hq => hsr _ _ _ (Or.inl rfl) hq)
  have r2' := r2.same (fun q e hq => hsr _ _ _ (Or.inr rfl) hq)
  refine lv_istore (lv' := [(5, .int ((pcd 0 1 0) (kc_X6_price N T 0 now price money (xs (q + 1))))), (0, .ref b), (1, .ref xa), (2, .ref ma), (3, .ref oa), (4, .int (nI q))]) hx hb dL_law_589 hl (by decide) rfl (fun ls hl => ?_)
  refine lv_aload_n hx hb dL_law_591 rfl (lv_at hl 3 rfl) ?_
  refine s_arg (j := 1) (q := q) C0 hM (lv_at hl 1 rfl) (lv_at hl 5 rfl) (by omega) (by decide) dL_law_592 dL_law_593 dL_law_595 dL_law_596 dL_law_597 ?_
  refine g_callVi (n9 := 1) (As := [.int (xs (q + 1))]) (rest := []) hx hb hml hl.1 hown hts hK hM (c_X8_price l G M1 5 ma k0 fa lb 6 7 Z N U now th price money F Lx (xs (q + 1)) r1' r2' (by decide) (by decide) (by decide)) wm_L_120 wi_X8_price wl_X8_price wn_X8 wc_X8_price (by decide +kernel) (hM.recv hK (ci := 9) rfl r1'.1) ⟨Nat.le_of_ble_eq_true rfl, Nat.le_of_ble_eq_true rfl⟩ ⟨by show cells + (1) + (0) ≤ 601024; rw [ec]; unfold CB; omega, by show slots + (6) + (0) ≤ 7293034; rw [es]; unfold SB; omega⟩ rfl (Nat.le_of_ble_eq_true rfl) rfl dL_law_598 (fun rb M2 H locs hq2 hM => ?_)
  obtain ⟨eb, hXP⟩ := hq2
  subst eb
  obtain ⟨hO2, ⟨Z2, hL2⟩, hF3⟩ := id hXP
  rcases hcase with ⟨hk0, v, Ma, f, hP1, hfv, e1⟩ | ⟨hk1, e1⟩
  · obtain ⟨-, ev, Y9, hL9, hF⟩ := hP1
    have oa1 : Ma oa = some (8, loE G fo) := hF _ _ _ (by decide) o1
    have hMa : M1 oa = some (8, loE G f) := by rw [e1]; exact hu_s
    have o2 : M2 oa = some (8, loE G f) := hF3 _ _ _ (by decide) (by decide) (by decide) hMa
    have hs8 : Sv Ma M2 cR := Sv.tr (M1 := M1) (by rw [e1]; exact Sv.up oa1 (by decide)) (Sv.f3 hF3 (by decide) (by decide) (by decide))
    refine lw_cmp (v := q_X8_price N U now th price money F Lx (xs (q + 1))) C0 ⟨Nat.le_of_ble_eq_true rfl, Nat.le_of_ble_eq_true rfl⟩ ⟨by show cells + (1) + (0) ≤ 601024; rw [ec]; unfold CB; omega, by show slots + (6) + (0) ≤ 7293034; rw [es]; unfold SB; omega⟩ hM hl hO2 o2 (cd_price hN).symm (fun _ => by rw [hfv, ev, an_price hSt hk0]) dL_law_601 dL_law_603 dL_law_604 dL_law_607 dL_law_609 dL_law_614 dL_law_616 dL_law_619 dL_law_620 dL_law_621 dL_law_622 dL_law_624 dL_law_625 dL_law_626 dL_law_631 (by decide) (fun H locs ls hM hl => ?_)
    rw [pr0_price hN hk0] at hXP
    have hcp := CP.sv (M := Ma) (xa := xa) (Nt := Nt) (⟨h0, h2, h3, Y9, Yt, Tt, a1, a2, a3, ft, hF _ _ _ (by decide) c1, hL9, c3.frame (by decide) hF, hF _ _ _ (by decide) c4⟩) hs8
    have hrp := RP.of hXP
    have hst2 := hSt.le (Nat.le_succ _)
    refine (fun z => W.widen (by rw [← esn]; rw [ec]; unfold CB; omega) (by rw [← esn]; rw [es]; unfold SB; omega) (kk M2 H locs ls _ _ ⟨_, _, _, _, _, _, _, _, Nt, hcp, hrp, ⟨_, o2⟩, hst2, hnt, rfl, rfl⟩ hM hl)) ()
  · have o2 : M2 oa = some (8, loE G fo) := hF3 _ _ _ (by decide) (by decide) (by decide) (by rw [e1]; exact o1)
    have hs8 : Sv M M2 cR := Sv.tr (M1 := M1) (by rw [e1]; exact Sv.rf) (Sv.f3 hF3 (by decide) (by decide) (by decide))
    refine lw_cmp (v := q_X8_price N U now th price money F Lx (xs (q + 1))) C0 ⟨Nat.le_of_ble_eq_true rfl, Nat.le_of_ble_eq_true rfl⟩ ⟨by show cells + (1) + (0) ≤ 601024; rw [ec]; unfold CB; omega, by show slots + (6) + (0) ≤ 7293034; rw [es]; unfold SB; omega⟩ hM hl hO2 o2 (cd_price hN).symm (fun z => absurd (kz_price z) hk1) dL_law_601 dL_law_603 dL_law_604 dL_law_607 dL_law_609 dL_law_614 dL_law_616 dL_law_619 dL_law_620 dL_law_621 dL_law_622 dL_law_624 dL_law_625 dL_law_626 dL_law_631 (by decide) (fun H locs ls hM hl => ?_)
    rw [pr1_price hN hk1] at hXP
    have hcp := CP.sv (M := M) (xa := xa) (Nt := Nt) ⟨h0, h2, h3, Y, Yt, Tt, a1, a2, a3, ft, c1, c2, c3, c4⟩ hs8
    have hrp := RP.of hXP
    refine (fun z => W.widen (by rw [← esn]; rw [ec]; unfold CB; omega) (by rw [← esn]; rw [es]; unfold SB; omega) (kk M2 H locs ls _ _ ⟨_, _, _, _, _, _, _, _, Nt, hcp, hrp, ⟨_, o2⟩, hSt.le (Nat.le_succ _), hnt, rfl, rfl⟩ hM hl)) ()
set_option maxHeartbeats 4000000 in
set_option maxRecDepth 100000 in
theorem l_cut (C : LH p l s m args c G b L xs) (hM : Wd G M s H locs) (hS : LwS G M xa ma oa cc cells slots) (hcc : cc < 512) (hq : q + 7 ≤ L) (hl : lv_has ls 9 [(0, .ref b), (1, .ref xa), (2, .ref ma), (3, .ref oa), (4, .int (nI q))])
    (kk : ∀ (M' : HM) (H : Heap) (locs : List Loc) (ls : Array Slot) (cells' slots' : Nat), LwS G M' xa ma oa (cc + 1) cells' slots' → Wd G M' s H locs → lv_has ls 9 [(0, .ref b), (1, .ref xa), (2, .ref ma), (3, .ref oa), (4, .int (nI q))] → W p l e room_1 s m args below meth c H locs cells' slots' Q (F0 m 1853 ls [])) : W p l e room_1 s m args below meth c H locs cells slots Q (F0 m 634 ls []) := by
  have C0 := C
  obtain ⟨hx, hb, hml, hown, hts, hY, hK, hX, hst, hSc, hbl, hbA, hL⟩ := C
  obtain ⟨N, T, U, now, price, money, F, Lx, Nt, ⟨h0, h2, h3, Y, Yt, Tt, a1, a2, a3, ft, c1, c2, c3, c4⟩, ⟨k0, fa, lb, th, Z, r1, r2⟩, ⟨fo, o1⟩, hSt, hnt, ec, es⟩ := hS
  have hN := hSt.2.1
  have hn4 := hSt.n4
  obtain ⟨n0, n1, n2, n3⟩ := id hN
  obtain ⟨t0, t1, t2, t3, t4⟩ := id hnt
  have tb : s4 Nt ≤ 19 := by show Nt 0 + Nt 1 + Nt 2 + Nt 3 ≤ 19; omega
  obtain ⟨sn, esn⟩ : ∃ z, z = s4 Nt := ⟨_, rfl⟩
  rw [← esn] at ec es tb
  refine lv_aload_n hx hb dL_law_634 rfl (lv_at hl 1 rfl) ?_
  refine s_arg (j := 1) (q := q) C0 hM (lv_at hl 0 rfl) (lv_at hl 4 rfl) (by omega) (by decide) dL_law_635 dL_law_636 dL_law_638 dL_law_639 dL_law_640 ?_
  refine s_arg (j := 2) (q := q) C0 hM (lv_at hl 0 rfl) (lv_at hl 4 rfl) (by omega) (by decide) dL_law_641 dL_law_642 dL_law_644 dL_law_645 dL_law_646 ?_
  refine lv_aload_n hx hb dL_law_647 rfl (lv_at hl 3 rfl) ?_
  refine g_callW (n9 := 4) (As := [.ref xa, .int (xs (q + 1)), .int (xs (q + 2)), .ref oa]) (rest := []) hx hb hml hl.1 hown hts hY hK hX hM (w_cut l G M xa 1 oa 8 (kc_X6_cut N T 0 now price money (xs (q + 1)) (xs (q + 2))) _ _ _ _ [.ref h0, .ref h2, .ref h3] (xs (q + 1)) (xs (q + 2)) _ (c_X6_cut l hst G M xa 1 h2 h3 2 h0 Y N T 0 now price money (xs (q + 1)) (xs (q + 2)) c1 (by decide) c2) c1 ks_cut (fun v M1 z => ⟨z.1, fo, by obtain ⟨-, -, Y9, -, hF⟩ := z; exact hF _ _ _ (by decide) o1⟩)) wm_L_121 wt_L_cut wn_L wx_L_cut (by decide +kernel) ⟨Nat.le_of_ble_eq_true rfl, Nat.le_of_ble_eq_true rfl⟩ ⟨by show cells + (1) ≤ 601024; rw [ec]; unfold CB; omega, by show slots + (6) ≤ 7293034; rw [es]; unfold SB; omega⟩ rfl (Nat.le_of_ble_eq_true rfl) rfl dL_law_648 (fun r M1 H locs hq1 hM => ?_)
  obtain ⟨er, hcase⟩ := hq1
  subst er
  have hsr : Sv M M1 rR := by
    rcases hcase with ⟨-, v, Ma, f, hP1, -, e1⟩ | ⟨-, e1⟩
    · obtain ⟨-, -, Y9, -, hF⟩ := hP1
      rw [e1]
      exact Sv.tr (M1 := Ma) (Sv.fr hF (by decide)) (Sv.up (e0 := loE G fo) (hF _ _ _ (by decide) o1) (by decide))
    · rw [e1]
      exact Sv.rf
  have r1' := r1.same (fun q e hq => hsr _ _ _ (Or.inl rfl) hq)
  have r2' := r2.same (fun q e hq => hsr _ _ _ (Or.inr rfl) hq)
  refine lv_istore (lv' := [(5, .int ((pcd 1 0 0) (kc_X6_cut N T 0 now price money (xs (q + 1)) (xs (q + 2))))), (0, .ref b), (1, .ref xa), (2, .ref ma), (3, .ref oa), (4, .int (nI q))]) hx hb dL_law_651 hl (by decide) rfl (fun ls hl => ?_)
  refine lv_aload_n hx hb dL_law_653 rfl (lv_at hl 3 rfl) ?_
  refine s_arg (j := 1) (q := q) C0 hM (lv_at hl 1 rfl) (lv_at hl 5 rfl) (by omega) (by decide) dL_law_654 dL_law_655 dL_law_657 dL_law_658 dL_law_659 ?_
  refine s_arg (j := 2) (q := q) C0 hM (lv_at hl 1 rfl) (lv_at hl 5 rfl) (by omega) (by decide) dL_law_660 dL_law_661 dL_law_663 dL_law_664 dL_law_665 ?_
  refine g_callVi (n9 := 2) (As := [.int (xs (q + 1)), .int (xs (q + 2))]) (rest := []) hx hb hml hl.1 hown hts hK hM (c_X8_cut l G M1 5 ma k0 fa lb 6 7 Z N U now th price money F Lx (xs (q + 1)) (xs (q + 2)) r1' r2' (by decide) (by decide) (by decide)) wm_L_123 wi_X8_cut wl_X8_cut wn_X8 wc_X8_cut (by decide +kernel) (hM.recv hK (ci := 9) rfl r1'.1) ⟨Nat.le_of_ble_eq_true rfl, Nat.le_of_ble_eq_true rfl⟩ ⟨by show cells + (1) + (0) ≤ 601024; rw [ec]; unfold CB; omega, by show slots + (6) + (0) ≤ 7293034; rw [es]; unfold SB; omega⟩ rfl (Nat.le_of_ble_eq_true rfl) rfl dL_law_666 (fun rb M2 H locs hq2 hM => ?_)
  obtain ⟨eb, hXP⟩ := hq2
  subst eb
  obtain ⟨hO2, ⟨Z2, hL2⟩, hF3⟩ := id hXP
  rcases hcase with ⟨hk0, v, Ma, f, hP1, hfv, e1⟩ | ⟨hk1, e1⟩
  · obtain ⟨-, ev, Y9, hL9, hF⟩ := hP1
    have oa1 : Ma oa = some (8, loE G fo) := hF _ _ _ (by decide) o1
    have hMa : M1 oa = some (8, loE G f) := by rw [e1]; exact hu_s
    have o2 : M2 oa = some (8, loE G f) := hF3 _ _ _ (by decide) (by decide) (by decide) hMa
    have hs8 : Sv Ma M2 cR := Sv.tr (M1 := M1) (by rw [e1]; exact Sv.up oa1 (by decide)) (Sv.f3 hF3 (by decide) (by decide) (by decide))
    refine lw_cmp (v := q_X8_cut N U now th price money F Lx (xs (q + 1)) (xs (q + 2))) C0 ⟨Nat.le_of_ble_eq_true rfl, Nat.le_of_ble_eq_true rfl⟩ ⟨by show cells + (1) + (0) ≤ 601024; rw [ec]; unfold CB; omega, by show slots + (6) + (0) ≤ 7293034; rw [es]; unfold SB; omega⟩ hM hl hO2 o2 (cd_cut hN).symm (fun _ => by rw [hfv, ev, an_cut hSt hk0]) dL_law_669 dL_law_671 dL_law_672 dL_law_675 dL_law_677 dL_law_682 dL_law_684 dL_law_687 dL_law_688 dL_law_689 dL_law_690 dL_law_692 dL_law_693 dL_law_694 dL_law_699 (by decide) (fun H locs ls hM hl => ?_)
    have hcp := CP.sv (M := Ma) (xa := xa) (Nt := Nt) (⟨h0, h2, h3, Y9, Yt, Tt, a1, a2, a3, ft, hF _ _ _ (by decide) c1, hL9, c3.frame (by decide) hF, hF _ _ _ (by decide) c4⟩) hs8
    have hrp := RP.of hXP
    have hst2 := (to_cut (th := th) hSt hk0).2.1
    refine (fun z => W.widen (by rw [← esn]; rw [ec]; unfold CB; omega) (by rw [← esn]; rw [es]; unfold SB; omega) (kk M2 H locs ls _ _ ⟨_, _, _, _, _, _, _, _, Nt, hcp, hrp, ⟨_, o2⟩, hst2, hnt, rfl, rfl⟩ hM hl)) ()
  · have o2 : M2 oa = some (8, loE G fo) := hF3 _ _ _ (by decide) (by decide) (by decide) (by rw [e1]; exact o1)
    have hs8 : Sv M M2 cR := Sv.tr (M1 := M1) (by rw [e1]; exact Sv.rf) (Sv.f3 hF3 (by decide) (by decide) (by decide))
    refine lw_cmp (v := q_X8_cut N U now th price money F Lx (xs (q + 1)) (xs (q + 2))) C0 ⟨Nat.le_of_ble_eq_true rfl, Nat.le_of_ble_eq_true rfl⟩ ⟨by show cells + (1) + (0) ≤ 601024; rw [ec]; unfold CB; omega, by show slots + (6) + (0) ≤ 7293034; rw [es]; unfold SB; omega⟩ hM hl hO2 o2 (cd_cut hN).symm (fun z => absurd (kz_cut z) hk1) dL_law_669 dL_law_671 dL_law_672 dL_law_675 dL_law_677 dL_law_682 dL_law_684 dL_law_687 dL_law_688 dL_law_689 dL_law_690 dL_law_692 dL_law_693 dL_law_694 dL_law_699 (by decide) (fun H locs ls hM hl => ?_)
    rw [no_cut hSt hk1] at hXP
    have hcp := CP.sv (M := M) (xa := xa) (Nt := Nt) ⟨h0, h2, h3, Y, Yt, Tt, a1, a2, a3, ft, c1, c2, c3, c4⟩ hs8
    have hrp := RP.of hXP
    refine (fun z => W.widen (by rw [← esn]; rw [ec]; unfold CB; omega) (by rw [← esn]; rw [es]; unfold SB; omega) (kk M2 H locs ls _ _ ⟨_, _, _, _, _, _, _, _, Nt, hcp, hrp, ⟨_, o2⟩, hSt.le (Nat.le_succ _), hnt, rfl, rfl⟩ hM hl)) ()
set_option maxHeartbeats 4000000 in
set_option maxRecDepth 100000 in
theorem l_fetch (C : LH p l s m args c G b L xs) (hM : Wd G M s H locs) (hS : LwS G M xa ma oa cc cells slots) (hcc : cc < 512) (hq : q + 7 ≤ L) (hl : lv_has ls 9 [(0, .ref b), (1, .ref xa), (2, .ref ma), (3, .ref oa), (4, .int (nI q))])
    (kk : ∀ (M' : HM) (H : Heap) (locs : List Loc) (ls : Array Slot) (cells' slots' : Nat), LwS G M' xa ma oa (cc + 1) cells' slots' → Wd G M' s H locs → lv_has ls 9 [(0, .ref b), (1, .ref xa), (2, .ref ma), (3, .ref oa), (4, .int (nI q))] → W p l e room_1 s m args below meth c H locs cells' slots' Q (F0 m 1853 ls [])) : W p l e room_1 s m args below meth c H locs cells slots Q (F0 m 702 ls []) := by
  have C0 := C
  obtain ⟨hx, hb, hml, hown, hts, hY, hK, hX, hst, hSc, hbl, hbA, hL⟩ := C
  obtain ⟨N, T, U, now, price, money, F, Lx, Nt, ⟨h0, h2, h3, Y, Yt, Tt, a1, a2, a3, ft, c1, c2, c3, c4⟩, ⟨k0, fa, lb, th, Z, r1, r2⟩, ⟨fo, o1⟩, hSt, hnt, ec, es⟩ := hS
  have hN := hSt.2.1
  have hn4 := hSt.n4
  obtain ⟨n0, n1, n2, n3⟩ := id hN
  obtain ⟨t0, t1, t2, t3, t4⟩ := id hnt
  have tb : s4 Nt ≤ 19 := by show Nt 0 + Nt 1 + Nt 2 + Nt 3 ≤ 19; omega
  obtain ⟨sn, esn⟩ : ∃ z, z = s4 Nt := ⟨_, rfl⟩
  rw [← esn] at ec es tb
  refine lv_aload_n hx hb dL_law_702 rfl (lv_at hl 1 rfl) ?_
  refine s_arg (j := 1) (q := q) C0 hM (lv_at hl 0 rfl) (lv_at hl 4 rfl) (by omega) (by decide) dL_law_703 dL_law_704 dL_law_706 dL_law_707 dL_law_708 ?_
  refine s_arg (j := 2) (q := q) C0 hM (lv_at hl 0 rfl) (lv_at hl 4 rfl) (by omega) (by decide) dL_law_709 dL_law_710 dL_law_712 dL_law_713 dL_law_714 ?_
  refine lv_aload_n hx hb dL_law_715 rfl (lv_at hl 3 rfl) ?_
  refine g_callW (n9 := 4) (As := [.ref xa, .int (xs (q + 1)), .int (xs (q + 2)), .ref oa]) (rest := []) hx hb hml hl.1 hown hts hY hK hX hM (w_fetch l G M xa 1 oa 8 (kc_X6_fetch N T 0 now price money (xs (q + 1)) (xs (q + 2))) _ _ _ _ [.ref h0, .ref h2, .ref h3] (xs (q + 1)) (xs (q + 2)) _ (c_X6_fetch l hst G M xa 1 h2 h3 2 h0 Y N T 0 now price money (xs (q + 1)) (xs (q + 2)) c1 (by decide) c2) c1 ks_fetch (fun v M1 z => ⟨z.1, fo, by obtain ⟨-, -, Y9, -, hF⟩ := z; exact hF _ _ _ (by decide) o1⟩)) wm_L_124 wt_L_fetch wn_L wx_L_fetch (by decide +kernel) ⟨Nat.le_of_ble_eq_true rfl, Nat.le_of_ble_eq_true rfl⟩ ⟨by show cells + (1) ≤ 601024; rw [ec]; unfold CB; omega, by show slots + (6) ≤ 7293034; rw [es]; unfold SB; omega⟩ rfl (Nat.le_of_ble_eq_true rfl) rfl dL_law_716 (fun r M1 H locs hq1 hM => ?_)
  obtain ⟨er, hcase⟩ := hq1
  subst er
  have hsr : Sv M M1 rR := by
    rcases hcase with ⟨-, v, Ma, f, hP1, -, e1⟩ | ⟨-, e1⟩
    · obtain ⟨-, -, Y9, -, hF⟩ := hP1
      rw [e1]
      exact Sv.tr (M1 := Ma) (Sv.fr hF (by decide)) (Sv.up (e0 := loE G fo) (hF _ _ _ (by decide) o1) (by decide))
    · rw [e1]
      exact Sv.rf
  have r1' := r1.same (fun q e hq => hsr _ _ _ (Or.inl rfl) hq)
  have r2' := r2.same (fun q e hq => hsr _ _ _ (Or.inr rfl) hq)
  refine lv_istore (lv' := [(5, .int ((pcd 1 0 0) (kc_X6_fetch N T 0 now price money (xs (q + 1)) (xs (q + 2))))), (0, .ref b), (1, .ref xa), (2, .ref ma), (3, .ref oa), (4, .int (nI q))]) hx hb dL_law_719 hl (by decide) rfl (fun ls hl => ?_)
  refine lv_aload_n hx hb dL_law_721 rfl (lv_at hl 3 rfl) ?_
  refine s_arg (j := 1) (q := q) C0 hM (lv_at hl 1 rfl) (lv_at hl 5 rfl) (by omega) (by decide) dL_law_722 dL_law_723 dL_law_725 dL_law_726 dL_law_727 ?_
  refine s_arg (j := 2) (q := q) C0 hM (lv_at hl 1 rfl) (lv_at hl 5 rfl) (by omega) (by decide) dL_law_728 dL_law_729 dL_law_731 dL_law_732 dL_law_733 ?_
  refine g_callVi (n9 := 2) (As := [.int (xs (q + 1)), .int (xs (q + 2))]) (rest := []) hx hb hml hl.1 hown hts hK hM (c_X8_fetch l G M1 5 ma k0 fa lb 6 7 Z N U now th price money F Lx (xs (q + 1)) (xs (q + 2)) r1' r2' (by decide) (by decide) (by decide)) wm_L_126 wi_X8_fetch wl_X8_fetch wn_X8 wc_X8_fetch (by decide +kernel) (hM.recv hK (ci := 9) rfl r1'.1) ⟨Nat.le_of_ble_eq_true rfl, Nat.le_of_ble_eq_true rfl⟩ ⟨by show cells + (1) + (0) ≤ 601024; rw [ec]; unfold CB; omega, by show slots + (6) + (0) ≤ 7293034; rw [es]; unfold SB; omega⟩ rfl (Nat.le_of_ble_eq_true rfl) rfl dL_law_734 (fun rb M2 H locs hq2 hM => ?_)
  obtain ⟨eb, hXP⟩ := hq2
  subst eb
  obtain ⟨hO2, ⟨Z2, hL2⟩, hF3⟩ := id hXP
  rcases hcase with ⟨hk0, v, Ma, f, hP1, hfv, e1⟩ | ⟨hk1, e1⟩
  · obtain ⟨-, ev, Y9, hL9, hF⟩ := hP1
    have oa1 : Ma oa = some (8, loE G fo) := hF _ _ _ (by decide) o1
    have hMa : M1 oa = some (8, loE G f) := by rw [e1]; exact hu_s
    have o2 : M2 oa = some (8, loE G f) := hF3 _ _ _ (by decide) (by decide) (by decide) hMa
    have hs8 : Sv Ma M2 cR := Sv.tr (M1 := M1) (by rw [e1]; exact Sv.up oa1 (by decide)) (Sv.f3 hF3 (by decide) (by decide) (by decide))
    refine lw_cmp (v := q_X8_fetch N U now th price money F Lx (xs (q + 1)) (xs (q + 2))) C0 ⟨Nat.le_of_ble_eq_true rfl, Nat.le_of_ble_eq_true rfl⟩ ⟨by show cells + (1) + (0) ≤ 601024; rw [ec]; unfold CB; omega, by show slots + (6) + (0) ≤ 7293034; rw [es]; unfold SB; omega⟩ hM hl hO2 o2 (cd_fetch hN).symm (fun _ => by rw [hfv, ev, an_fetch hSt hk0]) dL_law_737 dL_law_739 dL_law_740 dL_law_743 dL_law_745 dL_law_750 dL_law_752 dL_law_755 dL_law_756 dL_law_757 dL_law_758 dL_law_760 dL_law_761 dL_law_762 dL_law_767 (by decide) (fun H locs ls hM hl => ?_)
    rw [u0_fetch hN hk0] at hXP
    have hcp := CP.sv (M := Ma) (xa := xa) (Nt := Nt) (⟨h0, h2, h3, Y9, Yt, Tt, a1, a2, a3, ft, hF _ _ _ (by decide) c1, hL9, c3.frame (by decide) hF, hF _ _ _ (by decide) c4⟩) hs8
    have hrp := RP.of hXP
    have hst2 := (to_fetch hSt hk0).1
    refine (fun z => W.widen (by rw [← esn]; rw [ec]; unfold CB; omega) (by rw [← esn]; rw [es]; unfold SB; omega) (kk M2 H locs ls _ _ ⟨_, _, _, _, _, _, _, _, Nt, hcp, hrp, ⟨_, o2⟩, hst2, hnt, rfl, rfl⟩ hM hl)) ()
  · have o2 : M2 oa = some (8, loE G fo) := hF3 _ _ _ (by decide) (by decide) (by decide) (by rw [e1]; exact o1)
    have hs8 : Sv M M2 cR := Sv.tr (M1 := M1) (by rw [e1]; exact Sv.rf) (Sv.f3 hF3 (by decide) (by decide) (by decide))
    refine lw_cmp (v := q_X8_fetch N U now th price money F Lx (xs (q + 1)) (xs (q + 2))) C0 ⟨Nat.le_of_ble_eq_true rfl, Nat.le_of_ble_eq_true rfl⟩ ⟨by show cells + (1) + (0) ≤ 601024; rw [ec]; unfold CB; omega, by show slots + (6) + (0) ≤ 7293034; rw [es]; unfold SB; omega⟩ hM hl hO2 o2 (cd_fetch hN).symm (fun z => absurd (kz_fetch z) hk1) dL_law_737 dL_law_739 dL_law_740 dL_law_743 dL_law_745 dL_law_750 dL_law_752 dL_law_755 dL_law_756 dL_law_757 dL_law_758 dL_law_760 dL_law_761 dL_law_762 dL_law_767 (by decide) (fun H locs ls hM hl => ?_)
    rw [u1_fetch hN hk1] at hXP
    have hcp := CP.sv (M := M) (xa := xa) (Nt := Nt) ⟨h0, h2, h3, Y, Yt, Tt, a1, a2, a3, ft, c1, c2, c3, c4⟩ hs8
    have hrp := RP.of hXP
    refine (fun z => W.widen (by rw [← esn]; rw [ec]; unfold CB; omega) (by rw [← esn]; rw [es]; unfold SB; omega) (kk M2 H locs ls _ _ ⟨_, _, _, _, _, _, _, _, Nt, hcp, hrp, ⟨_, o2⟩, hSt.le (Nat.le_succ _), hnt, rfl, rfl⟩ hM hl)) ()
set_option maxHeartbeats 4000000 in
set_option maxRecDepth 100000 in
theorem l_haul (C : LH p l s m args c G b L xs) (hM : Wd G M s H locs) (hS : LwS G M xa ma oa cc cells slots) (hcc : cc < 512) (hq : q + 7 ≤ L) (hl : lv_has ls 9 [(0, .ref b), (1, .ref xa), (2, .ref ma), (3, .ref oa), (4, .int (nI q))])
    (kk : ∀ (M' : HM) (H : Heap) (locs : List Loc) (ls : Array Slot) (cells' slots' : Nat), LwS G M' xa ma oa (cc + 1) cells' slots' → Wd G M' s H locs → lv_has ls 9 [(0, .ref b), (1, .ref xa), (2, .ref ma), (3, .ref oa), (4, .int (nI q))] → W p l e room_1 s m args below meth c H locs cells' slots' Q (F0 m 1853 ls [])) : W p l e room_1 s m args below meth c H locs cells slots Q (F0 m 770 ls []) := by
  have C0 := C
  obtain ⟨hx, hb, hml, hown, hts, hY, hK, hX, hst, hSc, hbl, hbA, hL⟩ := C
  obtain ⟨N, T, U, now, price, money, F, Lx, Nt, ⟨h0, h2, h3, Y, Yt, Tt, a1, a2, a3, ft, c1, c2, c3, c4⟩, ⟨k0, fa, lb, th, Z, r1, r2⟩, ⟨fo, o1⟩, hSt, hnt, ec, es⟩ := hS
  have hN := hSt.2.1
  have hn4 := hSt.n4
  obtain ⟨n0, n1, n2, n3⟩ := id hN
  obtain ⟨t0, t1, t2, t3, t4⟩ := id hnt
  have tb : s4 Nt ≤ 19 := by show Nt 0 + Nt 1 + Nt 2 + Nt 3 ≤ 19; omega
  obtain ⟨sn, esn⟩ : ∃ z, z = s4 Nt := ⟨_, rfl⟩
  rw [← esn] at ec es tb
  refine lv_aload_n hx hb dL_law_770 rfl (lv_at hl 1 rfl) ?_
  refine s_arg (j := 1) (q := q) C0 hM (lv_at hl 0 rfl) (lv_at hl 4 rfl) (by omega) (by decide) dL_law_771 dL_law_772 dL_law_774 dL_law_775 dL_law_776 ?_
  refine s_arg (j := 2) (q := q) C0 hM (lv_at hl 0 rfl) (lv_at hl 4 rfl) (by omega) (by decide) dL_law_777 dL_law_778 dL_law_780 dL_law_781 dL_law_782 ?_
  refine lv_aload_n hx hb dL_law_783 rfl (lv_at hl 3 rfl) ?_
  refine g_callW (n9 := 4) (As := [.ref xa, .int (xs (q + 1)), .int (xs (q + 2)), .ref oa]) (rest := []) hx hb hml hl.1 hown hts hY hK hX hM (w_haul l G M xa 1 oa 8 (kc_X6_haul N T 0 now price money (xs (q + 1)) (xs (q + 2))) _ _ _ _ [.ref h0, .ref h2, .ref h3] (xs (q + 1)) (xs (q + 2)) _ (c_X6_haul l hst G M xa 1 h2 h3 2 h0 Y N T 0 now price money (xs (q + 1)) (xs (q + 2)) c1 (by decide) c2) c1 ks_haul (fun v M1 z => ⟨z.1, fo, by obtain ⟨-, -, Y9, -, hF⟩ := z; exact hF _ _ _ (by decide) o1⟩)) wm_L_127 wt_L_haul wn_L wx_L_haul (by decide +kernel) ⟨Nat.le_of_ble_eq_true rfl, Nat.le_of_ble_eq_true rfl⟩ ⟨by show cells + (1) ≤ 601024; rw [ec]; unfold CB; omega, by show slots + (6) ≤ 7293034; rw [es]; unfold SB; omega⟩ rfl (Nat.le_of_ble_eq_true rfl) rfl dL_law_784 (fun r M1 H locs hq1 hM => ?_)
  obtain ⟨er, hcase⟩ := hq1
  subst er
  have hsr : Sv M M1 rR := by
    rcases hcase with ⟨-, v, Ma, f, hP1, -, e1⟩ | ⟨-, e1⟩
    · obtain ⟨-, -, Y9, -, hF⟩ := hP1
      rw [e1]
      exact Sv.tr (M1 := Ma) (Sv.fr hF (by decide)) (Sv.up (e0 := loE G fo) (hF _ _ _ (by decide) o1) (by decide))
    · rw [e1]
      exact Sv.rf
  have r1' := r1.same (fun q e hq => hsr _ _ _ (Or.inl rfl) hq)
  have r2' := r2.same (fun q e hq => hsr _ _ _ (Or.inr rfl) hq)
  refine lv_istore (lv' := [(5, .int ((pcd 1 0 0) (kc_X6_haul N T 0 now price money (xs (q + 1)) (xs (q + 2))))), (0, .ref b), (1, .ref xa), (2, .ref ma), (3, .ref oa), (4, .int (nI q))]) hx hb dL_law_787 hl (by decide) rfl (fun ls hl => ?_)
  refine lv_aload_n hx hb dL_law_789 rfl (lv_at hl 3 rfl) ?_
  refine s_arg (j := 1) (q := q) C0 hM (lv_at hl 1 rfl) (lv_at hl 5 rfl) (by omega) (by decide) dL_law_790 dL_law_791 dL_law_793 dL_law_794 dL_law_795 ?_
  refine s_arg (j := 2) (q := q) C0 hM (lv_at hl 1 rfl) (lv_at hl 5 rfl) (by omega) (by decide) dL_law_796 dL_law_797 dL_law_799 dL_law_800 dL_law_801 ?_
  refine g_callVi (n9 := 2) (As := [.int (xs (q + 1)), .int (xs (q + 2))]) (rest := []) hx hb hml hl.1 hown hts hK hM (c_X8_haul l G M1 5 ma k0 fa lb 6 7 Z N U now th price money F Lx (xs (q + 1)) (xs (q + 2)) r1' r2' (by decide) (by decide) (by decide)) wm_L_129 wi_X8_haul wl_X8_haul wn_X8 wc_X8_haul (by decide +kernel) (hM.recv hK (ci := 9) rfl r1'.1) ⟨Nat.le_of_ble_eq_true rfl, Nat.le_of_ble_eq_true rfl⟩ ⟨by show cells + (1) + (0) ≤ 601024; rw [ec]; unfold CB; omega, by show slots + (6) + (0) ≤ 7293034; rw [es]; unfold SB; omega⟩ rfl (Nat.le_of_ble_eq_true rfl) rfl dL_law_802 (fun rb M2 H locs hq2 hM => ?_)
  obtain ⟨eb, hXP⟩ := hq2
  subst eb
  obtain ⟨hO2, ⟨Z2, hL2⟩, hF3⟩ := id hXP
  rcases hcase with ⟨hk0, v, Ma, f, hP1, hfv, e1⟩ | ⟨hk1, e1⟩
  · obtain ⟨-, ev, Y9, hL9, hF⟩ := hP1
    have oa1 : Ma oa = some (8, loE G fo) := hF _ _ _ (by decide) o1
    have hMa : M1 oa = some (8, loE G f) := by rw [e1]; exact hu_s
    have o2 : M2 oa = some (8, loE G f) := hF3 _ _ _ (by decide) (by decide) (by decide) hMa
    have hs8 : Sv Ma M2 cR := Sv.tr (M1 := M1) (by rw [e1]; exact Sv.up oa1 (by decide)) (Sv.f3 hF3 (by decide) (by decide) (by decide))
    refine lw_cmp (v := q_X8_haul N U now th price money F Lx (xs (q + 1)) (xs (q + 2))) C0 ⟨Nat.le_of_ble_eq_true rfl, Nat.le_of_ble_eq_true rfl⟩ ⟨by show cells + (1) + (0) ≤ 601024; rw [ec]; unfold CB; omega, by show slots + (6) + (0) ≤ 7293034; rw [es]; unfold SB; omega⟩ hM hl hO2 o2 (cd_haul hN).symm (fun _ => by rw [hfv, ev, an_haul hSt hk0]) dL_law_805 dL_law_807 dL_law_808 dL_law_811 dL_law_813 dL_law_818 dL_law_820 dL_law_823 dL_law_824 dL_law_825 dL_law_826 dL_law_828 dL_law_829 dL_law_830 dL_law_835 (by decide) (fun H locs ls hM hl => ?_)
    rw [u0_haul hN hk0] at hXP
    have hcp := CP.sv (M := Ma) (xa := xa) (Nt := Nt) (⟨h0, h2, h3, Y9, Yt, Tt, a1, a2, a3, ft, hF _ _ _ (by decide) c1, hL9, c3.frame (by decide) hF, hF _ _ _ (by decide) c4⟩) hs8
    have hrp := RP.of hXP
    have hst2 := (to_haul hSt hk0).1
    refine (fun z => W.widen (by rw [← esn]; rw [ec]; unfold CB; omega) (by rw [← esn]; rw [es]; unfold SB; omega) (kk M2 H locs ls _ _ ⟨_, _, _, _, _, _, _, _, Nt, hcp, hrp, ⟨_, o2⟩, hst2, hnt, rfl, rfl⟩ hM hl)) ()
  · have o2 : M2 oa = some (8, loE G fo) := hF3 _ _ _ (by decide) (by decide) (by decide) (by rw [e1]; exact o1)
    have hs8 : Sv M M2 cR := Sv.tr (M1 := M1) (by rw [e1]; exact Sv.rf) (Sv.f3 hF3 (by decide) (by decide) (by decide))
    refine lw_cmp (v := q_X8_haul N U now th price money F Lx (xs (q + 1)) (xs (q + 2))) C0 ⟨Nat.le_of_ble_eq_true rfl, Nat.le_of_ble_eq_true rfl⟩ ⟨by show cells + (1) + (0) ≤ 601024; rw [ec]; unfold CB; omega, by show slots + (6) + (0) ≤ 7293034; rw [es]; unfold SB; omega⟩ hM hl hO2 o2 (cd_haul hN).symm (fun z => absurd (kz_haul z) hk1) dL_law_805 dL_law_807 dL_law_808 dL_law_811 dL_law_813 dL_law_818 dL_law_820 dL_law_823 dL_law_824 dL_law_825 dL_law_826 dL_law_828 dL_law_829 dL_law_830 dL_law_835 (by decide) (fun H locs ls hM hl => ?_)
    rw [u1_haul hN hk1] at hXP
    have hcp := CP.sv (M := M) (xa := xa) (Nt := Nt) ⟨h0, h2, h3, Y, Yt, Tt, a1, a2, a3, ft, c1, c2, c3, c4⟩ hs8
    have hrp := RP.of hXP
    refine (fun z => W.widen (by rw [← esn]; rw [ec]; unfold CB; omega) (by rw [← esn]; rw [es]; unfold SB; omega) (kk M2 H locs ls _ _ ⟨_, _, _, _, _, _, _, _, Nt, hcp, hrp, ⟨_, o2⟩, hSt.le (Nat.le_succ _), hnt, rfl, rfl⟩ hM hl)) ()
set_option maxHeartbeats 4000000 in
set_option maxRecDepth 100000 in
theorem l_stop (C : LH p l s m args c G b L xs) (hM : Wd G M s H locs) (hS : LwS G M xa ma oa cc cells slots) (hcc : cc < 512) (hq : q + 7 ≤ L) (hl : lv_has ls 9 [(0, .ref b), (1, .ref xa), (2, .ref ma), (3, .ref oa), (4, .int (nI q))])
    (kk : ∀ (M' : HM) (H : Heap) (locs : List Loc) (ls : Array Slot) (cells' slots' : Nat), LwS G M' xa ma oa (cc + 1) cells' slots' → Wd G M' s H locs → lv_has ls 9 [(0, .ref b), (1, .ref xa), (2, .ref ma), (3, .ref oa), (4, .int (nI q))] → W p l e room_1 s m args below meth c H locs cells' slots' Q (F0 m 1853 ls [])) : W p l e room_1 s m args below meth c H locs cells slots Q (F0 m 838 ls []) := by
  have C0 := C
  obtain ⟨hx, hb, hml, hown, hts, hY, hK, hX, hst, hSc, hbl, hbA, hL⟩ := C
  obtain ⟨N, T, U, now, price, money, F, Lx, Nt, ⟨h0, h2, h3, Y, Yt, Tt, a1, a2, a3, ft, c1, c2, c3, c4⟩, ⟨k0, fa, lb, th, Z, r1, r2⟩, ⟨fo, o1⟩, hSt, hnt, ec, es⟩ := hS
  have hN := hSt.2.1
  have hn4 := hSt.n4
  obtain ⟨n0, n1, n2, n3⟩ := id hN
  obtain ⟨t0, t1, t2, t3, t4⟩ := id hnt
  have tb : s4 Nt ≤ 19 := by show Nt 0 + Nt 1 + Nt 2 + Nt 3 ≤ 19; omega
  obtain ⟨sn, esn⟩ : ∃ z, z = s4 Nt := ⟨_, rfl⟩
  rw [← esn] at ec es tb
  refine lv_aload_n hx hb dL_law_838 rfl (lv_at hl 1 rfl) ?_
  refine s_arg (j := 1) (q := q) C0 hM (lv_at hl 0 rfl) (lv_at hl 4 rfl) (by omega) (by decide) dL_law_839 dL_law_840 dL_law_842 dL_law_843 dL_law_844 ?_
  refine lv_aload_n hx hb dL_law_845 rfl (lv_at hl 3 rfl) ?_
  refine g_callW (n9 := 3) (As := [.ref xa, .int (xs (q + 1)), .ref oa]) (rest := []) hx hb hml hl.1 hown hts hY hK hX hM (w_stop l G M xa 1 oa 8 (kc_X6_stop N T 0 now price money (xs (q + 1))) _ _ _ _ [.ref h0, .ref h2, .ref h3] (xs (q + 1)) _ (c_X6_stop l hst G M xa 1 h2 h3 2 h0 Y N T 0 now price money (xs (q + 1)) c1 (by decide) c2) c1 ks_stop (fun v M1 z => ⟨z.1, fo, by obtain ⟨-, -, Y9, -, hF⟩ := z; exact hF _ _ _ (by decide) o1⟩)) wm_L_130 wt_L_stop wn_L wx_L_stop (by decide +kernel) ⟨Nat.le_of_ble_eq_true rfl, Nat.le_of_ble_eq_true rfl⟩ ⟨by show cells + (1) ≤ 601024; rw [ec]; unfold CB; omega, by show slots + (6) ≤ 7293034; rw [es]; unfold SB; omega⟩ rfl (Nat.le_of_ble_eq_true rfl) rfl dL_law_846 (fun r M1 H locs hq1 hM => ?_)
  obtain ⟨er, hcase⟩ := hq1
  subst er
  have hsr : Sv M M1 rR := by
    rcases hcase with ⟨-, v, Ma, f, hP1, -, e1⟩ | ⟨-, e1⟩
    · obtain ⟨-, -, Y9, -, hF⟩ := hP1
      rw [e1]
      exact Sv.tr (M1 := Ma) (Sv.fr hF (by decide)) (Sv.up (e0 := loE G fo) (hF _ _ _ (by decide) o1) (by decide))
    · rw [e1]
      exact Sv.rf
  have r1' := r1.same (fun q e hq => hsr _ _ _ (Or.inl rfl) hq)
  have r2' := r2.same (fun q e hq => hsr _ _ _ (Or.inr rfl) hq)
  refine lv_istore (lv' := [(5, .int ((pcd 1 0 0) (kc_X6_stop N T 0 now price money (xs (q + 1))))), (0, .ref b), (1, .ref xa), (2, .ref ma), (3, .ref oa), (4, .int (nI q))]) hx hb dL_law_849 hl (by decide) rfl (fun ls hl => ?_)
  refine lv_aload_n hx hb dL_law_851 rfl (lv_at hl 3 rfl) ?_
  refine s_arg (j := 1) (q := q) C0 hM (lv_at hl 1 rfl) (lv_at hl 5 rfl) (by omega) (by decide) dL_law_852 dL_law_853 dL_law_855 dL_law_856 dL_law_857 ?_
  refine g_callVi (n9 := 1) (As := [.int (xs (q + 1))]) (rest := []) hx hb hml hl.1 hown hts hK hM (c_X8_stop l G M1 5 ma k0 fa lb 6 7 Z N U now th price money F Lx (xs (q + 1)) r1' r2' (by decide) (by decide) (by decide)) wm_L_132 wi_X8_stop wl_X8_stop wn_X8 wc_X8_stop (by decide +kernel) (hM.recv hK (ci := 9) rfl r1'.1) ⟨Nat.le_of_ble_eq_true rfl, Nat.le_of_ble_eq_true rfl⟩ ⟨by show cells + (1) + (0) ≤ 601024; rw [ec]; unfold CB; omega, by show slots + (6) + (0) ≤ 7293034; rw [es]; unfold SB; omega⟩ rfl (Nat.le_of_ble_eq_true rfl) rfl dL_law_858 (fun rb M2 H locs hq2 hM => ?_)
  obtain ⟨eb, hXP⟩ := hq2
  subst eb
  obtain ⟨hO2, ⟨Z2, hL2⟩, hF3⟩ := id hXP
  rcases hcase with ⟨hk0, v, Ma, f, hP1, hfv, e1⟩ | ⟨hk1, e1⟩
  · obtain ⟨-, ev, Y9, hL9, hF⟩ := hP1
    have oa1 : Ma oa = some (8, loE G fo) := hF _ _ _ (by decide) o1
    have hMa : M1 oa = some (8, loE G f) := by rw [e1]; exact hu_s
    have o2 : M2 oa = some (8, loE G f) := hF3 _ _ _ (by decide) (by decide) (by decide) hMa
    have hs8 : Sv Ma M2 cR := Sv.tr (M1 := M1) (by rw [e1]; exact Sv.up oa1 (by decide)) (Sv.f3 hF3 (by decide) (by decide) (by decide))
    refine lw_cmp (v := q_X8_stop N U now th price money F Lx (xs (q + 1))) C0 ⟨Nat.le_of_ble_eq_true rfl, Nat.le_of_ble_eq_true rfl⟩ ⟨by show cells + (1) + (0) ≤ 601024; rw [ec]; unfold CB; omega, by show slots + (6) + (0) ≤ 7293034; rw [es]; unfold SB; omega⟩ hM hl hO2 o2 (cd_stop hN).symm (fun _ => by rw [hfv, ev, an_stop hSt hk0]) dL_law_861 dL_law_863 dL_law_864 dL_law_867 dL_law_869 dL_law_874 dL_law_876 dL_law_879 dL_law_880 dL_law_881 dL_law_882 dL_law_884 dL_law_885 dL_law_886 dL_law_891 (by decide) (fun H locs ls hM hl => ?_)
    rw [u0_stop hN hk0] at hXP
    have hcp := CP.sv (M := Ma) (xa := xa) (Nt := Nt) (⟨h0, h2, h3, Y9, Yt, Tt, a1, a2, a3, ft, hF _ _ _ (by decide) c1, hL9, c3.frame (by decide) hF, hF _ _ _ (by decide) c4⟩) hs8
    have hrp := RP.of hXP
    have hst2 := (to_stop hSt hk0).1
    refine (fun z => W.widen (by rw [← esn]; rw [ec]; unfold CB; omega) (by rw [← esn]; rw [es]; unfold SB; omega) (kk M2 H locs ls _ _ ⟨_, _, _, _, _, _, _, _, Nt, hcp, hrp, ⟨_, o2⟩, hst2, hnt, rfl, rfl⟩ hM hl)) ()
  · have o2 : M2 oa = some (8, loE G fo) := hF3 _ _ _ (by decide) (by decide) (by decide) (by rw [e1]; exact o1)
    have hs8 : Sv M M2 cR := Sv.tr (M1 := M1) (by rw [e1]; exact Sv.rf) (Sv.f3 hF3 (by decide) (by decide) (by decide))
    refine lw_cmp (v := q_X8_stop N U now th price money F Lx (xs (q + 1))) C0 ⟨Nat.le_of_ble_eq_true rfl, Nat.le_of_ble_eq_true rfl⟩ ⟨by show cells + (1) + (0) ≤ 601024; rw [ec]; unfold CB; omega, by show slots + (6) + (0) ≤ 7293034; rw [es]; unfold SB; omega⟩ hM hl hO2 o2 (cd_stop hN).symm (fun z => absurd (kz_stop z) hk1) dL_law_861 dL_law_863 dL_law_864 dL_law_867 dL_law_869 dL_law_874 dL_law_876 dL_law_879 dL_law_880 dL_law_881 dL_law_882 dL_law_884 dL_law_885 dL_law_886 dL_law_891 (by decide) (fun H locs ls hM hl => ?_)
    rw [u1_stop hN hk1] at hXP
    have hcp := CP.sv (M := M) (xa := xa) (Nt := Nt) ⟨h0, h2, h3, Y, Yt, Tt, a1, a2, a3, ft, c1, c2, c3, c4⟩ hs8
    have hrp := RP.of hXP
    refine (fun z => W.widen (by rw [← esn]; rw [ec]; unfold CB; omega) (by rw [← esn]; rw [es]; unfold SB; omega) (kk M2 H locs ls _ _ ⟨_, _, _, _, _, _, _, _, Nt, hcp, hrp, ⟨_, o2⟩, hSt.le (Nat.le_succ _), hnt, rfl, rfl⟩ hM hl)) ()
set_option maxHeartbeats 4000000 in
set_option maxRecDepth 100000 in
theorem l_mend (C : LH p l s m args c G b L xs) (hM : Wd G M s H locs) (hS : LwS G M xa ma oa cc cells slots) (hcc : cc < 512) (hq : q + 7 ≤ L) (hl : lv_has ls 9 [(0, .ref b), (1, .ref xa), (2, .ref ma), (3, .ref oa), (4, .int (nI q))])
    (kk : ∀ (M' : HM) (H : Heap) (locs : List Loc) (ls : Array Slot) (cells' slots' : Nat), LwS G M' xa ma oa (cc + 1) cells' slots' → Wd G M' s H locs → lv_has ls 9 [(0, .ref b), (1, .ref xa), (2, .ref ma), (3, .ref oa), (4, .int (nI q))] → W p l e room_1 s m args below meth c H locs cells' slots' Q (F0 m 1853 ls [])) : W p l e room_1 s m args below meth c H locs cells slots Q (F0 m 894 ls []) := by
  have C0 := C
  obtain ⟨hx, hb, hml, hown, hts, hY, hK, hX, hst, hSc, hbl, hbA, hL⟩ := C
  obtain ⟨N, T, U, now, price, money, F, Lx, Nt, ⟨h0, h2, h3, Y, Yt, Tt, a1, a2, a3, ft, c1, c2, c3, c4⟩, ⟨k0, fa, lb, th, Z, r1, r2⟩, ⟨fo, o1⟩, hSt, hnt, ec, es⟩ := hS
  have hN := hSt.2.1
  have hn4 := hSt.n4
  obtain ⟨n0, n1, n2, n3⟩ := id hN
  obtain ⟨t0, t1, t2, t3, t4⟩ := id hnt
  have tb : s4 Nt ≤ 19 := by show Nt 0 + Nt 1 + Nt 2 + Nt 3 ≤ 19; omega
  obtain ⟨sn, esn⟩ : ∃ z, z = s4 Nt := ⟨_, rfl⟩
  rw [← esn] at ec es tb
  refine lv_aload_n hx hb dL_law_894 rfl (lv_at hl 1 rfl) ?_
  refine s_arg (j := 1) (q := q) C0 hM (lv_at hl 0 rfl) (lv_at hl 4 rfl) (by omega) (by decide) dL_law_895 dL_law_896 dL_law_898 dL_law_899 dL_law_900 ?_
  refine lv_aload_n hx hb dL_law_901 rfl (lv_at hl 3 rfl) ?_
  refine g_callW (n9 := 3) (As := [.ref xa, .int (xs (q + 1)), .ref oa]) (rest := []) hx hb hml hl.1 hown hts hY hK hX hM (w_mend l G M xa 1 oa 8 (kc_X6_mend N T 0 now price money (xs (q + 1))) _ _ _ _ [.ref h0, .ref h2, .ref h3] (xs (q + 1)) _ (c_X6_mend l hst G M xa 1 h2 h3 2 h0 Y N T 0 now price money (xs (q + 1)) c1 (by decide) c2) c1 ks_mend (fun v M1 z => ⟨z.1, fo, by obtain ⟨-, -, Y9, -, hF⟩ := z; exact hF _ _ _ (by decide) o1⟩)) wm_L_133 wt_L_mend wn_L wx_L_mend (by decide +kernel) ⟨Nat.le_of_ble_eq_true rfl, Nat.le_of_ble_eq_true rfl⟩ ⟨by show cells + (1) ≤ 601024; rw [ec]; unfold CB; omega, by show slots + (6) ≤ 7293034; rw [es]; unfold SB; omega⟩ rfl (Nat.le_of_ble_eq_true rfl) rfl dL_law_902 (fun r M1 H locs hq1 hM => ?_)
  obtain ⟨er, hcase⟩ := hq1
  subst er
  have hsr : Sv M M1 rR := by
    rcases hcase with ⟨-, v, Ma, f, hP1, -, e1⟩ | ⟨-, e1⟩
    · obtain ⟨-, -, Y9, -, hF⟩ := hP1
      rw [e1]
      exact Sv.tr (M1 := Ma) (Sv.fr hF (by decide)) (Sv.up (e0 := loE G fo) (hF _ _ _ (by decide) o1) (by decide))
    · rw [e1]
      exact Sv.rf
  have r1' := r1.same (fun q e hq => hsr _ _ _ (Or.inl rfl) hq)
  have r2' := r2.same (fun q e hq => hsr _ _ _ (Or.inr rfl) hq)
  refine lv_istore (lv' := [(5, .int ((pcd 1 0 2) (kc_X6_mend N T 0 now price money (xs (q + 1))))), (0, .ref b), (1, .ref xa), (2, .ref ma), (3, .ref oa), (4, .int (nI q))]) hx hb dL_law_905 hl (by decide) rfl (fun ls hl => ?_)
  refine lv_aload_n hx hb dL_law_907 rfl (lv_at hl 3 rfl) ?_
  refine s_arg (j := 1) (q := q) C0 hM (lv_at hl 1 rfl) (lv_at hl 5 rfl) (by omega) (by decide) dL_law_908 dL_law_909 dL_law_911 dL_law_912 dL_law_913 ?_
  refine g_callVi (n9 := 1) (As := [.int (xs (q + 1))]) (rest := []) hx hb hml hl.1 hown hts hK hM (c_X8_mend l G M1 5 ma k0 fa lb 6 7 Z N U now th price money F Lx (xs (q + 1)) r1' r2' (by decide) (by decide) (by decide)) wm_L_135 wi_X8_mend wl_X8_mend wn_X8 wc_X8_mend (by decide +kernel) (hM.recv hK (ci := 9) rfl r1'.1) ⟨Nat.le_of_ble_eq_true rfl, Nat.le_of_ble_eq_true rfl⟩ ⟨by show cells + (1) + (0) ≤ 601024; rw [ec]; unfold CB; omega, by show slots + (6) + (0) ≤ 7293034; rw [es]; unfold SB; omega⟩ rfl (Nat.le_of_ble_eq_true rfl) rfl dL_law_914 (fun rb M2 H locs hq2 hM => ?_)
  obtain ⟨eb, hXP⟩ := hq2
  subst eb
  obtain ⟨hO2, ⟨Z2, hL2⟩, hF3⟩ := id hXP
  rcases hcase with ⟨hk0, v, Ma, f, hP1, hfv, e1⟩ | ⟨hk1, e1⟩
  · obtain ⟨-, ev, Y9, hL9, hF⟩ := hP1
    have oa1 : Ma oa = some (8, loE G fo) := hF _ _ _ (by decide) o1
    have hMa : M1 oa = some (8, loE G f) := by rw [e1]; exact hu_s
    have o2 : M2 oa = some (8, loE G f) := hF3 _ _ _ (by decide) (by decide) (by decide) hMa
    have hs8 : Sv Ma M2 cR := Sv.tr (M1 := M1) (by rw [e1]; exact Sv.up oa1 (by decide)) (Sv.f3 hF3 (by decide) (by decide) (by decide))
    refine lw_cmp (v := q_X8_mend N U now th price money F Lx (xs (q + 1))) C0 ⟨Nat.le_of_ble_eq_true rfl, Nat.le_of_ble_eq_true rfl⟩ ⟨by show cells + (1) + (0) ≤ 601024; rw [ec]; unfold CB; omega, by show slots + (6) + (0) ≤ 7293034; rw [es]; unfold SB; omega⟩ hM hl hO2 o2 (cd_mend hSt).symm (fun _ => by rw [hfv, ev, an_mend hSt hk0]) dL_law_917 dL_law_919 dL_law_920 dL_law_923 dL_law_925 dL_law_930 dL_law_932 dL_law_935 dL_law_936 dL_law_937 dL_law_938 dL_law_940 dL_law_941 dL_law_942 dL_law_947 (by decide) (fun H locs ls hM hl => ?_)
    rw [(to_mend (th := th) hSt hk0).2.1] at hXP
    have hcp := CP.sv (M := Ma) (xa := xa) (Nt := Nt) (⟨h0, h2, h3, Y9, Yt, Tt, a1, a2, a3, ft, hF _ _ _ (by decide) c1, hL9, c3.frame (by decide) hF, hF _ _ _ (by decide) c4⟩) hs8
    have hrp := RP.of hXP
    have hst2 := (to_mend (th := th) hSt hk0).1
    refine (fun z => W.widen (by rw [← esn]; rw [ec]; unfold CB; omega) (by rw [← esn]; rw [es]; unfold SB; omega) (kk M2 H locs ls _ _ ⟨_, _, _, _, _, _, _, _, Nt, hcp, hrp, ⟨_, o2⟩, hst2, hnt, rfl, rfl⟩ hM hl)) ()
  · have o2 : M2 oa = some (8, loE G fo) := hF3 _ _ _ (by decide) (by decide) (by decide) (by rw [e1]; exact o1)
    have hs8 : Sv M M2 cR := Sv.tr (M1 := M1) (by rw [e1]; exact Sv.rf) (Sv.f3 hF3 (by decide) (by decide) (by decide))
    refine lw_cmp (v := q_X8_mend N U now th price money F Lx (xs (q + 1))) C0 ⟨Nat.le_of_ble_eq_true rfl, Nat.le_of_ble_eq_true rfl⟩ ⟨by show cells + (1) + (0) ≤ 601024; rw [ec]; unfold CB; omega, by show slots + (6) + (0) ≤ 7293034; rw [es]; unfold SB; omega⟩ hM hl hO2 o2 (cd_mend hSt).symm (fun z => absurd (kz_mend z) hk1) dL_law_917 dL_law_919 dL_law_920 dL_law_923 dL_law_925 dL_law_930 dL_law_932 dL_law_935 dL_law_936 dL_law_937 dL_law_938 dL_law_940 dL_law_941 dL_law_942 dL_law_947 (by decide) (fun H locs ls hM hl => ?_)
    rw [(no_mend hSt hk1).1, (no_mend hSt hk1).2] at hXP
    have hcp := CP.sv (M := M) (xa := xa) (Nt := Nt) ⟨h0, h2, h3, Y, Yt, Tt, a1, a2, a3, ft, c1, c2, c3, c4⟩ hs8
    have hrp := RP.of hXP
    refine (fun z => W.widen (by rw [← esn]; rw [ec]; unfold CB; omega) (by rw [← esn]; rw [es]; unfold SB; omega) (kk M2 H locs ls _ _ ⟨_, _, _, _, _, _, _, _, Nt, hcp, hrp, ⟨_, o2⟩, hSt.le (Nat.le_succ _), hnt, rfl, rfl⟩ hM hl)) ()
set_option maxHeartbeats 4000000 in
set_option maxRecDepth 100000 in
theorem l_train (C : LH p l s m args c G b L xs) (hM : Wd G M s H locs) (hS : LwS G M xa ma oa cc cells slots) (hcc : cc < 512) (hq : q + 7 ≤ L) (hl : lv_has ls 9 [(0, .ref b), (1, .ref xa), (2, .ref ma), (3, .ref oa), (4, .int (nI q))])
    (kk : ∀ (M' : HM) (H : Heap) (locs : List Loc) (ls : Array Slot) (cells' slots' : Nat), LwS G M' xa ma oa (cc + 1) cells' slots' → Wd G M' s H locs → lv_has ls 9 [(0, .ref b), (1, .ref xa), (2, .ref ma), (3, .ref oa), (4, .int (nI q))] → W p l e room_1 s m args below meth c H locs cells' slots' Q (F0 m 1853 ls [])) : W p l e room_1 s m args below meth c H locs cells slots Q (F0 m 950 ls []) := by
  have C0 := C
  obtain ⟨hx, hb, hml, hown, hts, hY, hK, hX, hst, hSc, hbl, hbA, hL⟩ := C
  obtain ⟨N, T, U, now, price, money, F, Lx, Nt, ⟨h0, h2, h3, Y, Yt, Tt, a1, a2, a3, ft, c1, c2, c3, c4⟩, ⟨k0, fa, lb, th, Z, r1, r2⟩, ⟨fo, o1⟩, hSt, hnt, ec, es⟩ := hS
  have hN := hSt.2.1
  have hn4 := hSt.n4
  obtain ⟨n0, n1, n2, n3⟩ := id hN
  obtain ⟨t0, t1, t2, t3, t4⟩ := id hnt
  have tb : s4 Nt ≤ 19 := by show Nt 0 + Nt 1 + Nt 2 + Nt 3 ≤ 19; omega
  obtain ⟨sn, esn⟩ : ∃ z, z = s4 Nt := ⟨_, rfl⟩
  rw [← esn] at ec es tb
  refine lv_aload_n hx hb dL_law_950 rfl (lv_at hl 1 rfl) ?_
  refine s_arg (j := 1) (q := q) C0 hM (lv_at hl 0 rfl) (lv_at hl 4 rfl) (by omega) (by decide) dL_law_951 dL_law_952 dL_law_954 dL_law_955 dL_law_956 ?_
  refine s_arg (j := 2) (q := q) C0 hM (lv_at hl 0 rfl) (lv_at hl 4 rfl) (by omega) (by decide) dL_law_957 dL_law_958 dL_law_960 dL_law_961 dL_law_962 ?_
  refine lv_aload_n hx hb dL_law_963 rfl (lv_at hl 3 rfl) ?_
  refine g_callW (n9 := 4) (As := [.ref xa, .int (xs (q + 1)), .int (xs (q + 2)), .ref oa]) (rest := []) hx hb hml hl.1 hown hts hY hK hX hM (w_train l G M xa 1 oa 8 (kc_X6_train N T 0 now price money (xs (q + 1)) (xs (q + 2))) _ _ _ _ [.ref h0, .ref h2, .ref h3] (xs (q + 1)) (xs (q + 2)) _ (c_X6_train l hst G M xa 1 h2 h3 2 h0 Y N T 0 now price money (xs (q + 1)) (xs (q + 2)) c1 (by decide) c2) c1 ks_train (fun v M1 z => ⟨z.1, fo, by obtain ⟨-, -, Y9, -, hF⟩ := z; exact hF _ _ _ (by decide) o1⟩)) wm_L_136 wt_L_train wn_L wx_L_train (by decide +kernel) ⟨Nat.le_of_ble_eq_true rfl, Nat.le_of_ble_eq_true rfl⟩ ⟨by show cells + (1) ≤ 601024; rw [ec]; unfold CB; omega, by show slots + (6) ≤ 7293034; rw [es]; unfold SB; omega⟩ rfl (Nat.le_of_ble_eq_true rfl) rfl dL_law_964 (fun r M1 H locs hq1 hM => ?_)
  obtain ⟨er, hcase⟩ := hq1
  subst er
  have hsr : Sv M M1 rR := by
    rcases hcase with ⟨-, v, Ma, f, hP1, -, e1⟩ | ⟨-, e1⟩
    · obtain ⟨-, -, Y9, -, hF⟩ := hP1
      rw [e1]
      exact Sv.tr (M1 := Ma) (Sv.fr hF (by decide)) (Sv.up (e0 := loE G fo) (hF _ _ _ (by decide) o1) (by decide))
    · rw [e1]
      exact Sv.rf
  have r1' := r1.same (fun q e hq => hsr _ _ _ (Or.inl rfl) hq)
  have r2' := r2.same (fun q e hq => hsr _ _ _ (Or.inr rfl) hq)
  refine lv_istore (lv' := [(5, .int ((pcd 1 2 0) (kc_X6_train N T 0 now price money (xs (q + 1)) (xs (q + 2))))), (0, .ref b), (1, .ref xa), (2, .ref ma), (3, .ref oa), (4, .int (nI q))]) hx hb dL_law_967 hl (by decide) rfl (fun ls hl => ?_)
  refine lv_aload_n hx hb dL_law_969 rfl (lv_at hl 3 rfl) ?_
  refine s_arg (j := 1) (q := q) C0 hM (lv_at hl 1 rfl) (lv_at hl 5 rfl) (by omega) (by decide) dL_law_970 dL_law_971 dL_law_973 dL_law_974 dL_law_975 ?_
  refine s_arg (j := 2) (q := q) C0 hM (lv_at hl 1 rfl) (lv_at hl 5 rfl) (by omega) (by decide) dL_law_976 dL_law_977 dL_law_979 dL_law_980 dL_law_981 ?_
  refine g_callVi (n9 := 2) (As := [.int (xs (q + 1)), .int (xs (q + 2))]) (rest := []) hx hb hml hl.1 hown hts hK hM (c_X8_train l G M1 5 ma k0 fa lb 6 7 Z N U now th price money F Lx (xs (q + 1)) (xs (q + 2)) r1' r2' (by decide) (by decide) (by decide)) wm_L_138 wi_X8_train wl_X8_train wn_X8 wc_X8_train (by decide +kernel) (hM.recv hK (ci := 9) rfl r1'.1) ⟨Nat.le_of_ble_eq_true rfl, Nat.le_of_ble_eq_true rfl⟩ ⟨by show cells + (1) + (0) ≤ 601024; rw [ec]; unfold CB; omega, by show slots + (6) + (0) ≤ 7293034; rw [es]; unfold SB; omega⟩ rfl (Nat.le_of_ble_eq_true rfl) rfl dL_law_982 (fun rb M2 H locs hq2 hM => ?_)
  obtain ⟨eb, hXP⟩ := hq2
  subst eb
  obtain ⟨hO2, ⟨Z2, hL2⟩, hF3⟩ := id hXP
  rcases hcase with ⟨hk0, v, Ma, f, hP1, hfv, e1⟩ | ⟨hk1, e1⟩
  · obtain ⟨-, ev, Y9, hL9, hF⟩ := hP1
    have oa1 : Ma oa = some (8, loE G fo) := hF _ _ _ (by decide) o1
    have hMa : M1 oa = some (8, loE G f) := by rw [e1]; exact hu_s
    have o2 : M2 oa = some (8, loE G f) := hF3 _ _ _ (by decide) (by decide) (by decide) hMa
    have hs8 : Sv Ma M2 cR := Sv.tr (M1 := M1) (by rw [e1]; exact Sv.up oa1 (by decide)) (Sv.f3 hF3 (by decide) (by decide) (by decide))
    refine lw_cmp (v := q_X8_train N U now th price money F Lx (xs (q + 1)) (xs (q + 2))) C0 ⟨Nat.le_of_ble_eq_true rfl, Nat.le_of_ble_eq_true rfl⟩ ⟨by show cells + (1) + (0) ≤ 601024; rw [ec]; unfold CB; omega, by show slots + (6) + (0) ≤ 7293034; rw [es]; unfold SB; omega⟩ hM hl hO2 o2 (cd_train hN).symm (fun _ => by rw [hfv, ev, an_train hSt hk0]) dL_law_985 dL_law_987 dL_law_988 dL_law_991 dL_law_993 dL_law_998 dL_law_1000 dL_law_1003 dL_law_1004 dL_law_1005 dL_law_1006 dL_law_1008 dL_law_1009 dL_law_1010 dL_law_1015 (by decide) (fun H locs ls hM hl => ?_)
    rw [u0_train hN hk0] at hXP
    have hcp := CP.sv (M := Ma) (xa := xa) (Nt := Nt) (⟨h0, h2, h3, Y9, Yt, Tt, a1, a2, a3, ft, hF _ _ _ (by decide) c1, hL9, c3.frame (by decide) hF, hF _ _ _ (by decide) c4⟩) hs8
    have hrp := RP.of hXP
    have hst2 := (to_train hSt hk0).1
    refine (fun z => W.widen (by rw [← esn]; rw [ec]; unfold CB; omega) (by rw [← esn]; rw [es]; unfold SB; omega) (kk M2 H locs ls _ _ ⟨_, _, _, _, _, _, _, _, Nt, hcp, hrp, ⟨_, o2⟩, hst2, hnt, rfl, rfl⟩ hM hl)) ()
  · have o2 : M2 oa = some (8, loE G fo) := hF3 _ _ _ (by decide) (by decide) (by decide) (by rw [e1]; exact o1)
    have hs8 : Sv M M2 cR := Sv.tr (M1 := M1) (by rw [e1]; exact Sv.rf) (Sv.f3 hF3 (by decide) (by decide) (by decide))
    refine lw_cmp (v := q_X8_train N U now th price money F Lx (xs (q + 1)) (xs (q + 2))) C0 ⟨Nat.le_of_ble_eq_true rfl, Nat.le_of_ble_eq_true rfl⟩ ⟨by show cells + (1) + (0) ≤ 601024; rw [ec]; unfold CB; omega, by show slots + (6) + (0) ≤ 7293034; rw [es]; unfold SB; omega⟩ hM hl hO2 o2 (cd_train hN).symm (fun z => absurd (kz_train z) hk1) dL_law_985 dL_law_987 dL_law_988 dL_law_991 dL_law_993 dL_law_998 dL_law_1000 dL_law_1003 dL_law_1004 dL_law_1005 dL_law_1006 dL_law_1008 dL_law_1009 dL_law_1010 dL_law_1015 (by decide) (fun H locs ls hM hl => ?_)
    rw [u1_train hN hk1] at hXP
    have hcp := CP.sv (M := M) (xa := xa) (Nt := Nt) ⟨h0, h2, h3, Y, Yt, Tt, a1, a2, a3, ft, c1, c2, c3, c4⟩ hs8
    have hrp := RP.of hXP
    refine (fun z => W.widen (by rw [← esn]; rw [ec]; unfold CB; omega) (by rw [← esn]; rw [es]; unfold SB; omega) (kk M2 H locs ls _ _ ⟨_, _, _, _, _, _, _, _, Nt, hcp, hrp, ⟨_, o2⟩, hSt.le (Nat.le_succ _), hnt, rfl, rfl⟩ hM hl)) ()
set_option maxHeartbeats 4000000 in
set_option maxRecDepth 100000 in
theorem l_pass (C : LH p l s m args c G b L xs) (hM : Wd G M s H locs) (hS : LwS G M xa ma oa cc cells slots) (hcc : cc < 512) (hq : q + 7 ≤ L) (hl : lv_has ls 9 [(0, .ref b), (1, .ref xa), (2, .ref ma), (3, .ref oa), (4, .int (nI q))])
    (kk : ∀ (M' : HM) (H : Heap) (locs : List Loc) (ls : Array Slot) (cells' slots' : Nat), LwS G M' xa ma oa (cc + 1) cells' slots' → Wd G M' s H locs → lv_has ls 9 [(0, .ref b), (1, .ref xa), (2, .ref ma), (3, .ref oa), (4, .int (nI q))] → W p l e room_1 s m args below meth c H locs cells' slots' Q (F0 m 1853 ls [])) : W p l e room_1 s m args below meth c H locs cells slots Q (F0 m 1018 ls []) := by
  have C0 := C
  obtain ⟨hx, hb, hml, hown, hts, hY, hK, hX, hst, hSc, hbl, hbA, hL⟩ := C
  obtain ⟨N, T, U, now, price, money, F, Lx, Nt, ⟨h0, h2, h3, Y, Yt, Tt, a1, a2, a3, ft, c1, c2, c3, c4⟩, ⟨k0, fa, lb, th, Z, r1, r2⟩, ⟨fo, o1⟩, hSt, hnt, ec, es⟩ := hS
  have hN := hSt.2.1
  have hn4 := hSt.n4
  obtain ⟨n0, n1, n2, n3⟩ := id hN
  obtain ⟨t0, t1, t2, t3, t4⟩ := id hnt
  have tb : s4 Nt ≤ 19 := by show Nt 0 + Nt 1 + Nt 2 + Nt 3 ≤ 19; omega
  obtain ⟨sn, esn⟩ : ∃ z, z = s4 Nt := ⟨_, rfl⟩
  rw [← esn] at ec es tb
  refine lv_aload_n hx hb dL_law_1018 rfl (lv_at hl 1 rfl) ?_
  refine s_arg (j := 1) (q := q) C0 hM (lv_at hl 0 rfl) (lv_at hl 4 rfl) (by omega) (by decide) dL_law_1019 dL_law_1020 dL_law_1022 dL_law_1023 dL_law_1024 ?_
  refine s_arg (j := 2) (q := q) C0 hM (lv_at hl 0 rfl) (lv_at hl 4 rfl) (by omega) (by decide) dL_law_1025 dL_law_1026 dL_law_1028 dL_law_1029 dL_law_1030 ?_
  refine s_arg (j := 3) (q := q) C0 hM (lv_at hl 0 rfl) (lv_at hl 4 rfl) (by omega) (by decide) dL_law_1031 dL_law_1032 dL_law_1034 dL_law_1035 dL_law_1036 ?_
  refine s_arg (j := 4) (q := q) C0 hM (lv_at hl 0 rfl) (lv_at hl 4 rfl) (by omega) (by decide) dL_law_1037 dL_law_1038 dL_law_1040 dL_law_1041 dL_law_1042 ?_
  refine lv_aload_n hx hb dL_law_1043 rfl (lv_at hl 3 rfl) ?_
  obtain ⟨hSt', emo, ecn⟩ := to_pass (now := now) (price := price) (p1 := (xs (q + 2))) (p2 := (xs (q + 3))) (p3 := (xs (q + 4))) hSt (k := ix (xs (q + 1)))
  have hn4' := hSt'.n4
  rw [nu_s] at hn4'
  have hge : N 4 ≤ (hrsP (N 0) (N 1) (N 2) (N 3) 0 now price (xs (q + 2)) (xs (q + 3)) (xs (q + 4)) (ix (xs (q + 1))) (T, N 4, money)).2.1 := hrsP_ge (S := (T, N 4, money))
  obtain ⟨dd, edd⟩ : ∃ z, z = ((hrsP (N 0) (N 1) (N 2) (N 3) 0 now price (xs (q + 2)) (xs (q + 3)) (xs (q + 4)) (ix (xs (q + 1))) (T, N 4, money)).2.1 - N 4) := ⟨_, rfl⟩
  have hdd : N 4 + dd ≤ cc := by omega
  have hd4 : dd ≤ 4 := by
    have z : (pasR N now price (xs (q + 2)) (xs (q + 3)) (xs (q + 4)) (ix (xs (q + 1))) (U, N 4, money, F, Lx)).2.1 + ph (pasR N now price (xs (q + 2)) (xs (q + 3)) (xs (q + 4)) (ix (xs (q + 1))) (U, N 4, money, F, Lx)).1 (N 2) ≤ N 4 + ph U (N 2) := (hSt.1.hours hN (now := now) (price := price) (w := (xs (q + 2))) (a := (xs (q + 3))) (r := (xs (q + 4))) (ix (xs (q + 1)))).2
    rw [ecn] at z
    have y := ph_b (U := U) (N 2)
    omega
  refine g_callW (n9 := 6) (As := [.ref xa, .int (xs (q + 1)), .int (xs (q + 2)), .int (xs (q + 3)), .int (xs (q + 4)), .ref oa]) (rest := []) hx hb hml hl.1 hown hts hY hK hX hM (w_pass l G M xa 1 oa 8 (kc_X6_pass N T 0 now price money (xs (q + 1)) (xs (q + 2)) (xs (q + 3)) (xs (q + 4))) _ _ _ _ [.ref h0, .ref h2, .ref h3] (xs (q + 1)) (xs (q + 2)) (xs (q + 3)) (xs (q + 4)) _ (c_X6_pass l hst G M xa 1 h2 h3 2 h0 Y N T 0 now price money (xs (q + 1)) (xs (q + 2)) (xs (q + 3)) (xs (q + 4)) c1 (by decide) c2 (fun _ => by have z := (to_pass (now := now) (price := price) (p1 := (xs (q + 2))) (p2 := (xs (q + 3))) (p3 := (xs (q + 4))) hSt (k := ix (xs (q + 1)))).1.n4; rw [nu_s] at z; omega)) c1 ks_pass (fun v M1 z => ⟨z.1, fo, by obtain ⟨-, -, Y9, -, hF⟩ := z; exact hF _ _ _ (by decide) o1⟩)) wm_L_139 wt_L_pass wn_L wx_L_pass (by decide +kernel) ⟨Nat.le_of_ble_eq_true rfl, Nat.le_of_ble_eq_true rfl⟩ ⟨by show cells + (2 * ((hrsP (N 0) (N 1) (N 2) (N 3) 0 now price (xs (q + 2)) (xs (q + 3)) (xs (q + 4)) (ix (xs (q + 1))) (T, N 4, money)).2.1 - N 4) + 1) ≤ 601024; rw [← edd]; rw [ec]; unfold CB; omega, by show slots + (1000 * ((hrsP (N 0) (N 1) (N 2) (N 3) 0 now price (xs (q + 2)) (xs (q + 3)) (xs (q + 4)) (ix (xs (q + 1))) (T, N 4, money)).2.1 - N 4) + 6) ≤ 7293034; rw [← edd]; rw [es]; unfold SB; omega⟩ rfl (Nat.le_of_ble_eq_true rfl) rfl dL_law_1044 (fun r M1 H locs hq1 hM => ?_)
  obtain ⟨er, hcase⟩ := hq1
  subst er
  have hsr : Sv M M1 rR := by
    rcases hcase with ⟨-, v, Ma, f, hP1, -, e1⟩ | ⟨-, e1⟩
    · obtain ⟨-, -, Y9, -, hF⟩ := hP1
      rw [e1]
      exact Sv.tr (M1 := Ma) (Sv.fr hF (by decide)) (Sv.up (e0 := loE G fo) (hF _ _ _ (by decide) o1) (by decide))
    · rw [e1]
      exact Sv.rf
  have r1' := r1.same (fun q e hq => hsr _ _ _ (Or.inl rfl) hq)
  have r2' := r2.same (fun q e hq => hsr _ _ _ (Or.inr rfl) hq)
  refine lv_istore (lv' := [(5, .int ((pcd 0 1 2) (kc_X6_pass N T 0 now price money (xs (q + 1)) (xs (q + 2)) (xs (q + 3)) (xs (q + 4))))), (0, .ref b), (1, .ref xa), (2, .ref ma), (3, .ref oa), (4, .int (nI q))]) hx hb dL_law_1047 hl (by decide) rfl (fun ls hl => ?_)
  refine lv_aload_n hx hb dL_law_1049 rfl (lv_at hl 3 rfl) ?_
  refine s_arg (j := 1) (q := q) C0 hM (lv_at hl 1 rfl) (lv_at hl 5 rfl) (by omega) (by decide) dL_law_1050 dL_law_1051 dL_law_1053 dL_law_1054 dL_law_1055 ?_
  refine s_arg (j := 2) (q := q) C0 hM (lv_at hl 1 rfl) (lv_at hl 5 rfl) (by omega) (by decide) dL_law_1056 dL_law_1057 dL_law_1059 dL_law_1060 dL_law_1061 ?_
  refine s_arg (j := 3) (q := q) C0 hM (lv_at hl 1 rfl) (lv_at hl 5 rfl) (by omega) (by decide) dL_law_1062 dL_law_1063 dL_law_1065 dL_law_1066 dL_law_1067 ?_
  refine s_arg (j := 4) (q := q) C0 hM (lv_at hl 1 rfl) (lv_at hl 5 rfl) (by omega) (by decide) dL_law_1068 dL_law_1069 dL_law_1071 dL_law_1072 dL_law_1073 ?_
  refine g_callVi (n9 := 4) (As := [.int (xs (q + 1)), .int (xs (q + 2)), .int (xs (q + 3)), .int (xs (q + 4))]) (rest := []) hx hb hml hl.1 hown hts hK hM (c_X8_pass l G M1 5 ma k0 fa lb 6 7 Z N U now th price money F Lx (xs (q + 1)) (xs (q + 2)) (xs (q + 3)) (xs (q + 4)) r1' r2' (by decide) (by decide) (by decide) 512 (fun _ _ _ => ⟨hSt.1.paOK hN (ix (xs (q + 1))), by rw [ecn]; omega⟩) (by decide)) wm_L_142 wi_X8_pass wl_X8_pass wn_X8 wc_X8_pass (by decide +kernel) (hM.recv hK (ci := 9) rfl r1'.1) ⟨Nat.le_of_ble_eq_true rfl, Nat.le_of_ble_eq_true rfl⟩ ⟨by show cells + (2 * ((hrsP (N 0) (N 1) (N 2) (N 3) 0 now price (xs (q + 2)) (xs (q + 3)) (xs (q + 4)) (ix (xs (q + 1))) (T, N 4, money)).2.1 - N 4) + 1) + (2 * ((pasR N now price (xs (q + 2)) (xs (q + 3)) (xs (q + 4)) (ix (xs (q + 1))) (U, N 4, money, F, Lx)).2.1 - N 4)) ≤ 601024; rw [ecn, ← edd]; rw [ec]; unfold CB; omega, by show slots + (1000 * ((hrsP (N 0) (N 1) (N 2) (N 3) 0 now price (xs (q + 2)) (xs (q + 3)) (xs (q + 4)) (ix (xs (q + 1))) (T, N 4, money)).2.1 - N 4) + 6) + ((17 + 2 * 512) * ((pasR N now price (xs (q + 2)) (xs (q + 3)) (xs (q + 4)) (ix (xs (q + 1))) (U, N 4, money, F, Lx)).2.1 - N 4)) ≤ 7293034; rw [ecn, ← edd]; rw [es]; unfold SB; omega⟩ rfl (Nat.le_of_ble_eq_true rfl) rfl dL_law_1074 (fun rb M2 H locs hq2 hM => ?_)
  obtain ⟨eb, hXP⟩ := hq2
  subst eb
  obtain ⟨hO2, ⟨Z2, hL2⟩, hF3⟩ := id hXP
  rcases hcase with ⟨hk0, v, Ma, f, hP1, hfv, e1⟩ | ⟨hk1, e1⟩
  · obtain ⟨-, ev, Y9, hL9, hF⟩ := hP1
    have oa1 : Ma oa = some (8, loE G fo) := hF _ _ _ (by decide) o1
    have hMa : M1 oa = some (8, loE G f) := by rw [e1]; exact hu_s
    have o2 : M2 oa = some (8, loE G f) := hF3 _ _ _ (by decide) (by decide) (by decide) hMa
    have hs8 : Sv Ma M2 cR := Sv.tr (M1 := M1) (by rw [e1]; exact Sv.up oa1 (by decide)) (Sv.f3 hF3 (by decide) (by decide) (by decide))
    refine lw_cmp (v := q_X8_pass N U now th price money F Lx (xs (q + 1)) (xs (q + 2)) (xs (q + 3)) (xs (q + 4))) C0 ⟨Nat.le_of_ble_eq_true rfl, Nat.le_of_ble_eq_true rfl⟩ ⟨by show cells + (2 * ((hrsP (N 0) (N 1) (N 2) (N 3) 0 now price (xs (q + 2)) (xs (q + 3)) (xs (q + 4)) (ix (xs (q + 1))) (T, N 4, money)).2.1 - N 4) + 1) + (2 * ((pasR N now price (xs (q + 2)) (xs (q + 3)) (xs (q + 4)) (ix (xs (q + 1))) (U, N 4, money, F, Lx)).2.1 - N 4)) ≤ 601024; rw [ecn, ← edd]; rw [ec]; unfold CB; omega, by show slots + (1000 * ((hrsP (N 0) (N 1) (N 2) (N 3) 0 now price (xs (q + 2)) (xs (q + 3)) (xs (q + 4)) (ix (xs (q + 1))) (T, N 4, money)).2.1 - N 4) + 6) + ((17 + 2 * 512) * ((pasR N now price (xs (q + 2)) (xs (q + 3)) (xs (q + 4)) (ix (xs (q + 1))) (U, N 4, money, F, Lx)).2.1 - N 4)) ≤ 7293034; rw [ecn, ← edd]; rw [es]; unfold SB; omega⟩ hM hl hO2 o2 (cd_pass hN).symm (fun _ => by rw [hfv, ev, an_pass hSt hk0]) dL_law_1077 dL_law_1079 dL_law_1080 dL_law_1083 dL_law_1085 dL_law_1090 dL_law_1092 dL_law_1095 dL_law_1096 dL_law_1097 dL_law_1098 dL_law_1100 dL_law_1101 dL_law_1102 dL_law_1107 (by decide) (fun H locs ls hM hl => ?_)
    rw [n0_pass hk0, u0_pass hk0, now0_pass hk0, mo0_pass hk0, f0_pass hk0, lx0_pass hk0, emo, ecn] at hXP
    have hcp := CP.sv (M := Ma) (xa := xa) (Nt := Nt) (⟨h0, h2, h3, Y9, Yt, Tt, a1, a2, a3, ft, hF _ _ _ (by decide) c1, hL9, c3.frame (by decide) hF, hF _ _ _ (by decide) c4⟩) hs8
    have hrp := RP.of hXP
    have hst2 := hSt'.le (Nat.le_succ _)
    refine (fun z => W.widen (by rw [nu_s, ← esn]; rw [ecn, ← edd]; rw [ec]; unfold CB; omega) (by rw [nu_s, ← esn]; rw [ecn, ← edd]; rw [es]; unfold SB; omega) (kk M2 H locs ls _ _ ⟨_, _, _, _, _, _, _, _, Nt, hcp, hrp, ⟨_, o2⟩, hst2, ⟨t0, t1, t2, t3, t4⟩, rfl, rfl⟩ hM hl)) ()
  · have o2 : M2 oa = some (8, loE G fo) := hF3 _ _ _ (by decide) (by decide) (by decide) (by rw [e1]; exact o1)
    have hs8 : Sv M M2 cR := Sv.tr (M1 := M1) (by rw [e1]; exact Sv.rf) (Sv.f3 hF3 (by decide) (by decide) (by decide))
    refine lw_cmp (v := q_X8_pass N U now th price money F Lx (xs (q + 1)) (xs (q + 2)) (xs (q + 3)) (xs (q + 4))) C0 ⟨Nat.le_of_ble_eq_true rfl, Nat.le_of_ble_eq_true rfl⟩ ⟨by show cells + (2 * ((hrsP (N 0) (N 1) (N 2) (N 3) 0 now price (xs (q + 2)) (xs (q + 3)) (xs (q + 4)) (ix (xs (q + 1))) (T, N 4, money)).2.1 - N 4) + 1) + (2 * ((pasR N now price (xs (q + 2)) (xs (q + 3)) (xs (q + 4)) (ix (xs (q + 1))) (U, N 4, money, F, Lx)).2.1 - N 4)) ≤ 601024; rw [ecn, ← edd]; rw [ec]; unfold CB; omega, by show slots + (1000 * ((hrsP (N 0) (N 1) (N 2) (N 3) 0 now price (xs (q + 2)) (xs (q + 3)) (xs (q + 4)) (ix (xs (q + 1))) (T, N 4, money)).2.1 - N 4) + 6) + ((17 + 2 * 512) * ((pasR N now price (xs (q + 2)) (xs (q + 3)) (xs (q + 4)) (ix (xs (q + 1))) (U, N 4, money, F, Lx)).2.1 - N 4)) ≤ 7293034; rw [ecn, ← edd]; rw [es]; unfold SB; omega⟩ hM hl hO2 o2 (cd_pass hN).symm (fun z => absurd (kz_pass z) hk1) dL_law_1077 dL_law_1079 dL_law_1080 dL_law_1083 dL_law_1085 dL_law_1090 dL_law_1092 dL_law_1095 dL_law_1096 dL_law_1097 dL_law_1098 dL_law_1100 dL_law_1101 dL_law_1102 dL_law_1107 (by decide) (fun H locs ls hM hl => ?_)
    rw [n1_pass hk1, u1_pass hk1, now1_pass hk1, mo1_pass hk1, f1_pass hk1, lx1_pass hk1] at hXP
    have hcp := CP.sv (M := M) (xa := xa) (Nt := Nt) ⟨h0, h2, h3, Y, Yt, Tt, a1, a2, a3, ft, c1, c2, c3, c4⟩ hs8
    have hrp := RP.of hXP
    refine (fun z => W.widen (by rw [← esn]; rw [ecn, ← edd]; rw [ec]; unfold CB; omega) (by rw [← esn]; rw [ecn, ← edd]; rw [es]; unfold SB; omega) (kk M2 H locs ls _ _ ⟨_, _, _, _, _, _, _, _, Nt, hcp, hrp, ⟨_, o2⟩, hSt.le (Nat.le_succ _), hnt, rfl, rfl⟩ hM hl)) ()
set_option maxHeartbeats 4000000 in
set_option maxRecDepth 100000 in
theorem l_ofField (C : LH p l s m args c G b L xs) (hM : Wd G M s H locs) (hS : LwS G M xa ma oa cc cells slots) (hcc : cc < 512) (hq : q + 7 ≤ L) (hl : lv_has ls 9 [(0, .ref b), (1, .ref xa), (2, .ref ma), (3, .ref oa), (4, .int (nI q))])
    (kk : ∀ (M' : HM) (H : Heap) (locs : List Loc) (ls : Array Slot) (cells' slots' : Nat), LwS G M' xa ma oa (cc + 1) cells' slots' → Wd G M' s H locs → lv_has ls 9 [(0, .ref b), (1, .ref xa), (2, .ref ma), (3, .ref oa), (4, .int (nI q))] → W p l e room_1 s m args below meth c H locs cells' slots' Q (F0 m 1853 ls [])) : W p l e room_1 s m args below meth c H locs cells slots Q (F0 m 1110 ls []) := by
  have C0 := C
  obtain ⟨hx, hb, hml, hown, hts, hY, hK, hX, hst, hSc, hbl, hbA, hL⟩ := C
  obtain ⟨N, T, U, now, price, money, F, Lx, Nt, ⟨h0, h2, h3, Y, Yt, Tt, a1, a2, a3, ft, c1, c2, c3, c4⟩, ⟨k0, fa, lb, th, Z, r1, r2⟩, ⟨fo, o1⟩, hSt, hnt, ec, es⟩ := hS
  have hN := hSt.2.1
  have hn4 := hSt.n4
  obtain ⟨n0, n1, n2, n3⟩ := id hN
  obtain ⟨t0, t1, t2, t3, t4⟩ := id hnt
  have tb : s4 Nt ≤ 19 := by show Nt 0 + Nt 1 + Nt 2 + Nt 3 ≤ 19; omega
  obtain ⟨sn, esn⟩ : ∃ z, z = s4 Nt := ⟨_, rfl⟩
  rw [← esn] at ec es tb
  refine lv_aload_n hx hb dL_law_1110 rfl (lv_at hl 1 rfl) ?_
  refine s_arg (j := 1) (q := q) C0 hM (lv_at hl 0 rfl) (lv_at hl 4 rfl) (by omega) (by decide) dL_law_1111 dL_law_1112 dL_law_1114 dL_law_1115 dL_law_1116 ?_
  refine s_arg (j := 2) (q := q) C0 hM (lv_at hl 0 rfl) (lv_at hl 4 rfl) (by omega) (by decide) dL_law_1117 dL_law_1118 dL_law_1120 dL_law_1121 dL_law_1122 ?_
  refine lv_aload_n hx hb dL_law_1123 rfl (lv_at hl 3 rfl) ?_
  have hxc : xc (kc_X6_ofField N T 0 now price money (xs (q + 1)) (xs (q + 2))) ≤ 1 := by
    unfold xc
    split <;> omega
  obtain ⟨mc, emc⟩ : ∃ z, z = xc (kc_X6_ofField N T 0 now price money (xs (q + 1)) (xs (q + 2))) := ⟨_, rfl⟩
  rw [← emc] at hxc
  refine g_callW (n9 := 4) (As := [.ref xa, .int (xs (q + 1)), .int (xs (q + 2)), .ref oa]) (rest := []) hx hb hml hl.1 hown hts hY hK hX hM (w_ofField l G M xa 1 oa 8 (kc_X6_ofField N T 0 now price money (xs (q + 1)) (xs (q + 2))) _ _ _ _ [.ref h0, .ref h2, .ref h3] (xs (q + 1)) (xs (q + 2)) _ (c_X6_ofField l hst G M xa 1 h2 h3 2 h0 Y N T 0 now price money (xs (q + 1)) (xs (q + 2)) c1 (by decide) c2) c1 ks_ofField (fun v M1 z => ⟨z.1, fo, by rw [z.2.2]; exact o1⟩)) wm_L_143 wt_L_ofField wn_L wx_L_ofField (by decide +kernel) ⟨Nat.le_of_ble_eq_true rfl, Nat.le_of_ble_eq_true rfl⟩ ⟨by show cells + (xc (kc_X6_ofField N T 0 now price money (xs (q + 1)) (xs (q + 2)))) ≤ 601024; rw [← emc]; rw [ec]; unfold CB; omega, by show slots + (6 * xc (kc_X6_ofField N T 0 now price money (xs (q + 1)) (xs (q + 2)))) ≤ 7293034; rw [← emc]; rw [es]; unfold SB; omega⟩ rfl (Nat.le_of_ble_eq_true rfl) rfl dL_law_1124 (fun r M1 H locs hq1 hM => ?_)
  obtain ⟨er, hcase⟩ := hq1
  subst er
  have hsr : Sv M M1 rR := by
    rcases hcase with ⟨-, v, Ma, f, hP1, -, e1⟩ | ⟨-, e1⟩
    · have e9 := hP1.2.2
      rw [e1]
      exact Sv.tr (M1 := Ma) ((by rw [e9]; exact Sv.rf)) (Sv.up (e0 := loE G fo) ((by rw [e9]; exact o1)) (by decide))
    · rw [e1]
      exact Sv.rf
  have r1' := r1.same (fun q e hq => hsr _ _ _ (Or.inl rfl) hq)
  have r2' := r2.same (fun q e hq => hsr _ _ _ (Or.inr rfl) hq)
  refine lv_istore (lv' := [(5, .int ((pcd 1 2 0) (kc_X6_ofField N T 0 now price money (xs (q + 1)) (xs (q + 2))))), (0, .ref b), (1, .ref xa), (2, .ref ma), (3, .ref oa), (4, .int (nI q))]) hx hb dL_law_1127 hl (by decide) rfl (fun ls hl => ?_)
  refine lv_aload_n hx hb dL_law_1129 rfl (lv_at hl 3 rfl) ?_
  refine s_arg (j := 1) (q := q) C0 hM (lv_at hl 1 rfl) (lv_at hl 5 rfl) (by omega) (by decide) dL_law_1130 dL_law_1131 dL_law_1133 dL_law_1134 dL_law_1135 ?_
  refine s_arg (j := 2) (q := q) C0 hM (lv_at hl 1 rfl) (lv_at hl 5 rfl) (by omega) (by decide) dL_law_1136 dL_law_1137 dL_law_1139 dL_law_1140 dL_law_1141 ?_
  refine g_callVi (n9 := 2) (As := [.int (xs (q + 1)), .int (xs (q + 2))]) (rest := []) hx hb hml hl.1 hown hts hK hM (c_X8_ofField l G M1 5 ma k0 fa lb 6 7 Z N U now th price money F Lx (xs (q + 1)) (xs (q + 2)) r1' r2' (by decide) (by decide) (by decide)) wm_L_145 wi_X8_ofField wl_X8_ofField wn_X8 wc_X8_ofField (by decide +kernel) (hM.recv hK (ci := 9) rfl r1'.1) ⟨Nat.le_of_ble_eq_true rfl, Nat.le_of_ble_eq_true rfl⟩ ⟨by show cells + (xc (kc_X6_ofField N T 0 now price money (xs (q + 1)) (xs (q + 2)))) + (0) ≤ 601024; rw [← emc]; rw [ec]; unfold CB; omega, by show slots + (6 * xc (kc_X6_ofField N T 0 now price money (xs (q + 1)) (xs (q + 2)))) + (0) ≤ 7293034; rw [← emc]; rw [es]; unfold SB; omega⟩ rfl (Nat.le_of_ble_eq_true rfl) rfl dL_law_1142 (fun rb M2 H locs hq2 hM => ?_)
  obtain ⟨eb, hXP⟩ := hq2
  subst eb
  obtain ⟨hO2, ⟨Z2, hL2⟩, hF3⟩ := id hXP
  rcases hcase with ⟨hk0, v, Ma, f, hP1, hfv, e1⟩ | ⟨hk1, e1⟩
  · obtain ⟨-, ev, e9⟩ := hP1
    have oa1 : Ma oa = some (8, loE G fo) := (by rw [e9]; exact o1)
    have hMa : M1 oa = some (8, loE G f) := by rw [e1]; exact hu_s
    have o2 : M2 oa = some (8, loE G f) := hF3 _ _ _ (by decide) (by decide) (by decide) hMa
    have hs8 : Sv Ma M2 cR := Sv.tr (M1 := M1) (by rw [e1]; exact Sv.up oa1 (by decide)) (Sv.f3 hF3 (by decide) (by decide) (by decide))
    refine lw_cmp (v := q_X8_ofField N U now th price money F Lx (xs (q + 1)) (xs (q + 2))) C0 ⟨Nat.le_of_ble_eq_true rfl, Nat.le_of_ble_eq_true rfl⟩ ⟨by show cells + (xc (kc_X6_ofField N T 0 now price money (xs (q + 1)) (xs (q + 2)))) + (0) ≤ 601024; rw [← emc]; rw [ec]; unfold CB; omega, by show slots + (6 * xc (kc_X6_ofField N T 0 now price money (xs (q + 1)) (xs (q + 2)))) + (0) ≤ 7293034; rw [← emc]; rw [es]; unfold SB; omega⟩ hM hl hO2 o2 (cd_ofField hN).symm (fun _ => by rw [hfv, ev, an_ofField hSt hk0]) dL_law_1145 dL_law_1147 dL_law_1148 dL_law_1151 dL_law_1153 dL_law_1158 dL_law_1160 dL_law_1163 dL_law_1164 dL_law_1165 dL_law_1166 dL_law_1168 dL_law_1169 dL_law_1170 dL_law_1175 (by decide) (fun H locs ls hM hl => ?_)
    have hcp := CP.sv (M := Ma) (xa := xa) (Nt := Nt) ((by rw [e9]; exact ⟨h0, h2, h3, Y, Yt, Tt, a1, a2, a3, ft, c1, c2, c3, c4⟩)) hs8
    have hrp := RP.of hXP
    have hst2 := hSt.le (Nat.le_succ _)
    refine (fun z => W.widen (by rw [← esn]; rw [← emc]; rw [ec]; unfold CB; omega) (by rw [← esn]; rw [← emc]; rw [es]; unfold SB; omega) (kk M2 H locs ls _ _ ⟨_, _, _, _, _, _, _, _, Nt, hcp, hrp, ⟨_, o2⟩, hst2, hnt, rfl, rfl⟩ hM hl)) ()
  · have o2 : M2 oa = some (8, loE G fo) := hF3 _ _ _ (by decide) (by decide) (by decide) (by rw [e1]; exact o1)
    have hs8 : Sv M M2 cR := Sv.tr (M1 := M1) (by rw [e1]; exact Sv.rf) (Sv.f3 hF3 (by decide) (by decide) (by decide))
    refine lw_cmp (v := q_X8_ofField N U now th price money F Lx (xs (q + 1)) (xs (q + 2))) C0 ⟨Nat.le_of_ble_eq_true rfl, Nat.le_of_ble_eq_true rfl⟩ ⟨by show cells + (xc (kc_X6_ofField N T 0 now price money (xs (q + 1)) (xs (q + 2)))) + (0) ≤ 601024; rw [← emc]; rw [ec]; unfold CB; omega, by show slots + (6 * xc (kc_X6_ofField N T 0 now price money (xs (q + 1)) (xs (q + 2)))) + (0) ≤ 7293034; rw [← emc]; rw [es]; unfold SB; omega⟩ hM hl hO2 o2 (cd_ofField hN).symm (fun z => absurd (kz_ofField z) hk1) dL_law_1145 dL_law_1147 dL_law_1148 dL_law_1151 dL_law_1153 dL_law_1158 dL_law_1160 dL_law_1163 dL_law_1164 dL_law_1165 dL_law_1166 dL_law_1168 dL_law_1169 dL_law_1170 dL_law_1175 (by decide) (fun H locs ls hM hl => ?_)
    have hcp := CP.sv (M := M) (xa := xa) (Nt := Nt) ⟨h0, h2, h3, Y, Yt, Tt, a1, a2, a3, ft, c1, c2, c3, c4⟩ hs8
    have hrp := RP.of hXP
    refine (fun z => W.widen (by rw [← esn]; rw [← emc]; rw [ec]; unfold CB; omega) (by rw [← esn]; rw [← emc]; rw [es]; unfold SB; omega) (kk M2 H locs ls _ _ ⟨_, _, _, _, _, _, _, _, Nt, hcp, hrp, ⟨_, o2⟩, hSt.le (Nat.le_succ _), hnt, rfl, rfl⟩ hM hl)) ()
set_option maxHeartbeats 4000000 in
set_option maxRecDepth 100000 in
theorem l_ofCombine (C : LH p l s m args c G b L xs) (hM : Wd G M s H locs) (hS : LwS G M xa ma oa cc cells slots) (hcc : cc < 512) (hq : q + 7 ≤ L) (hl : lv_has ls 9 [(0, .ref b), (1, .ref xa), (2, .ref ma), (3, .ref oa), (4, .int (nI q))])
    (kk : ∀ (M' : HM) (H : Heap) (locs : List Loc) (ls : Array Slot) (cells' slots' : Nat), LwS G M' xa ma oa (cc + 1) cells' slots' → Wd G M' s H locs → lv_has ls 9 [(0, .ref b), (1, .ref xa), (2, .ref ma), (3, .ref oa), (4, .int (nI q))] → W p l e room_1 s m args below meth c H locs cells' slots' Q (F0 m 1853 ls [])) : W p l e room_1 s m args below meth c H locs cells slots Q (F0 m 1178 ls []) := by
  have C0 := C
  obtain ⟨hx, hb, hml, hown, hts, hY, hK, hX, hst, hSc, hbl, hbA, hL⟩ := C
  obtain ⟨N, T, U, now, price, money, F, Lx, Nt, ⟨h0, h2, h3, Y, Yt, Tt, a1, a2, a3, ft, c1, c2, c3, c4⟩, ⟨k0, fa, lb, th, Z, r1, r2⟩, ⟨fo, o1⟩, hSt, hnt, ec, es⟩ := hS
  have hN := hSt.2.1
  have hn4 := hSt.n4
  obtain ⟨n0, n1, n2, n3⟩ := id hN
  obtain ⟨t0, t1, t2, t3, t4⟩ := id hnt
  have tb : s4 Nt ≤ 19 := by show Nt 0 + Nt 1 + Nt 2 + Nt 3 ≤ 19; omega
  obtain ⟨sn, esn⟩ : ∃ z, z = s4 Nt := ⟨_, rfl⟩
  rw [← esn] at ec es tb
  refine lv_aload_n hx hb dL_law_1178 rfl (lv_at hl 1 rfl) ?_
  refine s_arg (j := 1) (q := q) C0 hM (lv_at hl 0 rfl) (lv_at hl 4 rfl) (by omega) (by decide) dL_law_1179 dL_law_1180 dL_law_1182 dL_law_1183 dL_law_1184 ?_
  refine s_arg (j := 2) (q := q) C0 hM (lv_at hl 0 rfl) (lv_at hl 4 rfl) (by omega) (by decide) dL_law_1185 dL_law_1186 dL_law_1188 dL_law_1189 dL_law_1190 ?_
  refine lv_aload_n hx hb dL_law_1191 rfl (lv_at hl 3 rfl) ?_
  have hxc : xc (kc_X6_ofCombine N T 0 now price money (xs (q + 1)) (xs (q + 2))) ≤ 1 := by
    unfold xc
    split <;> omega
  obtain ⟨mc, emc⟩ : ∃ z, z = xc (kc_X6_ofCombine N T 0 now price money (xs (q + 1)) (xs (q + 2))) := ⟨_, rfl⟩
  rw [← emc] at hxc
  refine g_callW (n9 := 4) (As := [.ref xa, .int (xs (q + 1)), .int (xs (q + 2)), .ref oa]) (rest := []) hx hb hml hl.1 hown hts hY hK hX hM (w_ofCombine l G M xa 1 oa 8 (kc_X6_ofCombine N T 0 now price money (xs (q + 1)) (xs (q + 2))) _ _ _ _ [.ref h0, .ref h2, .ref h3] (xs (q + 1)) (xs (q + 2)) _ (c_X6_ofCombine l hst G M xa 1 h2 h3 2 h0 Y N T 0 now price money (xs (q + 1)) (xs (q + 2)) c1 (by decide) c2) c1 ks_ofCombine (fun v M1 z => ⟨z.1, fo, by rw [z.2.2]; exact o1⟩)) wm_L_146 wt_L_ofCombine wn_L wx_L_ofCombine (by decide +kernel) ⟨Nat.le_of_ble_eq_true rfl, Nat.le_of_ble_eq_true rfl⟩ ⟨by show cells + (xc (kc_X6_ofCombine N T 0 now price money (xs (q + 1)) (xs (q + 2)))) ≤ 601024; rw [← emc]; rw [ec]; unfold CB; omega, by show slots + (6 * xc (kc_X6_ofCombine N T 0 now price money (xs (q + 1)) (xs (q + 2)))) ≤ 7293034; rw [← emc]; rw [es]; unfold SB; omega⟩ rfl (Nat.le_of_ble_eq_true rfl) rfl dL_law_1192 (fun r M1 H locs hq1 hM => ?_)
  obtain ⟨er, hcase⟩ := hq1
  subst er
  have hsr : Sv M M1 rR := by
    rcases hcase with ⟨-, v, Ma, f, hP1, -, e1⟩ | ⟨-, e1⟩
    · have e9 := hP1.2.2
      rw [e1]
      exact Sv.tr (M1 := Ma) ((by rw [e9]; exact Sv.rf)) (Sv.up (e0 := loE G fo) ((by rw [e9]; exact o1)) (by decide))
    · rw [e1]
      exact Sv.rf
  have r1' := r1.same (fun q e hq => hsr _ _ _ (Or.inl rfl) hq)
  have r2' := r2.same (fun q e hq => hsr _ _ _ (Or.inr rfl) hq)
  refine lv_istore (lv' := [(5, .int ((pcd 1 2 0) (kc_X6_ofCombine N T 0 now price money (xs (q + 1)) (xs (q + 2))))), (0, .ref b), (1, .ref xa), (2, .ref ma), (3, .ref oa), (4, .int (nI q))]) hx hb dL_law_1195 hl (by decide) rfl (fun ls hl => ?_)
  refine lv_aload_n hx hb dL_law_1197 rfl (lv_at hl 3 rfl) ?_
  refine s_arg (j := 1) (q := q) C0 hM (lv_at hl 1 rfl) (lv_at hl 5 rfl) (by omega) (by decide) dL_law_1198 dL_law_1199 dL_law_1201 dL_law_1202 dL_law_1203 ?_
  refine s_arg (j := 2) (q := q) C0 hM (lv_at hl 1 rfl) (lv_at hl 5 rfl) (by omega) (by decide) dL_law_1204 dL_law_1205 dL_law_1207 dL_law_1208 dL_law_1209 ?_
  refine g_callVi (n9 := 2) (As := [.int (xs (q + 1)), .int (xs (q + 2))]) (rest := []) hx hb hml hl.1 hown hts hK hM (c_X8_ofCombine l G M1 5 ma k0 fa lb 6 7 Z N U now th price money F Lx (xs (q + 1)) (xs (q + 2)) r1' r2' (by decide) (by decide) (by decide)) wm_L_148 wi_X8_ofCombine wl_X8_ofCombine wn_X8 wc_X8_ofCombine (by decide +kernel) (hM.recv hK (ci := 9) rfl r1'.1) ⟨Nat.le_of_ble_eq_true rfl, Nat.le_of_ble_eq_true rfl⟩ ⟨by show cells + (xc (kc_X6_ofCombine N T 0 now price money (xs (q + 1)) (xs (q + 2)))) + (1) ≤ 601024; rw [← emc]; rw [ec]; unfold CB; omega, by show slots + (6 * xc (kc_X6_ofCombine N T 0 now price money (xs (q + 1)) (xs (q + 2)))) + (8) ≤ 7293034; rw [← emc]; rw [es]; unfold SB; omega⟩ rfl (Nat.le_of_ble_eq_true rfl) rfl dL_law_1210 (fun rb M2 H locs hq2 hM => ?_)
  obtain ⟨eb, hXP⟩ := hq2
  subst eb
  obtain ⟨hO2, ⟨Z2, hL2⟩, hF3⟩ := id hXP
  rcases hcase with ⟨hk0, v, Ma, f, hP1, hfv, e1⟩ | ⟨hk1, e1⟩
  · obtain ⟨-, ev, e9⟩ := hP1
    have oa1 : Ma oa = some (8, loE G fo) := (by rw [e9]; exact o1)
    have hMa : M1 oa = some (8, loE G f) := by rw [e1]; exact hu_s
    have o2 : M2 oa = some (8, loE G f) := hF3 _ _ _ (by decide) (by decide) (by decide) hMa
    have hs8 : Sv Ma M2 cR := Sv.tr (M1 := M1) (by rw [e1]; exact Sv.up oa1 (by decide)) (Sv.f3 hF3 (by decide) (by decide) (by decide))
    refine lw_cmp (v := q_X8_ofCombine N U now th price money F Lx (xs (q + 1)) (xs (q + 2))) C0 ⟨Nat.le_of_ble_eq_true rfl, Nat.le_of_ble_eq_true rfl⟩ ⟨by show cells + (xc (kc_X6_ofCombine N T 0 now price money (xs (q + 1)) (xs (q + 2)))) + (1) ≤ 601024; rw [← emc]; rw [ec]; unfold CB; omega, by show slots + (6 * xc (kc_X6_ofCombine N T 0 now price money (xs (q + 1)) (xs (q + 2)))) + (8) ≤ 7293034; rw [← emc]; rw [es]; unfold SB; omega⟩ hM hl hO2 o2 (cd_ofCombine hN).symm (fun _ => by rw [hfv, ev, an_ofCombine hSt hk0]) dL_law_1213 dL_law_1215 dL_law_1216 dL_law_1219 dL_law_1221 dL_law_1226 dL_law_1228 dL_law_1231 dL_law_1232 dL_law_1233 dL_law_1234 dL_law_1236 dL_law_1237 dL_law_1238 dL_law_1243 (by decide) (fun H locs ls hM hl => ?_)
    have hcp := CP.sv (M := Ma) (xa := xa) (Nt := Nt) ((by rw [e9]; exact ⟨h0, h2, h3, Y, Yt, Tt, a1, a2, a3, ft, c1, c2, c3, c4⟩)) hs8
    have hrp := RP.of hXP
    have hst2 := hSt.le (Nat.le_succ _)
    refine (fun z => W.widen (by rw [← esn]; rw [← emc]; rw [ec]; unfold CB; omega) (by rw [← esn]; rw [← emc]; rw [es]; unfold SB; omega) (kk M2 H locs ls _ _ ⟨_, _, _, _, _, _, _, _, Nt, hcp, hrp, ⟨_, o2⟩, hst2, hnt, rfl, rfl⟩ hM hl)) ()
  · have o2 : M2 oa = some (8, loE G fo) := hF3 _ _ _ (by decide) (by decide) (by decide) (by rw [e1]; exact o1)
    have hs8 : Sv M M2 cR := Sv.tr (M1 := M1) (by rw [e1]; exact Sv.rf) (Sv.f3 hF3 (by decide) (by decide) (by decide))
    refine lw_cmp (v := q_X8_ofCombine N U now th price money F Lx (xs (q + 1)) (xs (q + 2))) C0 ⟨Nat.le_of_ble_eq_true rfl, Nat.le_of_ble_eq_true rfl⟩ ⟨by show cells + (xc (kc_X6_ofCombine N T 0 now price money (xs (q + 1)) (xs (q + 2)))) + (1) ≤ 601024; rw [← emc]; rw [ec]; unfold CB; omega, by show slots + (6 * xc (kc_X6_ofCombine N T 0 now price money (xs (q + 1)) (xs (q + 2)))) + (8) ≤ 7293034; rw [← emc]; rw [es]; unfold SB; omega⟩ hM hl hO2 o2 (cd_ofCombine hN).symm (fun z => absurd (kz_ofCombine z) hk1) dL_law_1213 dL_law_1215 dL_law_1216 dL_law_1219 dL_law_1221 dL_law_1226 dL_law_1228 dL_law_1231 dL_law_1232 dL_law_1233 dL_law_1234 dL_law_1236 dL_law_1237 dL_law_1238 dL_law_1243 (by decide) (fun H locs ls hM hl => ?_)
    have hcp := CP.sv (M := M) (xa := xa) (Nt := Nt) ⟨h0, h2, h3, Y, Yt, Tt, a1, a2, a3, ft, c1, c2, c3, c4⟩ hs8
    have hrp := RP.of hXP
    refine (fun z => W.widen (by rw [← esn]; rw [← emc]; rw [ec]; unfold CB; omega) (by rw [← esn]; rw [← emc]; rw [es]; unfold SB; omega) (kk M2 H locs ls _ _ ⟨_, _, _, _, _, _, _, _, Nt, hcp, hrp, ⟨_, o2⟩, hSt.le (Nat.le_succ _), hnt, rfl, rfl⟩ hM hl)) ()
set_option maxHeartbeats 4000000 in
set_option maxRecDepth 100000 in
theorem l_ofTruck (C : LH p l s m args c G b L xs) (hM : Wd G M s H locs) (hS : LwS G M xa ma oa cc cells slots) (hcc : cc < 512) (hq : q + 7 ≤ L) (hl : lv_has ls 9 [(0, .ref b), (1, .ref xa), (2, .ref ma), (3, .ref oa), (4, .int (nI q))])
    (kk : ∀ (M' : HM) (H : Heap) (locs : List Loc) (ls : Array Slot) (cells' slots' : Nat), LwS G M' xa ma oa (cc + 1) cells' slots' → Wd G M' s H locs → lv_has ls 9 [(0, .ref b), (1, .ref xa), (2, .ref ma), (3, .ref oa), (4, .int (nI q))] → W p l e room_1 s m args below meth c H locs cells' slots' Q (F0 m 1853 ls [])) : W p l e room_1 s m args below meth c H locs cells slots Q (F0 m 1246 ls []) := by
  have C0 := C
  obtain ⟨hx, hb, hml, hown, hts, hY, hK, hX, hst, hSc, hbl, hbA, hL⟩ := C
  obtain ⟨N, T, U, now, price, money, F, Lx, Nt, ⟨h0, h2, h3, Y, Yt, Tt, a1, a2, a3, ft, c1, c2, c3, c4⟩, ⟨k0, fa, lb, th, Z, r1, r2⟩, ⟨fo, o1⟩, hSt, hnt, ec, es⟩ := hS
  have hN := hSt.2.1
  have hn4 := hSt.n4
  obtain ⟨n0, n1, n2, n3⟩ := id hN
  obtain ⟨t0, t1, t2, t3, t4⟩ := id hnt
  have tb : s4 Nt ≤ 19 := by show Nt 0 + Nt 1 + Nt 2 + Nt 3 ≤ 19; omega
  obtain ⟨sn, esn⟩ : ∃ z, z = s4 Nt := ⟨_, rfl⟩
  rw [← esn] at ec es tb
  refine lv_aload_n hx hb dL_law_1246 rfl (lv_at hl 1 rfl) ?_
  refine s_arg (j := 1) (q := q) C0 hM (lv_at hl 0 rfl) (lv_at hl 4 rfl) (by omega) (by decide) dL_law_1247 dL_law_1248 dL_law_1250 dL_law_1251 dL_law_1252 ?_
  refine s_arg (j := 2) (q := q) C0 hM (lv_at hl 0 rfl) (lv_at hl 4 rfl) (by omega) (by decide) dL_law_1253 dL_law_1254 dL_law_1256 dL_law_1257 dL_law_1258 ?_
  refine lv_aload_n hx hb dL_law_1259 rfl (lv_at hl 3 rfl) ?_
  have hxc : xc (kc_X6_ofTruck N T 0 now price money (xs (q + 1)) (xs (q + 2))) ≤ 1 := by
    unfold xc
    split <;> omega
  obtain ⟨mc, emc⟩ : ∃ z, z = xc (kc_X6_ofTruck N T 0 now price money (xs (q + 1)) (xs (q + 2))) := ⟨_, rfl⟩
  rw [← emc] at hxc
  refine g_callW (n9 := 4) (As := [.ref xa, .int (xs (q + 1)), .int (xs (q + 2)), .ref oa]) (rest := []) hx hb hml hl.1 hown hts hY hK hX hM (w_ofTruck l G M xa 1 oa 8 (kc_X6_ofTruck N T 0 now price money (xs (q + 1)) (xs (q + 2))) _ _ _ _ [.ref h0, .ref h2, .ref h3] (xs (q + 1)) (xs (q + 2)) _ (c_X6_ofTruck l hst G M xa 1 h2 h3 2 h0 Y N T 0 now price money (xs (q + 1)) (xs (q + 2)) c1 (by decide) c2) c1 ks_ofTruck (fun v M1 z => ⟨z.1, fo, by rw [z.2.2]; exact o1⟩)) wm_L_149 wt_L_ofTruck wn_L wx_L_ofTruck (by decide +kernel) ⟨Nat.le_of_ble_eq_true rfl, Nat.le_of_ble_eq_true rfl⟩ ⟨by show cells + (xc (kc_X6_ofTruck N T 0 now price money (xs (q + 1)) (xs (q + 2)))) ≤ 601024; rw [← emc]; rw [ec]; unfold CB; omega, by show slots + (6 * xc (kc_X6_ofTruck N T 0 now price money (xs (q + 1)) (xs (q + 2)))) ≤ 7293034; rw [← emc]; rw [es]; unfold SB; omega⟩ rfl (Nat.le_of_ble_eq_true rfl) rfl dL_law_1260 (fun r M1 H locs hq1 hM => ?_)
  obtain ⟨er, hcase⟩ := hq1
  subst er
  have hsr : Sv M M1 rR := by
    rcases hcase with ⟨-, v, Ma, f, hP1, -, e1⟩ | ⟨-, e1⟩
    · have e9 := hP1.2.2
      rw [e1]
      exact Sv.tr (M1 := Ma) ((by rw [e9]; exact Sv.rf)) (Sv.up (e0 := loE G fo) ((by rw [e9]; exact o1)) (by decide))
    · rw [e1]
      exact Sv.rf
  have r1' := r1.same (fun q e hq => hsr _ _ _ (Or.inl rfl) hq)
  have r2' := r2.same (fun q e hq => hsr _ _ _ (Or.inr rfl) hq)
  refine lv_istore (lv' := [(5, .int ((pcd 1 2 0) (kc_X6_ofTruck N T 0 now price money (xs (q + 1)) (xs (q + 2))))), (0, .ref b), (1, .ref xa), (2, .ref ma), (3, .ref oa), (4, .int (nI q))]) hx hb dL_law_1263 hl (by decide) rfl (fun ls hl => ?_)
  refine lv_aload_n hx hb dL_law_1265 rfl (lv_at hl 3 rfl) ?_
  refine s_arg (j := 1) (q := q) C0 hM (lv_at hl 1 rfl) (lv_at hl 5 rfl) (by omega) (by decide) dL_law_1266 dL_law_1267 dL_law_1269 dL_law_1270 dL_law_1271 ?_
  refine s_arg (j := 2) (q := q) C0 hM (lv_at hl 1 rfl) (lv_at hl 5 rfl) (by omega) (by decide) dL_law_1272 dL_law_1273 dL_law_1275 dL_law_1276 dL_law_1277 ?_
  refine g_callVi (n9 := 2) (As := [.int (xs (q + 1)), .int (xs (q + 2))]) (rest := []) hx hb hml hl.1 hown hts hK hM (c_X8_ofTruck l G M1 5 ma k0 fa lb 6 7 Z N U now th price money F Lx (xs (q + 1)) (xs (q + 2)) r1' r2' (by decide) (by decide) (by decide)) wm_L_151 wi_X8_ofTruck wl_X8_ofTruck wn_X8 wc_X8_ofTruck (by decide +kernel) (hM.recv hK (ci := 9) rfl r1'.1) ⟨Nat.le_of_ble_eq_true rfl, Nat.le_of_ble_eq_true rfl⟩ ⟨by show cells + (xc (kc_X6_ofTruck N T 0 now price money (xs (q + 1)) (xs (q + 2)))) + (1) ≤ 601024; rw [← emc]; rw [ec]; unfold CB; omega, by show slots + (6 * xc (kc_X6_ofTruck N T 0 now price money (xs (q + 1)) (xs (q + 2)))) + (8) ≤ 7293034; rw [← emc]; rw [es]; unfold SB; omega⟩ rfl (Nat.le_of_ble_eq_true rfl) rfl dL_law_1278 (fun rb M2 H locs hq2 hM => ?_)
  obtain ⟨eb, hXP⟩ := hq2
  subst eb
  obtain ⟨hO2, ⟨Z2, hL2⟩, hF3⟩ := id hXP
  rcases hcase with ⟨hk0, v, Ma, f, hP1, hfv, e1⟩ | ⟨hk1, e1⟩
  · obtain ⟨-, ev, e9⟩ := hP1
    have oa1 : Ma oa = some (8, loE G fo) := (by rw [e9]; exact o1)
    have hMa : M1 oa = some (8, loE G f) := by rw [e1]; exact hu_s
    have o2 : M2 oa = some (8, loE G f) := hF3 _ _ _ (by decide) (by decide) (by decide) hMa
    have hs8 : Sv Ma M2 cR := Sv.tr (M1 := M1) (by rw [e1]; exact Sv.up oa1 (by decide)) (Sv.f3 hF3 (by decide) (by decide) (by decide))
    refine lw_cmp (v := q_X8_ofTruck N U now th price money F Lx (xs (q + 1)) (xs (q + 2))) C0 ⟨Nat.le_of_ble_eq_true rfl, Nat.le_of_ble_eq_true rfl⟩ ⟨by show cells + (xc (kc_X6_ofTruck N T 0 now price money (xs (q + 1)) (xs (q + 2)))) + (1) ≤ 601024; rw [← emc]; rw [ec]; unfold CB; omega, by show slots + (6 * xc (kc_X6_ofTruck N T 0 now price money (xs (q + 1)) (xs (q + 2)))) + (8) ≤ 7293034; rw [← emc]; rw [es]; unfold SB; omega⟩ hM hl hO2 o2 (cd_ofTruck hN).symm (fun _ => by rw [hfv, ev, an_ofTruck hSt hk0]) dL_law_1281 dL_law_1283 dL_law_1284 dL_law_1287 dL_law_1289 dL_law_1294 dL_law_1296 dL_law_1299 dL_law_1300 dL_law_1301 dL_law_1302 dL_law_1304 dL_law_1305 dL_law_1306 dL_law_1311 (by decide) (fun H locs ls hM hl => ?_)
    have hcp := CP.sv (M := Ma) (xa := xa) (Nt := Nt) ((by rw [e9]; exact ⟨h0, h2, h3, Y, Yt, Tt, a1, a2, a3, ft, c1, c2, c3, c4⟩)) hs8
    have hrp := RP.of hXP
    have hst2 := hSt.le (Nat.le_succ _)
    refine (fun z => W.widen (by rw [← esn]; rw [← emc]; rw [ec]; unfold CB; omega) (by rw [← esn]; rw [← emc]; rw [es]; unfold SB; omega) (kk M2 H locs ls _ _ ⟨_, _, _, _, _, _, _, _, Nt, hcp, hrp, ⟨_, o2⟩, hst2, hnt, rfl, rfl⟩ hM hl)) ()
  · have o2 : M2 oa = some (8, loE G fo) := hF3 _ _ _ (by decide) (by decide) (by decide) (by rw [e1]; exact o1)
    have hs8 : Sv M M2 cR := Sv.tr (M1 := M1) (by rw [e1]; exact Sv.rf) (Sv.f3 hF3 (by decide) (by decide) (by decide))
    refine lw_cmp (v := q_X8_ofTruck N U now th price money F Lx (xs (q + 1)) (xs (q + 2))) C0 ⟨Nat.le_of_ble_eq_true rfl, Nat.le_of_ble_eq_true rfl⟩ ⟨by show cells + (xc (kc_X6_ofTruck N T 0 now price money (xs (q + 1)) (xs (q + 2)))) + (1) ≤ 601024; rw [← emc]; rw [ec]; unfold CB; omega, by show slots + (6 * xc (kc_X6_ofTruck N T 0 now price money (xs (q + 1)) (xs (q + 2)))) + (8) ≤ 7293034; rw [← emc]; rw [es]; unfold SB; omega⟩ hM hl hO2 o2 (cd_ofTruck hN).symm (fun z => absurd (kz_ofTruck z) hk1) dL_law_1281 dL_law_1283 dL_law_1284 dL_law_1287 dL_law_1289 dL_law_1294 dL_law_1296 dL_law_1299 dL_law_1300 dL_law_1301 dL_law_1302 dL_law_1304 dL_law_1305 dL_law_1306 dL_law_1311 (by decide) (fun H locs ls hM hl => ?_)
    have hcp := CP.sv (M := M) (xa := xa) (Nt := Nt) ⟨h0, h2, h3, Y, Yt, Tt, a1, a2, a3, ft, c1, c2, c3, c4⟩ hs8
    have hrp := RP.of hXP
    refine (fun z => W.widen (by rw [← esn]; rw [← emc]; rw [ec]; unfold CB; omega) (by rw [← esn]; rw [← emc]; rw [es]; unfold SB; omega) (kk M2 H locs ls _ _ ⟨_, _, _, _, _, _, _, _, Nt, hcp, hrp, ⟨_, o2⟩, hSt.le (Nat.le_succ _), hnt, rfl, rfl⟩ hM hl)) ()
set_option maxHeartbeats 4000000 in
set_option maxRecDepth 100000 in
theorem l_ofTicket (C : LH p l s m args c G b L xs) (hM : Wd G M s H locs) (hS : LwS G M xa ma oa cc cells slots) (hcc : cc < 512) (hq : q + 7 ≤ L) (hl : lv_has ls 9 [(0, .ref b), (1, .ref xa), (2, .ref ma), (3, .ref oa), (4, .int (nI q))])
    (kk : ∀ (M' : HM) (H : Heap) (locs : List Loc) (ls : Array Slot) (cells' slots' : Nat), LwS G M' xa ma oa (cc + 1) cells' slots' → Wd G M' s H locs → lv_has ls 9 [(0, .ref b), (1, .ref xa), (2, .ref ma), (3, .ref oa), (4, .int (nI q))] → W p l e room_1 s m args below meth c H locs cells' slots' Q (F0 m 1853 ls [])) : W p l e room_1 s m args below meth c H locs cells slots Q (F0 m 1314 ls []) := by
  have C0 := C
  obtain ⟨hx, hb, hml, hown, hts, hY, hK, hX, hst, hSc, hbl, hbA, hL⟩ := C
  obtain ⟨N, T, U, now, price, money, F, Lx, Nt, ⟨h0, h2, h3, Y, Yt, Tt, a1, a2, a3, ft, c1, c2, c3, c4⟩, ⟨k0, fa, lb, th, Z, r1, r2⟩, ⟨fo, o1⟩, hSt, hnt, ec, es⟩ := hS
  have hN := hSt.2.1
  have hn4 := hSt.n4
  obtain ⟨n0, n1, n2, n3⟩ := id hN
  obtain ⟨t0, t1, t2, t3, t4⟩ := id hnt
  have tb : s4 Nt ≤ 19 := by show Nt 0 + Nt 1 + Nt 2 + Nt 3 ≤ 19; omega
  obtain ⟨sn, esn⟩ : ∃ z, z = s4 Nt := ⟨_, rfl⟩
  rw [← esn] at ec es tb
  refine lv_aload_n hx hb dL_law_1314 rfl (lv_at hl 1 rfl) ?_
  refine s_arg (j := 1) (q := q) C0 hM (lv_at hl 0 rfl) (lv_at hl 4 rfl) (by omega) (by decide) dL_law_1315 dL_law_1316 dL_law_1318 dL_law_1319 dL_law_1320 ?_
  refine s_arg (j := 2) (q := q) C0 hM (lv_at hl 0 rfl) (lv_at hl 4 rfl) (by omega) (by decide) dL_law_1321 dL_law_1322 dL_law_1324 dL_law_1325 dL_law_1326 ?_
  refine lv_aload_n hx hb dL_law_1327 rfl (lv_at hl 3 rfl) ?_
  have hxc : xc (kc_X6_ofTicket N T 0 now price money (xs (q + 1)) (xs (q + 2))) ≤ 1 := by
    unfold xc
    split <;> omega
  obtain ⟨mc, emc⟩ : ∃ z, z = xc (kc_X6_ofTicket N T 0 now price money (xs (q + 1)) (xs (q + 2))) := ⟨_, rfl⟩
  rw [← emc] at hxc
  refine g_callW (n9 := 4) (As := [.ref xa, .int (xs (q + 1)), .int (xs (q + 2)), .ref oa]) (rest := []) hx hb hml hl.1 hown hts hY hK hX hM (w_ofTicket l G M xa 1 oa 8 (kc_X6_ofTicket N T 0 now price money (xs (q + 1)) (xs (q + 2))) _ _ _ _ [.ref h0, .ref h2, .ref h3] (xs (q + 1)) (xs (q + 2)) _ (c_X6_ofTicket l hst G M xa 1 h2 h3 2 h0 Y N T 0 now price money (xs (q + 1)) (xs (q + 2)) c1 (by decide) c2) c1 ks_ofTicket (fun v M1 z => ⟨z.1, fo, by rw [z.2.2]; exact o1⟩)) wm_L_152 wt_L_ofTicket wn_L wx_L_ofTicket (by decide +kernel) ⟨Nat.le_of_ble_eq_true rfl, Nat.le_of_ble_eq_true rfl⟩ ⟨by show cells + (xc (kc_X6_ofTicket N T 0 now price money (xs (q + 1)) (xs (q + 2)))) ≤ 601024; rw [← emc]; rw [ec]; unfold CB; omega, by show slots + (6 * xc (kc_X6_ofTicket N T 0 now price money (xs (q + 1)) (xs (q + 2)))) ≤ 7293034; rw [← emc]; rw [es]; unfold SB; omega⟩ rfl (Nat.le_of_ble_eq_true rfl) rfl dL_law_1328 (fun r M1 H locs hq1 hM => ?_)
  obtain ⟨er, hcase⟩ := hq1
  subst er
  have hsr : Sv M M1 rR := by
    rcases hcase with ⟨-, v, Ma, f, hP1, -, e1⟩ | ⟨-, e1⟩
    · have e9 := hP1.2.2
      rw [e1]
      exact Sv.tr (M1 := Ma) ((by rw [e9]; exact Sv.rf)) (Sv.up (e0 := loE G fo) ((by rw [e9]; exact o1)) (by decide))
    · rw [e1]
      exact Sv.rf
  have r1' := r1.same (fun q e hq => hsr _ _ _ (Or.inl rfl) hq)
  have r2' := r2.same (fun q e hq => hsr _ _ _ (Or.inr rfl) hq)
  refine lv_istore (lv' := [(5, .int ((pcd 1 2 0) (kc_X6_ofTicket N T 0 now price money (xs (q + 1)) (xs (q + 2))))), (0, .ref b), (1, .ref xa), (2, .ref ma), (3, .ref oa), (4, .int (nI q))]) hx hb dL_law_1331 hl (by decide) rfl (fun ls hl => ?_)
  refine lv_aload_n hx hb dL_law_1333 rfl (lv_at hl 3 rfl) ?_
  refine s_arg (j := 1) (q := q) C0 hM (lv_at hl 1 rfl) (lv_at hl 5 rfl) (by omega) (by decide) dL_law_1334 dL_law_1335 dL_law_1337 dL_law_1338 dL_law_1339 ?_
  refine s_arg (j := 2) (q := q) C0 hM (lv_at hl 1 rfl) (lv_at hl 5 rfl) (by omega) (by decide) dL_law_1340 dL_law_1341 dL_law_1343 dL_law_1344 dL_law_1345 ?_
  refine g_callVi (n9 := 2) (As := [.int (xs (q + 1)), .int (xs (q + 2))]) (rest := []) hx hb hml hl.1 hown hts hK hM (c_X8_ofTicket l G M1 5 ma k0 fa lb 6 7 Z N U now th price money F Lx (xs (q + 1)) (xs (q + 2)) r1' r2' (by decide) (by decide) (by decide)) wm_L_154 wi_X8_ofTicket wl_X8_ofTicket wn_X8 wc_X8_ofTicket (by decide +kernel) (hM.recv hK (ci := 9) rfl r1'.1) ⟨Nat.le_of_ble_eq_true rfl, Nat.le_of_ble_eq_true rfl⟩ ⟨by show cells + (xc (kc_X6_ofTicket N T 0 now price money (xs (q + 1)) (xs (q + 2)))) + (0) ≤ 601024; rw [← emc]; rw [ec]; unfold CB; omega, by show slots + (6 * xc (kc_X6_ofTicket N T 0 now price money (xs (q + 1)) (xs (q + 2)))) + (0) ≤ 7293034; rw [← emc]; rw [es]; unfold SB; omega⟩ rfl (Nat.le_of_ble_eq_true rfl) rfl dL_law_1346 (fun rb M2 H locs hq2 hM => ?_)
  obtain ⟨eb, hXP⟩ := hq2
  subst eb
  obtain ⟨hO2, ⟨Z2, hL2⟩, hF3⟩ := id hXP
  rcases hcase with ⟨hk0, v, Ma, f, hP1, hfv, e1⟩ | ⟨hk1, e1⟩
  · obtain ⟨-, ev, e9⟩ := hP1
    have oa1 : Ma oa = some (8, loE G fo) := (by rw [e9]; exact o1)
    have hMa : M1 oa = some (8, loE G f) := by rw [e1]; exact hu_s
    have o2 : M2 oa = some (8, loE G f) := hF3 _ _ _ (by decide) (by decide) (by decide) hMa
    have hs8 : Sv Ma M2 cR := Sv.tr (M1 := M1) (by rw [e1]; exact Sv.up oa1 (by decide)) (Sv.f3 hF3 (by decide) (by decide) (by decide))
    refine lw_cmp (v := q_X8_ofTicket N U now th price money F Lx (xs (q + 1)) (xs (q + 2))) C0 ⟨Nat.le_of_ble_eq_true rfl, Nat.le_of_ble_eq_true rfl⟩ ⟨by show cells + (xc (kc_X6_ofTicket N T 0 now price money (xs (q + 1)) (xs (q + 2)))) + (0) ≤ 601024; rw [← emc]; rw [ec]; unfold CB; omega, by show slots + (6 * xc (kc_X6_ofTicket N T 0 now price money (xs (q + 1)) (xs (q + 2)))) + (0) ≤ 7293034; rw [← emc]; rw [es]; unfold SB; omega⟩ hM hl hO2 o2 (cd_ofTicket hN (by omega)).symm (fun _ => by rw [hfv, ev, an_ofTicket hSt (by omega) hk0]) dL_law_1349 dL_law_1351 dL_law_1352 dL_law_1355 dL_law_1357 dL_law_1362 dL_law_1364 dL_law_1367 dL_law_1368 dL_law_1369 dL_law_1370 dL_law_1372 dL_law_1373 dL_law_1374 dL_law_1379 (by decide) (fun H locs ls hM hl => ?_)
    have hcp := CP.sv (M := Ma) (xa := xa) (Nt := Nt) ((by rw [e9]; exact ⟨h0, h2, h3, Y, Yt, Tt, a1, a2, a3, ft, c1, c2, c3, c4⟩)) hs8
    have hrp := RP.of hXP
    have hst2 := hSt.le (Nat.le_succ _)
    refine (fun z => W.widen (by rw [← esn]; rw [← emc]; rw [ec]; unfold CB; omega) (by rw [← esn]; rw [← emc]; rw [es]; unfold SB; omega) (kk M2 H locs ls _ _ ⟨_, _, _, _, _, _, _, _, Nt, hcp, hrp, ⟨_, o2⟩, hst2, hnt, rfl, rfl⟩ hM hl)) ()
  · have o2 : M2 oa = some (8, loE G fo) := hF3 _ _ _ (by decide) (by decide) (by decide) (by rw [e1]; exact o1)
    have hs8 : Sv M M2 cR := Sv.tr (M1 := M1) (by rw [e1]; exact Sv.rf) (Sv.f3 hF3 (by decide) (by decide) (by decide))
    refine lw_cmp (v := q_X8_ofTicket N U now th price money F Lx (xs (q + 1)) (xs (q + 2))) C0 ⟨Nat.le_of_ble_eq_true rfl, Nat.le_of_ble_eq_true rfl⟩ ⟨by show cells + (xc (kc_X6_ofTicket N T 0 now price money (xs (q + 1)) (xs (q + 2)))) + (0) ≤ 601024; rw [← emc]; rw [ec]; unfold CB; omega, by show slots + (6 * xc (kc_X6_ofTicket N T 0 now price money (xs (q + 1)) (xs (q + 2)))) + (0) ≤ 7293034; rw [← emc]; rw [es]; unfold SB; omega⟩ hM hl hO2 o2 (cd_ofTicket hN (by omega)).symm (fun z => absurd (kz_ofTicket z) hk1) dL_law_1349 dL_law_1351 dL_law_1352 dL_law_1355 dL_law_1357 dL_law_1362 dL_law_1364 dL_law_1367 dL_law_1368 dL_law_1369 dL_law_1370 dL_law_1372 dL_law_1373 dL_law_1374 dL_law_1379 (by decide) (fun H locs ls hM hl => ?_)
    have hcp := CP.sv (M := M) (xa := xa) (Nt := Nt) ⟨h0, h2, h3, Y, Yt, Tt, a1, a2, a3, ft, c1, c2, c3, c4⟩ hs8
    have hrp := RP.of hXP
    refine (fun z => W.widen (by rw [← esn]; rw [← emc]; rw [ec]; unfold CB; omega) (by rw [← esn]; rw [← emc]; rw [es]; unfold SB; omega) (kk M2 H locs ls _ _ ⟨_, _, _, _, _, _, _, _, Nt, hcp, hrp, ⟨_, o2⟩, hSt.le (Nat.le_succ _), hnt, rfl, rfl⟩ hM hl)) ()
set_option maxHeartbeats 4000000 in
set_option maxRecDepth 100000 in
theorem l_owed (C : LH p l s m args c G b L xs) (hM : Wd G M s H locs) (hS : LwS G M xa ma oa cc cells slots) (hcc : cc < 512) (hq : q + 7 ≤ L) (hl : lv_has ls 9 [(0, .ref b), (1, .ref xa), (2, .ref ma), (3, .ref oa), (4, .int (nI q))])
    (kk : ∀ (M' : HM) (H : Heap) (locs : List Loc) (ls : Array Slot) (cells' slots' : Nat), LwS G M' xa ma oa (cc + 1) cells' slots' → Wd G M' s H locs → lv_has ls 9 [(0, .ref b), (1, .ref xa), (2, .ref ma), (3, .ref oa), (4, .int (nI q))] → W p l e room_1 s m args below meth c H locs cells' slots' Q (F0 m 1853 ls [])) : W p l e room_1 s m args below meth c H locs cells slots Q (F0 m 1382 ls []) := by
  have C0 := C
  obtain ⟨hx, hb, hml, hown, hts, hY, hK, hX, hst, hSc, hbl, hbA, hL⟩ := C
  obtain ⟨N, T, U, now, price, money, F, Lx, Nt, ⟨h0, h2, h3, Y, Yt, Tt, a1, a2, a3, ft, c1, c2, c3, c4⟩, ⟨k0, fa, lb, th, Z, r1, r2⟩, ⟨fo, o1⟩, hSt, hnt, ec, es⟩ := hS
  have hN := hSt.2.1
  have hn4 := hSt.n4
  obtain ⟨n0, n1, n2, n3⟩ := id hN
  obtain ⟨t0, t1, t2, t3, t4⟩ := id hnt
  have tb : s4 Nt ≤ 19 := by show Nt 0 + Nt 1 + Nt 2 + Nt 3 ≤ 19; omega
  obtain ⟨sn, esn⟩ : ∃ z, z = s4 Nt := ⟨_, rfl⟩
  rw [← esn] at ec es tb
  refine lv_aload_n hx hb dL_law_1382 rfl (lv_at hl 1 rfl) ?_
  refine s_arg (j := 1) (q := q) C0 hM (lv_at hl 0 rfl) (lv_at hl 4 rfl) (by omega) (by decide) dL_law_1383 dL_law_1384 dL_law_1386 dL_law_1387 dL_law_1388 ?_
  refine s_arg (j := 2) (q := q) C0 hM (lv_at hl 0 rfl) (lv_at hl 4 rfl) (by omega) (by decide) dL_law_1389 dL_law_1390 dL_law_1392 dL_law_1393 dL_law_1394 ?_
  obtain ⟨pw, epw⟩ : ∃ z : Int32, z = if xs (q + 2) = 0 then 0 else 1 := ⟨_, rfl⟩
  suffices Z0 : W p l e room_1 s m args below meth c H locs cells slots Q (F0 m 1403 ls (.int pw :: [.int (xs (q + 1)), .ref xa])) by
    refine lv_if_eq (tgt := 1402) hx hb dL_law_1395 (by decide) (fun z => ?_) (fun z => ?_)
    · refine lv_iconst (v := (0 : Int32)) hx hb dL_law_1402 (by decide) ?_
      rw [if_pos z] at epw
      rw [epw] at Z0
      exact Z0
    · refine lv_iconst (v := (1 : Int32)) hx hb dL_law_1398 (by decide) ?_
      refine lv_goto (tgt := 1403) hx hb dL_law_1399 (by decide) ?_
      rw [if_neg z] at epw
      rw [epw] at Z0
      exact Z0
  refine lv_aload_n hx hb dL_law_1403 rfl (lv_at hl 3 rfl) ?_
  have hxc : xc (kc_X6_owed N T 0 now price money (xs (q + 1)) pw) ≤ 1 := by
    unfold xc
    split <;> omega
  obtain ⟨mc, emc⟩ : ∃ z, z = xc (kc_X6_owed N T 0 now price money (xs (q + 1)) pw) := ⟨_, rfl⟩
  rw [← emc] at hxc
  refine g_callW (n9 := 4) (As := [.ref xa, .int (xs (q + 1)), .int pw, .ref oa]) (rest := []) hx hb hml hl.1 hown hts hY hK hX hM (w_owed l G M xa 1 oa 8 (kc_X6_owed N T 0 now price money (xs (q + 1)) pw) _ _ _ _ [.ref h0, .ref h2, .ref h3] (xs (q + 1)) pw _ (c_X6_owed l hst G M xa 1 h2 h3 2 h0 Y N T 0 now price money (xs (q + 1)) pw c1 (by decide) c2) c1 ks_owed (fun v M1 z => ⟨z.1, fo, by rw [z.2.2]; exact o1⟩)) wm_L_155 wt_L_owed wn_L wx_L_owed (by decide +kernel) ⟨Nat.le_of_ble_eq_true rfl, Nat.le_of_ble_eq_true rfl⟩ ⟨by show cells + (xc (kc_X6_owed N T 0 now price money (xs (q + 1)) pw)) ≤ 601024; rw [← emc]; rw [ec]; unfold CB; omega, by show slots + (6 * xc (kc_X6_owed N T 0 now price money (xs (q + 1)) pw)) ≤ 7293034; rw [← emc]; rw [es]; unfold SB; omega⟩ rfl (Nat.le_of_ble_eq_true rfl) rfl dL_law_1404 (fun r M1 H locs hq1 hM => ?_)
  obtain ⟨er, hcase⟩ := hq1
  subst er
  have hsr : Sv M M1 rR := by
    rcases hcase with ⟨-, v, Ma, f, hP1, -, e1⟩ | ⟨-, e1⟩
    · have e9 := hP1.2.2
      rw [e1]
      exact Sv.tr (M1 := Ma) ((by rw [e9]; exact Sv.rf)) (Sv.up (e0 := loE G fo) ((by rw [e9]; exact o1)) (by decide))
    · rw [e1]
      exact Sv.rf
  have r1' := r1.same (fun q e hq => hsr _ _ _ (Or.inl rfl) hq)
  have r2' := r2.same (fun q e hq => hsr _ _ _ (Or.inr rfl) hq)
  refine lv_istore (lv' := [(5, .int ((pcd 1 0 0) (kc_X6_owed N T 0 now price money (xs (q + 1)) pw))), (0, .ref b), (1, .ref xa), (2, .ref ma), (3, .ref oa), (4, .int (nI q))]) hx hb dL_law_1407 hl (by decide) rfl (fun ls hl => ?_)
  refine lv_aload_n hx hb dL_law_1409 rfl (lv_at hl 3 rfl) ?_
  refine s_arg (j := 1) (q := q) C0 hM (lv_at hl 1 rfl) (lv_at hl 5 rfl) (by omega) (by decide) dL_law_1410 dL_law_1411 dL_law_1413 dL_law_1414 dL_law_1415 ?_
  refine s_arg (j := 2) (q := q) C0 hM (lv_at hl 1 rfl) (lv_at hl 5 rfl) (by omega) (by decide) dL_law_1416 dL_law_1417 dL_law_1419 dL_law_1420 dL_law_1421 ?_
  suffices Z0 : W p l e room_1 s m args below meth c H locs (cells + (xc (kc_X6_owed N T 0 now price money (xs (q + 1)) pw))) (slots + (6 * xc (kc_X6_owed N T 0 now price money (xs (q + 1)) pw))) Q (F0 m 1430 ls (.int pw :: [.int (xs (q + 1)), .ref ma])) by
    refine lv_if_eq (tgt := 1429) hx hb dL_law_1422 (by decide) (fun z => ?_) (fun z => ?_)
    · refine lv_iconst (v := (0 : Int32)) hx hb dL_law_1429 (by decide) ?_
      rw [show (0 : Int32) = pw by rw [epw, if_pos z]]
      exact Z0
    · refine lv_iconst (v := (1 : Int32)) hx hb dL_law_1425 (by decide) ?_
      refine lv_goto (tgt := 1430) hx hb dL_law_1426 (by decide) ?_
      rw [show (1 : Int32) = pw by rw [epw, if_neg z]]
      exact Z0
  refine g_callVi (n9 := 2) (As := [.int (xs (q + 1)), .int pw]) (rest := []) hx hb hml hl.1 hown hts hK hM (c_X8_owed l G M1 5 ma k0 fa lb 6 7 Z N U now th price money F Lx (xs (q + 1)) pw r1' r2' (by decide) (by decide) (by decide)) wm_L_158 wi_X8_owed wl_X8_owed wn_X8 wc_X8_owed (by decide +kernel) (hM.recv hK (ci := 9) rfl r1'.1) ⟨Nat.le_of_ble_eq_true rfl, Nat.le_of_ble_eq_true rfl⟩ ⟨by show cells + (xc (kc_X6_owed N T 0 now price money (xs (q + 1)) pw)) + (0) ≤ 601024; rw [← emc]; rw [ec]; unfold CB; omega, by show slots + (6 * xc (kc_X6_owed N T 0 now price money (xs (q + 1)) pw)) + (0) ≤ 7293034; rw [← emc]; rw [es]; unfold SB; omega⟩ rfl (Nat.le_of_ble_eq_true rfl) rfl dL_law_1430 (fun rb M2 H locs hq2 hM => ?_)
  obtain ⟨eb, hXP⟩ := hq2
  subst eb
  obtain ⟨hO2, ⟨Z2, hL2⟩, hF3⟩ := id hXP
  rcases hcase with ⟨hk0, v, Ma, f, hP1, hfv, e1⟩ | ⟨hk1, e1⟩
  · obtain ⟨-, ev, e9⟩ := hP1
    have oa1 : Ma oa = some (8, loE G fo) := (by rw [e9]; exact o1)
    have hMa : M1 oa = some (8, loE G f) := by rw [e1]; exact hu_s
    have o2 : M2 oa = some (8, loE G f) := hF3 _ _ _ (by decide) (by decide) (by decide) hMa
    have hs8 : Sv Ma M2 cR := Sv.tr (M1 := M1) (by rw [e1]; exact Sv.up oa1 (by decide)) (Sv.f3 hF3 (by decide) (by decide) (by decide))
    refine lw_cmp (v := q_X8_owed N U now th price money F Lx (xs (q + 1)) pw) C0 ⟨Nat.le_of_ble_eq_true rfl, Nat.le_of_ble_eq_true rfl⟩ ⟨by show cells + (xc (kc_X6_owed N T 0 now price money (xs (q + 1)) pw)) + (0) ≤ 601024; rw [← emc]; rw [ec]; unfold CB; omega, by show slots + (6 * xc (kc_X6_owed N T 0 now price money (xs (q + 1)) pw)) + (0) ≤ 7293034; rw [← emc]; rw [es]; unfold SB; omega⟩ hM hl hO2 o2 (cd_owed hN).symm (fun _ => by rw [hfv, ev, an_owed hSt hk0]) dL_law_1433 dL_law_1435 dL_law_1436 dL_law_1439 dL_law_1441 dL_law_1446 dL_law_1448 dL_law_1451 dL_law_1452 dL_law_1453 dL_law_1454 dL_law_1456 dL_law_1457 dL_law_1458 dL_law_1463 (by decide) (fun H locs ls hM hl => ?_)
    have hcp := CP.sv (M := Ma) (xa := xa) (Nt := Nt) ((by rw [e9]; exact ⟨h0, h2, h3, Y, Yt, Tt, a1, a2, a3, ft, c1, c2, c3, c4⟩)) hs8
    have hrp := RP.of hXP
    have hst2 := hSt.le (Nat.le_succ _)
    refine (fun z => W.widen (by rw [← esn]; rw [← emc]; rw [ec]; unfold CB; omega) (by rw [← esn]; rw [← emc]; rw [es]; unfold SB; omega) (kk M2 H locs ls _ _ ⟨_, _, _, _, _, _, _, _, Nt, hcp, hrp, ⟨_, o2⟩, hst2, hnt, rfl, rfl⟩ hM hl)) ()
  · have o2 : M2 oa = some (8, loE G fo) := hF3 _ _ _ (by decide) (by decide) (by decide) (by rw [e1]; exact o1)
    have hs8 : Sv M M2 cR := Sv.tr (M1 := M1) (by rw [e1]; exact Sv.rf) (Sv.f3 hF3 (by decide) (by decide) (by decide))
    refine lw_cmp (v := q_X8_owed N U now th price money F Lx (xs (q + 1)) pw) C0 ⟨Nat.le_of_ble_eq_true rfl, Nat.le_of_ble_eq_true rfl⟩ ⟨by show cells + (xc (kc_X6_owed N T 0 now price money (xs (q + 1)) pw)) + (0) ≤ 601024; rw [← emc]; rw [ec]; unfold CB; omega, by show slots + (6 * xc (kc_X6_owed N T 0 now price money (xs (q + 1)) pw)) + (0) ≤ 7293034; rw [← emc]; rw [es]; unfold SB; omega⟩ hM hl hO2 o2 (cd_owed hN).symm (fun z => absurd (kz_owed z) hk1) dL_law_1433 dL_law_1435 dL_law_1436 dL_law_1439 dL_law_1441 dL_law_1446 dL_law_1448 dL_law_1451 dL_law_1452 dL_law_1453 dL_law_1454 dL_law_1456 dL_law_1457 dL_law_1458 dL_law_1463 (by decide) (fun H locs ls hM hl => ?_)
    have hcp := CP.sv (M := M) (xa := xa) (Nt := Nt) ⟨h0, h2, h3, Y, Yt, Tt, a1, a2, a3, ft, c1, c2, c3, c4⟩ hs8
    have hrp := RP.of hXP
    refine (fun z => W.widen (by rw [← esn]; rw [← emc]; rw [ec]; unfold CB; omega) (by rw [← esn]; rw [← emc]; rw [es]; unfold SB; omega) (kk M2 H locs ls _ _ ⟨_, _, _, _, _, _, _, _, Nt, hcp, hrp, ⟨_, o2⟩, hSt.le (Nat.le_succ _), hnt, rfl, rfl⟩ hM hl)) ()
set_option maxHeartbeats 4000000 in
set_option maxRecDepth 100000 in
theorem l_many (C : LH p l s m args c G b L xs) (hM : Wd G M s H locs) (hS : LwS G M xa ma oa cc cells slots) (hcc : cc < 512) (hq : q + 7 ≤ L) (hl : lv_has ls 9 [(0, .ref b), (1, .ref xa), (2, .ref ma), (3, .ref oa), (4, .int (nI q))])
    (kk : ∀ (M' : HM) (H : Heap) (locs : List Loc) (ls : Array Slot) (cells' slots' : Nat), LwS G M' xa ma oa (cc + 1) cells' slots' → Wd G M' s H locs → lv_has ls 9 [(0, .ref b), (1, .ref xa), (2, .ref ma), (3, .ref oa), (4, .int (nI q))] → W p l e room_1 s m args below meth c H locs cells' slots' Q (F0 m 1853 ls [])) : W p l e room_1 s m args below meth c H locs cells slots Q (F0 m 1466 ls []) := by
  have C0 := C
  obtain ⟨hx, hb, hml, hown, hts, hY, hK, hX, hst, hSc, hbl, hbA, hL⟩ := C
  obtain ⟨N, T, U, now, price, money, F, Lx, Nt, ⟨h0, h2, h3, Y, Yt, Tt, a1, a2, a3, ft, c1, c2, c3, c4⟩, ⟨k0, fa, lb, th, Z, r1, r2⟩, ⟨fo, o1⟩, hSt, hnt, ec, es⟩ := hS
  have hN := hSt.2.1
  have hn4 := hSt.n4
  obtain ⟨n0, n1, n2, n3⟩ := id hN
  obtain ⟨t0, t1, t2, t3, t4⟩ := id hnt
  have tb : s4 Nt ≤ 19 := by show Nt 0 + Nt 1 + Nt 2 + Nt 3 ≤ 19; omega
  obtain ⟨sn, esn⟩ : ∃ z, z = s4 Nt := ⟨_, rfl⟩
  rw [← esn] at ec es tb
  refine lv_aload_n hx hb dL_law_1466 rfl (lv_at hl 1 rfl) ?_
  refine s_arg (j := 1) (q := q) C0 hM (lv_at hl 0 rfl) (lv_at hl 4 rfl) (by omega) (by decide) dL_law_1467 dL_law_1468 dL_law_1470 dL_law_1471 dL_law_1472 ?_
  refine lv_aload_n hx hb dL_law_1473 rfl (lv_at hl 3 rfl) ?_
  have hxc : xc (kc_X6_many N T 0 now price money (xs (q + 1))) ≤ 1 := by
    unfold xc
    split <;> omega
  obtain ⟨mc, emc⟩ : ∃ z, z = xc (kc_X6_many N T 0 now price money (xs (q + 1))) := ⟨_, rfl⟩
  rw [← emc] at hxc
  refine g_callW (n9 := 3) (As := [.ref xa, .int (xs (q + 1)), .ref oa]) (rest := []) hx hb hml hl.1 hown hts hY hK hX hM (w_many l G M xa 1 oa 8 (kc_X6_many N T 0 now price money (xs (q + 1))) _ _ _ _ [.ref h0, .ref h2, .ref h3] (xs (q + 1)) _ (c_X6_many l hst G M xa 1 h2 h3 2 h0 Y N T 0 now price money (xs (q + 1)) c1 (by decide) c2) c1 ks_many (fun v M1 z => ⟨z.1, fo, by rw [z.2.2]; exact o1⟩)) wm_L_159 wt_L_many wn_L wx_L_many (by decide +kernel) ⟨Nat.le_of_ble_eq_true rfl, Nat.le_of_ble_eq_true rfl⟩ ⟨by show cells + (xc (kc_X6_many N T 0 now price money (xs (q + 1)))) ≤ 601024; rw [← emc]; rw [ec]; unfold CB; omega, by show slots + (6 * xc (kc_X6_many N T 0 now price money (xs (q + 1)))) ≤ 7293034; rw [← emc]; rw [es]; unfold SB; omega⟩ rfl (Nat.le_of_ble_eq_true rfl) rfl dL_law_1474 (fun r M1 H locs hq1 hM => ?_)
  obtain ⟨er, hcase⟩ := hq1
  subst er
  have hsr : Sv M M1 rR := by
    rcases hcase with ⟨-, v, Ma, f, hP1, -, e1⟩ | ⟨-, e1⟩
    · have e9 := hP1.2.2
      rw [e1]
      exact Sv.tr (M1 := Ma) ((by rw [e9]; exact Sv.rf)) (Sv.up (e0 := loE G fo) ((by rw [e9]; exact o1)) (by decide))
    · rw [e1]
      exact Sv.rf
  have r1' := r1.same (fun q e hq => hsr _ _ _ (Or.inl rfl) hq)
  have r2' := r2.same (fun q e hq => hsr _ _ _ (Or.inr rfl) hq)
  refine lv_istore (lv' := [(5, .int ((pcd 0 1 0) (kc_X6_many N T 0 now price money (xs (q + 1))))), (0, .ref b), (1, .ref xa), (2, .ref ma), (3, .ref oa), (4, .int (nI q))]) hx hb dL_law_1477 hl (by decide) rfl (fun ls hl => ?_)
  refine lv_aload_n hx hb dL_law_1479 rfl (lv_at hl 3 rfl) ?_
  refine s_arg (j := 1) (q := q) C0 hM (lv_at hl 1 rfl) (lv_at hl 5 rfl) (by omega) (by decide) dL_law_1480 dL_law_1481 dL_law_1483 dL_law_1484 dL_law_1485 ?_
  refine g_callVi (n9 := 1) (As := [.int (xs (q + 1))]) (rest := []) hx hb hml hl.1 hown hts hK hM (c_X8_many l G M1 5 ma k0 fa lb 6 7 Z N U now th price money F Lx (xs (q + 1)) r1' r2' (by decide) (by decide) (by decide)) wm_L_161 wi_X8_many wl_X8_many wn_X8 wc_X8_many (by decide +kernel) (hM.recv hK (ci := 9) rfl r1'.1) ⟨Nat.le_of_ble_eq_true rfl, Nat.le_of_ble_eq_true rfl⟩ ⟨by show cells + (xc (kc_X6_many N T 0 now price money (xs (q + 1)))) + (1) ≤ 601024; rw [← emc]; rw [ec]; unfold CB; omega, by show slots + (6 * xc (kc_X6_many N T 0 now price money (xs (q + 1)))) + (13) ≤ 7293034; rw [← emc]; rw [es]; unfold SB; omega⟩ rfl (Nat.le_of_ble_eq_true rfl) rfl dL_law_1486 (fun rb M2 H locs hq2 hM => ?_)
  obtain ⟨eb, hXP⟩ := hq2
  subst eb
  obtain ⟨hO2, ⟨Z2, hL2⟩, hF3⟩ := id hXP
  rcases hcase with ⟨hk0, v, Ma, f, hP1, hfv, e1⟩ | ⟨hk1, e1⟩
  · obtain ⟨-, ev, e9⟩ := hP1
    have oa1 : Ma oa = some (8, loE G fo) := (by rw [e9]; exact o1)
    have hMa : M1 oa = some (8, loE G f) := by rw [e1]; exact hu_s
    have o2 : M2 oa = some (8, loE G f) := hF3 _ _ _ (by decide) (by decide) (by decide) hMa
    have hs8 : Sv Ma M2 cR := Sv.tr (M1 := M1) (by rw [e1]; exact Sv.up oa1 (by decide)) (Sv.f3 hF3 (by decide) (by decide) (by decide))
    refine lw_cmp (v := q_X8_many N U now th price money F Lx (xs (q + 1))) C0 ⟨Nat.le_of_ble_eq_true rfl, Nat.le_of_ble_eq_true rfl⟩ ⟨by show cells + (xc (kc_X6_many N T 0 now price money (xs (q + 1)))) + (1) ≤ 601024; rw [← emc]; rw [ec]; unfold CB; omega, by show slots + (6 * xc (kc_X6_many N T 0 now price money (xs (q + 1)))) + (13) ≤ 7293034; rw [← emc]; rw [es]; unfold SB; omega⟩ hM hl hO2 o2 (cd_many hN).symm (fun _ => by rw [hfv, ev, an_many hSt hk0]) dL_law_1489 dL_law_1491 dL_law_1492 dL_law_1495 dL_law_1497 dL_law_1502 dL_law_1504 dL_law_1507 dL_law_1508 dL_law_1509 dL_law_1510 dL_law_1512 dL_law_1513 dL_law_1514 dL_law_1519 (by decide) (fun H locs ls hM hl => ?_)
    have hcp := CP.sv (M := Ma) (xa := xa) (Nt := Nt) ((by rw [e9]; exact ⟨h0, h2, h3, Y, Yt, Tt, a1, a2, a3, ft, c1, c2, c3, c4⟩)) hs8
    have hrp := RP.of hXP
    have hst2 := hSt.le (Nat.le_succ _)
    refine (fun z => W.widen (by rw [← esn]; rw [← emc]; rw [ec]; unfold CB; omega) (by rw [← esn]; rw [← emc]; rw [es]; unfold SB; omega) (kk M2 H locs ls _ _ ⟨_, _, _, _, _, _, _, _, Nt, hcp, hrp, ⟨_, o2⟩, hst2, hnt, rfl, rfl⟩ hM hl)) ()
  · have o2 : M2 oa = some (8, loE G fo) := hF3 _ _ _ (by decide) (by decide) (by decide) (by rw [e1]; exact o1)
    have hs8 : Sv M M2 cR := Sv.tr (M1 := M1) (by rw [e1]; exact Sv.rf) (Sv.f3 hF3 (by decide) (by decide) (by decide))
    refine lw_cmp (v := q_X8_many N U now th price money F Lx (xs (q + 1))) C0 ⟨Nat.le_of_ble_eq_true rfl, Nat.le_of_ble_eq_true rfl⟩ ⟨by show cells + (xc (kc_X6_many N T 0 now price money (xs (q + 1)))) + (1) ≤ 601024; rw [← emc]; rw [ec]; unfold CB; omega, by show slots + (6 * xc (kc_X6_many N T 0 now price money (xs (q + 1)))) + (13) ≤ 7293034; rw [← emc]; rw [es]; unfold SB; omega⟩ hM hl hO2 o2 (cd_many hN).symm (fun z => absurd (kz_many z) hk1) dL_law_1489 dL_law_1491 dL_law_1492 dL_law_1495 dL_law_1497 dL_law_1502 dL_law_1504 dL_law_1507 dL_law_1508 dL_law_1509 dL_law_1510 dL_law_1512 dL_law_1513 dL_law_1514 dL_law_1519 (by decide) (fun H locs ls hM hl => ?_)
    have hcp := CP.sv (M := M) (xa := xa) (Nt := Nt) ⟨h0, h2, h3, Y, Yt, Tt, a1, a2, a3, ft, c1, c2, c3, c4⟩ hs8
    have hrp := RP.of hXP
    refine (fun z => W.widen (by rw [← esn]; rw [← emc]; rw [ec]; unfold CB; omega) (by rw [← esn]; rw [← emc]; rw [es]; unfold SB; omega) (kk M2 H locs ls _ _ ⟨_, _, _, _, _, _, _, _, Nt, hcp, hrp, ⟨_, o2⟩, hSt.le (Nat.le_succ _), hnt, rfl, rfl⟩ hM hl)) ()
set_option maxHeartbeats 4000000 in
set_option maxRecDepth 100000 in
theorem l_readyIn (C : LH p l s m args c G b L xs) (hM : Wd G M s H locs) (hS : LwS G M xa ma oa cc cells slots) (hcc : cc < 512) (hq : q + 7 ≤ L) (hl : lv_has ls 9 [(0, .ref b), (1, .ref xa), (2, .ref ma), (3, .ref oa), (4, .int (nI q))])
    (kk : ∀ (M' : HM) (H : Heap) (locs : List Loc) (ls : Array Slot) (cells' slots' : Nat), LwS G M' xa ma oa (cc + 1) cells' slots' → Wd G M' s H locs → lv_has ls 9 [(0, .ref b), (1, .ref xa), (2, .ref ma), (3, .ref oa), (4, .int (nI q))] → W p l e room_1 s m args below meth c H locs cells' slots' Q (F0 m 1853 ls [])) : W p l e room_1 s m args below meth c H locs cells slots Q (F0 m 1563 ls []) := by
  have C0 := C
  obtain ⟨hx, hb, hml, hown, hts, hY, hK, hX, hst, hSc, hbl, hbA, hL⟩ := C
  obtain ⟨N, T, U, now, price, money, F, Lx, Nt, ⟨h0, h2, h3, Y, Yt, Tt, a1, a2, a3, ft, c1, c2, c3, c4⟩, ⟨k0, fa, lb, th, Z, r1, r2⟩, ⟨fo, o1⟩, hSt, hnt, ec, es⟩ := hS
  have hN := hSt.2.1
  have hn4 := hSt.n4
  obtain ⟨n0, n1, n2, n3⟩ := id hN
  obtain ⟨t0, t1, t2, t3, t4⟩ := id hnt
  have tb : s4 Nt ≤ 19 := by show Nt 0 + Nt 1 + Nt 2 + Nt 3 ≤ 19; omega
  obtain ⟨sn, esn⟩ : ∃ z, z = s4 Nt := ⟨_, rfl⟩
  rw [← esn] at ec es tb
  refine lv_aload_n hx hb dL_law_1563 rfl (lv_at hl 1 rfl) ?_
  refine s_arg (j := 1) (q := q) C0 hM (lv_at hl 0 rfl) (lv_at hl 4 rfl) (by omega) (by decide) dL_law_1564 dL_law_1565 dL_law_1567 dL_law_1568 dL_law_1569 ?_
  refine s_arg (j := 2) (q := q) C0 hM (lv_at hl 0 rfl) (lv_at hl 4 rfl) (by omega) (by decide) dL_law_1570 dL_law_1571 dL_law_1573 dL_law_1574 dL_law_1575 ?_
  refine s_arg (j := 3) (q := q) C0 hM (lv_at hl 0 rfl) (lv_at hl 4 rfl) (by omega) (by decide) dL_law_1576 dL_law_1577 dL_law_1579 dL_law_1580 dL_law_1581 ?_
  refine lv_aload_n hx hb dL_law_1582 rfl (lv_at hl 3 rfl) ?_
  refine g_callW (n9 := 5) (As := [.ref xa, .int (xs (q + 1)), .int (xs (q + 2)), .int (xs (q + 3)), .ref oa]) (rest := []) hx hb hml hl.1 hown hts hY hK hX hM (w_readyIn l G M xa 1 oa 8 (kc_X6_readyIn N T 0 now price money (xs (q + 1)) (xs (q + 2)) (xs (q + 3))) _ _ _ _ [.ref h0, .ref h2, .ref h3] (xs (q + 1)) (xs (q + 2)) (xs (q + 3)) _ (c_X6_readyIn l hst G M xa 1 h2 h3 2 h0 Y N T 0 now price money (xs (q + 1)) (xs (q + 2)) (xs (q + 3)) c1 (by decide) c2 4 ft c4 (by decide)) c1 ks_readyIn (fun v M1 z => ⟨z.1, fo, by obtain ⟨-, -, f9, rfl⟩ := z; exact hu_n (hu_ne o1 c4 (rg_ne (by decide))) o1⟩)) wm_L_167 wt_L_readyIn wn_L wx_L_readyIn (by decide +kernel) ⟨Nat.le_of_ble_eq_true rfl, Nat.le_of_ble_eq_true rfl⟩ ⟨by show cells + (1) ≤ 601024; rw [ec]; unfold CB; omega, by show slots + (6) ≤ 7293034; rw [es]; unfold SB; omega⟩ rfl (Nat.le_of_ble_eq_true rfl) rfl dL_law_1583 (fun r M1 H locs hq1 hM => ?_)
  obtain ⟨er, hcase⟩ := hq1
  subst er
  have hsr : Sv M M1 rR := by
    rcases hcase with ⟨-, v, Ma, f, hP1, -, e1⟩ | ⟨-, e1⟩
    · obtain ⟨-, -, f9, e9⟩ := hP1
      rw [e1]
      exact Sv.tr (M1 := Ma) ((by rw [e9]; exact Sv.up c4 (by decide))) (Sv.up (e0 := loE G fo) ((by rw [e9]; exact hu_n (hu_ne o1 c4 (rg_ne (by decide))) o1)) (by decide))
    · rw [e1]
      exact Sv.rf
  have r1' := r1.same (fun q e hq => hsr _ _ _ (Or.inl rfl) hq)
  have r2' := r2.same (fun q e hq => hsr _ _ _ (Or.inr rfl) hq)
  refine lv_istore (lv' := [(5, .int ((pcd 1 2 0) (kc_X6_readyIn N T 0 now price money (xs (q + 1)) (xs (q + 2)) (xs (q + 3))))), (0, .ref b), (1, .ref xa), (2, .ref ma), (3, .ref oa), (4, .int (nI q))]) hx hb dL_law_1586 hl (by decide) rfl (fun ls hl => ?_)
  refine lv_aload_n hx hb dL_law_1588 rfl (lv_at hl 3 rfl) ?_
  refine s_arg (j := 1) (q := q) C0 hM (lv_at hl 1 rfl) (lv_at hl 5 rfl) (by omega) (by decide) dL_law_1589 dL_law_1590 dL_law_1592 dL_law_1593 dL_law_1594 ?_
  refine s_arg (j := 2) (q := q) C0 hM (lv_at hl 1 rfl) (lv_at hl 5 rfl) (by omega) (by decide) dL_law_1595 dL_law_1596 dL_law_1598 dL_law_1599 dL_law_1600 ?_
  refine s_arg (j := 3) (q := q) C0 hM (lv_at hl 1 rfl) (lv_at hl 5 rfl) (by omega) (by decide) dL_law_1601 dL_law_1602 dL_law_1604 dL_law_1605 dL_law_1606 ?_
  refine g_callVi (n9 := 3) (As := [.int (xs (q + 1)), .int (xs (q + 2)), .int (xs (q + 3))]) (rest := []) hx hb hml hl.1 hown hts hK hM (c_X8_readyIn l G M1 5 ma k0 fa lb 6 7 Z N U now th price money F Lx (xs (q + 1)) (xs (q + 2)) (xs (q + 3)) r1' r2' (by decide) (by decide) (by decide)) wm_L_169 wi_X8_readyIn wl_X8_readyIn wn_X8 wc_X8_readyIn (by decide +kernel) (hM.recv hK (ci := 9) rfl r1'.1) ⟨Nat.le_of_ble_eq_true rfl, Nat.le_of_ble_eq_true rfl⟩ ⟨by show cells + (1) + (1) ≤ 601024; rw [ec]; unfold CB; omega, by show slots + (6) + (11) ≤ 7293034; rw [es]; unfold SB; omega⟩ rfl (Nat.le_of_ble_eq_true rfl) rfl dL_law_1607 (fun rb M2 H locs hq2 hM => ?_)
  obtain ⟨eb, hXP⟩ := hq2
  subst eb
  obtain ⟨hO2, ⟨Z2, hL2⟩, hF3⟩ := id hXP
  rcases hcase with ⟨hk0, v, Ma, f, hP1, hfv, e1⟩ | ⟨hk1, e1⟩
  · obtain ⟨-, ev, f9, e9⟩ := hP1
    have oa1 : Ma oa = some (8, loE G fo) := (by rw [e9]; exact hu_n (hu_ne o1 c4 (rg_ne (by decide))) o1)
    have hMa : M1 oa = some (8, loE G f) := by rw [e1]; exact hu_s
    have o2 : M2 oa = some (8, loE G f) := hF3 _ _ _ (by decide) (by decide) (by decide) hMa
    have hs8 : Sv Ma M2 cR := Sv.tr (M1 := M1) (by rw [e1]; exact Sv.up oa1 (by decide)) (Sv.f3 hF3 (by decide) (by decide) (by decide))
    refine lw_cmp (v := q_X8_readyIn N U now th price money F Lx (xs (q + 1)) (xs (q + 2)) (xs (q + 3))) C0 ⟨Nat.le_of_ble_eq_true rfl, Nat.le_of_ble_eq_true rfl⟩ ⟨by show cells + (1) + (1) ≤ 601024; rw [ec]; unfold CB; omega, by show slots + (6) + (11) ≤ 7293034; rw [es]; unfold SB; omega⟩ hM hl hO2 o2 (cd_readyIn hN).symm (fun _ => by rw [hfv, ev, an_readyIn hSt hk0]) dL_law_1610 dL_law_1612 dL_law_1613 dL_law_1616 dL_law_1618 dL_law_1623 dL_law_1625 dL_law_1628 dL_law_1629 dL_law_1630 dL_law_1631 dL_law_1633 dL_law_1634 dL_law_1635 dL_law_1640 (by decide) (fun H locs ls hM hl => ?_)
    have hcp := CP.sv (M := Ma) (xa := xa) (Nt := Nt) ((by rw [e9]; exact ⟨h0, h2, h3, Y, Yt, Tt, a1, a2, a3, f9, hu_n (hu_ne c1 c4 (rg_ne (by decide))) c1, c2.frame (by decide) (Fr.up c4), c3.frame (by decide) (Fr.up c4), hu_s⟩)) hs8
    have hrp := RP.of hXP
    have hst2 := hSt.le (Nat.le_succ _)
    refine (fun z => W.widen (by rw [← esn]; rw [ec]; unfold CB; omega) (by rw [← esn]; rw [es]; unfold SB; omega) (kk M2 H locs ls _ _ ⟨_, _, _, _, _, _, _, _, Nt, hcp, hrp, ⟨_, o2⟩, hst2, hnt, rfl, rfl⟩ hM hl)) ()
  · have o2 : M2 oa = some (8, loE G fo) := hF3 _ _ _ (by decide) (by decide) (by decide) (by rw [e1]; exact o1)
    have hs8 : Sv M M2 cR := Sv.tr (M1 := M1) (by rw [e1]; exact Sv.rf) (Sv.f3 hF3 (by decide) (by decide) (by decide))
    refine lw_cmp (v := q_X8_readyIn N U now th price money F Lx (xs (q + 1)) (xs (q + 2)) (xs (q + 3))) C0 ⟨Nat.le_of_ble_eq_true rfl, Nat.le_of_ble_eq_true rfl⟩ ⟨by show cells + (1) + (1) ≤ 601024; rw [ec]; unfold CB; omega, by show slots + (6) + (11) ≤ 7293034; rw [es]; unfold SB; omega⟩ hM hl hO2 o2 (cd_readyIn hN).symm (fun z => absurd (kz_readyIn z) hk1) dL_law_1610 dL_law_1612 dL_law_1613 dL_law_1616 dL_law_1618 dL_law_1623 dL_law_1625 dL_law_1628 dL_law_1629 dL_law_1630 dL_law_1631 dL_law_1633 dL_law_1634 dL_law_1635 dL_law_1640 (by decide) (fun H locs ls hM hl => ?_)
    have hcp := CP.sv (M := M) (xa := xa) (Nt := Nt) ⟨h0, h2, h3, Y, Yt, Tt, a1, a2, a3, ft, c1, c2, c3, c4⟩ hs8
    have hrp := RP.of hXP
    refine (fun z => W.widen (by rw [← esn]; rw [ec]; unfold CB; omega) (by rw [← esn]; rw [es]; unfold SB; omega) (kk M2 H locs ls _ _ ⟨_, _, _, _, _, _, _, _, Nt, hcp, hrp, ⟨_, o2⟩, hSt.le (Nat.le_succ _), hnt, rfl, rfl⟩ hM hl)) ()
set_option maxHeartbeats 4000000 in
set_option maxRecDepth 100000 in
theorem l_nextField (C : LH p l s m args c G b L xs) (hM : Wd G M s H locs) (hS : LwS G M xa ma oa cc cells slots) (hcc : cc < 512) (hq : q + 7 ≤ L) (hl : lv_has ls 9 [(0, .ref b), (1, .ref xa), (2, .ref ma), (3, .ref oa), (4, .int (nI q))])
    (kk : ∀ (M' : HM) (H : Heap) (locs : List Loc) (ls : Array Slot) (cells' slots' : Nat), LwS G M' xa ma oa (cc + 1) cells' slots' → Wd G M' s H locs → lv_has ls 9 [(0, .ref b), (1, .ref xa), (2, .ref ma), (3, .ref oa), (4, .int (nI q))] → W p l e room_1 s m args below meth c H locs cells' slots' Q (F0 m 1853 ls [])) : W p l e room_1 s m args below meth c H locs cells slots Q (F0 m 1643 ls []) := by
  have C0 := C
  obtain ⟨hx, hb, hml, hown, hts, hY, hK, hX, hst, hSc, hbl, hbA, hL⟩ := C
  obtain ⟨N, T, U, now, price, money, F, Lx, Nt, ⟨h0, h2, h3, Y, Yt, Tt, a1, a2, a3, ft, c1, c2, c3, c4⟩, ⟨k0, fa, lb, th, Z, r1, r2⟩, ⟨fo, o1⟩, hSt, hnt, ec, es⟩ := hS
  have hN := hSt.2.1
  have hn4 := hSt.n4
  obtain ⟨n0, n1, n2, n3⟩ := id hN
  obtain ⟨t0, t1, t2, t3, t4⟩ := id hnt
  have tb : s4 Nt ≤ 19 := by show Nt 0 + Nt 1 + Nt 2 + Nt 3 ≤ 19; omega
  obtain ⟨sn, esn⟩ : ∃ z, z = s4 Nt := ⟨_, rfl⟩
  rw [← esn] at ec es tb
  refine lv_aload_n hx hb dL_law_1643 rfl (lv_at hl 1 rfl) ?_
  refine s_arg (j := 1) (q := q) C0 hM (lv_at hl 0 rfl) (lv_at hl 4 rfl) (by omega) (by decide) dL_law_1644 dL_law_1645 dL_law_1647 dL_law_1648 dL_law_1649 ?_
  refine s_arg (j := 2) (q := q) C0 hM (lv_at hl 0 rfl) (lv_at hl 4 rfl) (by omega) (by decide) dL_law_1650 dL_law_1651 dL_law_1653 dL_law_1654 dL_law_1655 ?_
  refine s_arg (j := 3) (q := q) C0 hM (lv_at hl 0 rfl) (lv_at hl 4 rfl) (by omega) (by decide) dL_law_1656 dL_law_1657 dL_law_1659 dL_law_1660 dL_law_1661 ?_
  refine s_arg (j := 4) (q := q) C0 hM (lv_at hl 0 rfl) (lv_at hl 4 rfl) (by omega) (by decide) dL_law_1662 dL_law_1663 dL_law_1665 dL_law_1666 dL_law_1667 ?_
  refine lv_aload_n hx hb dL_law_1668 rfl (lv_at hl 3 rfl) ?_
  obtain ⟨dd, edd⟩ : ∃ z, z = ((ntP N Nt T (N 0) 0 + ntP N Nt T (N 0) 1 + ntP N Nt T (N 0) 2 + ntP N Nt T (N 0) 3) - (Nt 0 + Nt 1 + Nt 2 + Nt 3)) := ⟨_, rfl⟩
  have b0 := ntP_b (N := N) (Nt := Nt) (T := T) (k := 0) (by decide) t0 (N 0)
  have b1 := ntP_b (N := N) (Nt := Nt) (T := T) (k := 1) (by decide) t1 (N 0)
  have b2 := ntP_b (N := N) (Nt := Nt) (T := T) (k := 2) (by decide) t2 (N 0)
  have b3 := ntP_b (N := N) (Nt := Nt) (T := T) (k := 3) (by decide) t3 (N 0)
  have hdd : sn + dd = ntP N Nt T (N 0) 0 + ntP N Nt T (N 0) 1 + ntP N Nt T (N 0) 2 + ntP N Nt T (N 0) 3 := by
    have : sn = Nt 0 + Nt 1 + Nt 2 + Nt 3 := esn
    omega
  have hdd2 : sn + dd ≤ 19 := by omega
  refine g_callW (n9 := 6) (As := [.ref xa, .int (xs (q + 1)), .int (xs (q + 2)), .int (xs (q + 3)), .int (xs (q + 4)), .ref oa]) (rest := []) hx hb hml hl.1 hown hts hY hK hX hM (w_nextField l G M xa 1 oa 8 (kc_X6_nextField N T 0 now price money (xs (q + 1)) (xs (q + 2)) (xs (q + 3)) (xs (q + 4))) _ _ _ _ [.ref h0, .ref h2, .ref h3] (xs (q + 1)) (xs (q + 2)) (xs (q + 3)) (xs (q + 4)) _ (c_X6_nextField l hst G M xa 1 h2 h3 2 h0 Y N T 0 now price money (xs (q + 1)) (xs (q + 2)) (xs (q + 3)) (xs (q + 4)) c1 (by decide) c2 3 Yt Nt Tt 1 a1 a2 a3 (by decide) c3 (by decide) ⟨t0, by omega⟩ ⟨t1, by omega⟩ ⟨t2, by omega⟩ ⟨t3, by omega⟩ t4 (fun i hi => ((show Sm N 0 T U from hSt.1.1).2.1 i hi).2.2.2.2.1) (by decide)) c1 ks_nextField (fun v M1 z => ⟨z.1, fo, by obtain ⟨-, -, Y9, T9, w1, w2, w3, -, hF⟩ := z; exact hF _ _ _ (by decide) o1⟩)) wm_L_170 wt_L_nextField wn_L wx_L_nextField (by decide +kernel) ⟨Nat.le_of_ble_eq_true rfl, Nat.le_of_ble_eq_true rfl⟩ ⟨by show cells + (2 * ((ntP N Nt T (N 0) 0 + ntP N Nt T (N 0) 1 + ntP N Nt T (N 0) 2 + ntP N Nt T (N 0) 3) - (Nt 0 + Nt 1 + Nt 2 + Nt 3)) + 1) ≤ 601024; rw [← edd]; rw [ec]; unfold CB; omega, by show slots + (40 * ((ntP N Nt T (N 0) 0 + ntP N Nt T (N 0) 1 + ntP N Nt T (N 0) 2 + ntP N Nt T (N 0) 3) - (Nt 0 + Nt 1 + Nt 2 + Nt 3)) + 6) ≤ 7293034; rw [← edd]; rw [es]; unfold SB; omega⟩ rfl (Nat.le_of_ble_eq_true rfl) rfl dL_law_1669 (fun r M1 H locs hq1 hM => ?_)
  obtain ⟨er, hcase⟩ := hq1
  subst er
  have hsr : Sv M M1 rR := by
    rcases hcase with ⟨-, v, Ma, f, hP1, -, e1⟩ | ⟨-, e1⟩
    · obtain ⟨-, -, Y9, T9, w1, w2, w3, -, hF⟩ := hP1
      rw [e1]
      exact Sv.tr (M1 := Ma) (Sv.fr hF (by decide)) (Sv.up (e0 := loE G fo) (hF _ _ _ (by decide) o1) (by decide))
    · rw [e1]
      exact Sv.rf
  have r1' := r1.same (fun q e hq => hsr _ _ _ (Or.inl rfl) hq)
  have r2' := r2.same (fun q e hq => hsr _ _ _ (Or.inr rfl) hq)
  refine lv_istore (lv' := [(5, .int ((pcd 1 2 0) (kc_X6_nextField N T 0 now price money (xs (q + 1)) (xs (q + 2)) (xs (q + 3)) (xs (q + 4))))), (0, .ref b), (1, .ref xa), (2, .ref ma), (3, .ref oa), (4, .int (nI q))]) hx hb dL_law_1672 hl (by decide) rfl (fun ls hl => ?_)
  refine lv_aload_n hx hb dL_law_1674 rfl (lv_at hl 3 rfl) ?_
  refine s_arg (j := 1) (q := q) C0 hM (lv_at hl 1 rfl) (lv_at hl 5 rfl) (by omega) (by decide) dL_law_1675 dL_law_1676 dL_law_1678 dL_law_1679 dL_law_1680 ?_
  refine s_arg (j := 2) (q := q) C0 hM (lv_at hl 1 rfl) (lv_at hl 5 rfl) (by omega) (by decide) dL_law_1681 dL_law_1682 dL_law_1684 dL_law_1685 dL_law_1686 ?_
  refine s_arg (j := 3) (q := q) C0 hM (lv_at hl 1 rfl) (lv_at hl 5 rfl) (by omega) (by decide) dL_law_1687 dL_law_1688 dL_law_1690 dL_law_1691 dL_law_1692 ?_
  refine s_arg (j := 4) (q := q) C0 hM (lv_at hl 1 rfl) (lv_at hl 5 rfl) (by omega) (by decide) dL_law_1693 dL_law_1694 dL_law_1696 dL_law_1697 dL_law_1698 ?_
  refine g_callVi (n9 := 4) (As := [.int (xs (q + 1)), .int (xs (q + 2)), .int (xs (q + 3)), .int (xs (q + 4))]) (rest := []) hx hb hml hl.1 hown hts hK hM (c_X8_nextField l G M1 5 ma k0 fa lb 6 7 Z N U now th price money F Lx (xs (q + 1)) (xs (q + 2)) (xs (q + 3)) (xs (q + 4)) r1' r2' (by decide) (by decide) (by decide) (fun z _ => Sm.trOK hN hSt.1.1 (inN9 z (by omega)).2)) wm_L_172 wi_X8_nextField wl_X8_nextField wn_X8 wc_X8_nextField (by decide +kernel) (hM.recv hK (ci := 9) rfl r1'.1) ⟨Nat.le_of_ble_eq_true rfl, Nat.le_of_ble_eq_true rfl⟩ ⟨by show cells + (2 * ((ntP N Nt T (N 0) 0 + ntP N Nt T (N 0) 1 + ntP N Nt T (N 0) 2 + ntP N Nt T (N 0) 3) - (Nt 0 + Nt 1 + Nt 2 + Nt 3)) + 1) + (33 * N 0) ≤ 601024; rw [← edd]; rw [ec]; unfold CB; omega, by show slots + (40 * ((ntP N Nt T (N 0) 0 + ntP N Nt T (N 0) 1 + ntP N Nt T (N 0) 2 + ntP N Nt T (N 0) 3) - (Nt 0 + Nt 1 + Nt 2 + Nt 3)) + 6) + (322 * N 0) ≤ 7293034; rw [← edd]; rw [es]; unfold SB; omega⟩ rfl (Nat.le_of_ble_eq_true rfl) rfl dL_law_1699 (fun rb M2 H locs hq2 hM => ?_)
  obtain ⟨eb, hXP⟩ := hq2
  subst eb
  obtain ⟨hO2, ⟨Z2, hL2⟩, hF3⟩ := id hXP
  rcases hcase with ⟨hk0, v, Ma, f, hP1, hfv, e1⟩ | ⟨hk1, e1⟩
  · obtain ⟨-, ev, Y9, T9, w1, w2, w3, hL9, hF⟩ := hP1
    have oa1 : Ma oa = some (8, loE G fo) := hF _ _ _ (by decide) o1
    have hMa : M1 oa = some (8, loE G f) := by rw [e1]; exact hu_s
    have o2 : M2 oa = some (8, loE G f) := hF3 _ _ _ (by decide) (by decide) (by decide) hMa
    have hs8 : Sv Ma M2 cR := Sv.tr (M1 := M1) (by rw [e1]; exact Sv.up oa1 (by decide)) (Sv.f3 hF3 (by decide) (by decide) (by decide))
    refine lw_cmp (v := q_X8_nextField N U now th price money F Lx (xs (q + 1)) (xs (q + 2)) (xs (q + 3)) (xs (q + 4))) C0 ⟨Nat.le_of_ble_eq_true rfl, Nat.le_of_ble_eq_true rfl⟩ ⟨by show cells + (2 * ((ntP N Nt T (N 0) 0 + ntP N Nt T (N 0) 1 + ntP N Nt T (N 0) 2 + ntP N Nt T (N 0) 3) - (Nt 0 + Nt 1 + Nt 2 + Nt 3)) + 1) + (33 * N 0) ≤ 601024; rw [← edd]; rw [ec]; unfold CB; omega, by show slots + (40 * ((ntP N Nt T (N 0) 0 + ntP N Nt T (N 0) 1 + ntP N Nt T (N 0) 2 + ntP N Nt T (N 0) 3) - (Nt 0 + Nt 1 + Nt 2 + Nt 3)) + 6) + (322 * N 0) ≤ 7293034; rw [← edd]; rw [es]; unfold SB; omega⟩ hM hl hO2 o2 (cd_nextField hN).symm (fun _ => by rw [hfv, ev, an_nextField hSt hk0]) dL_law_1702 dL_law_1704 dL_law_1705 dL_law_1708 dL_law_1710 dL_law_1715 dL_law_1717 dL_law_1720 dL_law_1721 dL_law_1722 dL_law_1723 dL_law_1725 dL_law_1726 dL_law_1727 dL_law_1732 (by decide) (fun H locs ls hM hl => ?_)
    have hcp := CP.sv (M := Ma) (xa := xa) (Nt := (ntP N Nt T (N 0))) (⟨h0, h2, h3, Y, Y9, T9, w1, w2, w3, ft, hF _ _ _ (by decide) c1, c2.frame (by decide) hF, hL9, hF _ _ _ (by decide) c4⟩) hs8
    have hrp := RP.of hXP
    have hst2 := hSt.le (Nat.le_succ _)
    refine (fun z => W.widen (by rw [show s4 (ntP N Nt T (N 0)) = sn + dd from hdd.symm]; rw [← edd]; rw [ec]; unfold CB; omega) (by rw [show s4 (ntP N Nt T (N 0)) = sn + dd from hdd.symm]; rw [← edd]; rw [es]; unfold SB; omega) (kk M2 H locs ls _ _ ⟨_, _, _, _, _, _, _, _, (ntP N Nt T (N 0)), hcp, hrp, ⟨_, o2⟩, hst2, ⟨b0.2, b1.2, b2.2, b3.2, ntP_4 t4 (N 0)⟩, rfl, rfl⟩ hM hl)) ()
  · have o2 : M2 oa = some (8, loE G fo) := hF3 _ _ _ (by decide) (by decide) (by decide) (by rw [e1]; exact o1)
    have hs8 : Sv M M2 cR := Sv.tr (M1 := M1) (by rw [e1]; exact Sv.rf) (Sv.f3 hF3 (by decide) (by decide) (by decide))
    refine lw_cmp (v := q_X8_nextField N U now th price money F Lx (xs (q + 1)) (xs (q + 2)) (xs (q + 3)) (xs (q + 4))) C0 ⟨Nat.le_of_ble_eq_true rfl, Nat.le_of_ble_eq_true rfl⟩ ⟨by show cells + (2 * ((ntP N Nt T (N 0) 0 + ntP N Nt T (N 0) 1 + ntP N Nt T (N 0) 2 + ntP N Nt T (N 0) 3) - (Nt 0 + Nt 1 + Nt 2 + Nt 3)) + 1) + (33 * N 0) ≤ 601024; rw [← edd]; rw [ec]; unfold CB; omega, by show slots + (40 * ((ntP N Nt T (N 0) 0 + ntP N Nt T (N 0) 1 + ntP N Nt T (N 0) 2 + ntP N Nt T (N 0) 3) - (Nt 0 + Nt 1 + Nt 2 + Nt 3)) + 6) + (322 * N 0) ≤ 7293034; rw [← edd]; rw [es]; unfold SB; omega⟩ hM hl hO2 o2 (cd_nextField hN).symm (fun z => absurd (kz_nextField z) hk1) dL_law_1702 dL_law_1704 dL_law_1705 dL_law_1708 dL_law_1710 dL_law_1715 dL_law_1717 dL_law_1720 dL_law_1721 dL_law_1722 dL_law_1723 dL_law_1725 dL_law_1726 dL_law_1727 dL_law_1732 (by decide) (fun H locs ls hM hl => ?_)
    have hcp := CP.sv (M := M) (xa := xa) (Nt := Nt) ⟨h0, h2, h3, Y, Yt, Tt, a1, a2, a3, ft, c1, c2, c3, c4⟩ hs8
    have hrp := RP.of hXP
    refine (fun z => W.widen (by rw [← esn]; rw [← edd]; rw [ec]; unfold CB; omega) (by rw [← esn]; rw [← edd]; rw [es]; unfold SB; omega) (kk M2 H locs ls _ _ ⟨_, _, _, _, _, _, _, _, Nt, hcp, hrp, ⟨_, o2⟩, hSt.le (Nat.le_succ _), hnt, rfl, rfl⟩ hM hl)) ()
set_option maxHeartbeats 4000000 in
set_option maxRecDepth 100000 in
theorem l_waiting (C : LH p l s m args c G b L xs) (hM : Wd G M s H locs) (hS : LwS G M xa ma oa cc cells slots) (hcc : cc < 512) (hq : q + 7 ≤ L) (hl : lv_has ls 9 [(0, .ref b), (1, .ref xa), (2, .ref ma), (3, .ref oa), (4, .int (nI q))])
    (kk : ∀ (M' : HM) (H : Heap) (locs : List Loc) (ls : Array Slot) (cells' slots' : Nat), LwS G M' xa ma oa (cc + 1) cells' slots' → Wd G M' s H locs → lv_has ls 9 [(0, .ref b), (1, .ref xa), (2, .ref ma), (3, .ref oa), (4, .int (nI q))] → W p l e room_1 s m args below meth c H locs cells' slots' Q (F0 m 1853 ls [])) : W p l e room_1 s m args below meth c H locs cells slots Q (F0 m 1735 ls []) := by
  have C0 := C
  obtain ⟨hx, hb, hml, hown, hts, hY, hK, hX, hst, hSc, hbl, hbA, hL⟩ := C
  obtain ⟨N, T, U, now, price, money, F, Lx, Nt, ⟨h0, h2, h3, Y, Yt, Tt, a1, a2, a3, ft, c1, c2, c3, c4⟩, ⟨k0, fa, lb, th, Z, r1, r2⟩, ⟨fo, o1⟩, hSt, hnt, ec, es⟩ := hS
  have hN := hSt.2.1
  have hn4 := hSt.n4
  obtain ⟨n0, n1, n2, n3⟩ := id hN
  obtain ⟨t0, t1, t2, t3, t4⟩ := id hnt
  have tb : s4 Nt ≤ 19 := by show Nt 0 + Nt 1 + Nt 2 + Nt 3 ≤ 19; omega
  obtain ⟨sn, esn⟩ : ∃ z, z = s4 Nt := ⟨_, rfl⟩
  rw [← esn] at ec es tb
  refine lv_aload_n hx hb dL_law_1735 rfl (lv_at hl 1 rfl) ?_
  refine s_arg (j := 1) (q := q) C0 hM (lv_at hl 0 rfl) (lv_at hl 4 rfl) (by omega) (by decide) dL_law_1736 dL_law_1737 dL_law_1739 dL_law_1740 dL_law_1741 ?_
  refine s_arg (j := 2) (q := q) C0 hM (lv_at hl 0 rfl) (lv_at hl 4 rfl) (by omega) (by decide) dL_law_1742 dL_law_1743 dL_law_1745 dL_law_1746 dL_law_1747 ?_
  refine s_arg (j := 3) (q := q) C0 hM (lv_at hl 0 rfl) (lv_at hl 4 rfl) (by omega) (by decide) dL_law_1748 dL_law_1749 dL_law_1751 dL_law_1752 dL_law_1753 ?_
  refine s_arg (j := 4) (q := q) C0 hM (lv_at hl 0 rfl) (lv_at hl 4 rfl) (by omega) (by decide) dL_law_1754 dL_law_1755 dL_law_1757 dL_law_1758 dL_law_1759 ?_
  refine s_arg (j := 5) (q := q) C0 hM (lv_at hl 0 rfl) (lv_at hl 4 rfl) (by omega) (by decide) dL_law_1760 dL_law_1761 dL_law_1763 dL_law_1764 dL_law_1765 ?_
  refine lv_aload_n hx hb dL_law_1766 rfl (lv_at hl 3 rfl) ?_
  refine g_callW (n9 := 7) (As := [.ref xa, .int (xs (q + 1)), .int (xs (q + 2)), .int (xs (q + 3)), .int (xs (q + 4)), .int (xs (q + 5)), .ref oa]) (rest := []) hx hb hml hl.1 hown hts hY hK hX hM (w_waiting l G M xa 1 oa 8 (kc_X6_waiting N T 0 now price money (xs (q + 1)) (xs (q + 2)) (xs (q + 3)) (xs (q + 4)) (xs (q + 5))) _ _ _ _ [.ref h0, .ref h2, .ref h3] (xs (q + 1)) (xs (q + 2)) (xs (q + 3)) (xs (q + 4)) (xs (q + 5)) _ (c_X6_waiting l hst G M xa 1 h2 h3 2 h0 Y N T 0 now price money (xs (q + 1)) (xs (q + 2)) (xs (q + 3)) (xs (q + 4)) (xs (q + 5)) c1 (by decide) c2 4 ft c4 (by decide)) c1 ks_waiting (fun v M1 z => ⟨z.1, fo, by obtain ⟨-, -, f9, rfl⟩ := z; exact hu_n (hu_ne o1 c4 (rg_ne (by decide))) o1⟩)) wm_L_173 wt_L_waiting wn_L wx_L_waiting (by decide +kernel) ⟨Nat.le_of_ble_eq_true rfl, Nat.le_of_ble_eq_true rfl⟩ ⟨by show cells + (1) ≤ 601024; rw [ec]; unfold CB; omega, by show slots + (6) ≤ 7293034; rw [es]; unfold SB; omega⟩ rfl (Nat.le_of_ble_eq_true rfl) rfl dL_law_1767 (fun r M1 H locs hq1 hM => ?_)
  obtain ⟨er, hcase⟩ := hq1
  subst er
  have hsr : Sv M M1 rR := by
    rcases hcase with ⟨-, v, Ma, f, hP1, -, e1⟩ | ⟨-, e1⟩
    · obtain ⟨-, -, f9, e9⟩ := hP1
      rw [e1]
      exact Sv.tr (M1 := Ma) ((by rw [e9]; exact Sv.up c4 (by decide))) (Sv.up (e0 := loE G fo) ((by rw [e9]; exact hu_n (hu_ne o1 c4 (rg_ne (by decide))) o1)) (by decide))
    · rw [e1]
      exact Sv.rf
  have r1' := r1.same (fun q e hq => hsr _ _ _ (Or.inl rfl) hq)
  have r2' := r2.same (fun q e hq => hsr _ _ _ (Or.inr rfl) hq)
  refine lv_istore (lv' := [(5, .int ((pcd 1 2 0) (kc_X6_waiting N T 0 now price money (xs (q + 1)) (xs (q + 2)) (xs (q + 3)) (xs (q + 4)) (xs (q + 5))))), (0, .ref b), (1, .ref xa), (2, .ref ma), (3, .ref oa), (4, .int (nI q))]) hx hb dL_law_1770 hl (by decide) rfl (fun ls hl => ?_)
  refine lv_aload_n hx hb dL_law_1772 rfl (lv_at hl 3 rfl) ?_
  refine s_arg (j := 1) (q := q) C0 hM (lv_at hl 1 rfl) (lv_at hl 5 rfl) (by omega) (by decide) dL_law_1773 dL_law_1774 dL_law_1776 dL_law_1777 dL_law_1778 ?_
  refine s_arg (j := 2) (q := q) C0 hM (lv_at hl 1 rfl) (lv_at hl 5 rfl) (by omega) (by decide) dL_law_1779 dL_law_1780 dL_law_1782 dL_law_1783 dL_law_1784 ?_
  refine s_arg (j := 3) (q := q) C0 hM (lv_at hl 1 rfl) (lv_at hl 5 rfl) (by omega) (by decide) dL_law_1785 dL_law_1786 dL_law_1788 dL_law_1789 dL_law_1790 ?_
  refine s_arg (j := 4) (q := q) C0 hM (lv_at hl 1 rfl) (lv_at hl 5 rfl) (by omega) (by decide) dL_law_1791 dL_law_1792 dL_law_1794 dL_law_1795 dL_law_1796 ?_
  refine s_arg (j := 5) (q := q) C0 hM (lv_at hl 1 rfl) (lv_at hl 5 rfl) (by omega) (by decide) dL_law_1797 dL_law_1798 dL_law_1800 dL_law_1801 dL_law_1802 ?_
  refine g_callVi (n9 := 5) (As := [.int (xs (q + 1)), .int (xs (q + 2)), .int (xs (q + 3)), .int (xs (q + 4)), .int (xs (q + 5))]) (rest := []) hx hb hml hl.1 hown hts hK hM (c_X8_waiting l G M1 5 ma k0 fa lb 6 7 Z N U now th price money F Lx (xs (q + 1)) (xs (q + 2)) (xs (q + 3)) (xs (q + 4)) (xs (q + 5)) r1' r2' (by decide) (by decide) (by decide)) wm_L_175 wi_X8_waiting wl_X8_waiting wn_X8 wc_X8_waiting (by decide +kernel) (hM.recv hK (ci := 9) rfl r1'.1) ⟨Nat.le_of_ble_eq_true rfl, Nat.le_of_ble_eq_true rfl⟩ ⟨by show cells + (1) + (1) ≤ 601024; rw [ec]; unfold CB; omega, by show slots + (6) + (11) ≤ 7293034; rw [es]; unfold SB; omega⟩ rfl (Nat.le_of_ble_eq_true rfl) rfl dL_law_1803 (fun rb M2 H locs hq2 hM => ?_)
  obtain ⟨eb, hXP⟩ := hq2
  subst eb
  obtain ⟨hO2, ⟨Z2, hL2⟩, hF3⟩ := id hXP
  rcases hcase with ⟨hk0, v, Ma, f, hP1, hfv, e1⟩ | ⟨hk1, e1⟩
  · obtain ⟨-, ev, f9, e9⟩ := hP1
    have oa1 : Ma oa = some (8, loE G fo) := (by rw [e9]; exact hu_n (hu_ne o1 c4 (rg_ne (by decide))) o1)
    have hMa : M1 oa = some (8, loE G f) := by rw [e1]; exact hu_s
    have o2 : M2 oa = some (8, loE G f) := hF3 _ _ _ (by decide) (by decide) (by decide) hMa
    have hs8 : Sv Ma M2 cR := Sv.tr (M1 := M1) (by rw [e1]; exact Sv.up oa1 (by decide)) (Sv.f3 hF3 (by decide) (by decide) (by decide))
    refine lw_cmp (v := q_X8_waiting N U now th price money F Lx (xs (q + 1)) (xs (q + 2)) (xs (q + 3)) (xs (q + 4)) (xs (q + 5))) C0 ⟨Nat.le_of_ble_eq_true rfl, Nat.le_of_ble_eq_true rfl⟩ ⟨by show cells + (1) + (1) ≤ 601024; rw [ec]; unfold CB; omega, by show slots + (6) + (11) ≤ 7293034; rw [es]; unfold SB; omega⟩ hM hl hO2 o2 (cd_waiting hN).symm (fun _ => by rw [hfv, ev, an_waiting hSt hk0]) dL_law_1806 dL_law_1808 dL_law_1809 dL_law_1812 dL_law_1814 dL_law_1819 dL_law_1821 dL_law_1824 dL_law_1825 dL_law_1826 dL_law_1827 dL_law_1829 dL_law_1830 dL_law_1831 dL_law_1836 (by decide) (fun H locs ls hM hl => ?_)
    have hcp := CP.sv (M := Ma) (xa := xa) (Nt := Nt) ((by rw [e9]; exact ⟨h0, h2, h3, Y, Yt, Tt, a1, a2, a3, f9, hu_n (hu_ne c1 c4 (rg_ne (by decide))) c1, c2.frame (by decide) (Fr.up c4), c3.frame (by decide) (Fr.up c4), hu_s⟩)) hs8
    have hrp := RP.of hXP
    have hst2 := hSt.le (Nat.le_succ _)
    refine (fun z => W.widen (by rw [← esn]; rw [ec]; unfold CB; omega) (by rw [← esn]; rw [es]; unfold SB; omega) (kk M2 H locs ls _ _ ⟨_, _, _, _, _, _, _, _, Nt, hcp, hrp, ⟨_, o2⟩, hst2, hnt, rfl, rfl⟩ hM hl)) ()
  · have o2 : M2 oa = some (8, loE G fo) := hF3 _ _ _ (by decide) (by decide) (by decide) (by rw [e1]; exact o1)
    have hs8 : Sv M M2 cR := Sv.tr (M1 := M1) (by rw [e1]; exact Sv.rf) (Sv.f3 hF3 (by decide) (by decide) (by decide))
    refine lw_cmp (v := q_X8_waiting N U now th price money F Lx (xs (q + 1)) (xs (q + 2)) (xs (q + 3)) (xs (q + 4)) (xs (q + 5))) C0 ⟨Nat.le_of_ble_eq_true rfl, Nat.le_of_ble_eq_true rfl⟩ ⟨by show cells + (1) + (1) ≤ 601024; rw [ec]; unfold CB; omega, by show slots + (6) + (11) ≤ 7293034; rw [es]; unfold SB; omega⟩ hM hl hO2 o2 (cd_waiting hN).symm (fun z => absurd (kz_waiting z) hk1) dL_law_1806 dL_law_1808 dL_law_1809 dL_law_1812 dL_law_1814 dL_law_1819 dL_law_1821 dL_law_1824 dL_law_1825 dL_law_1826 dL_law_1827 dL_law_1829 dL_law_1830 dL_law_1831 dL_law_1836 (by decide) (fun H locs ls hM hl => ?_)
    have hcp := CP.sv (M := M) (xa := xa) (Nt := Nt) ⟨h0, h2, h3, Y, Yt, Tt, a1, a2, a3, ft, c1, c2, c3, c4⟩ hs8
    have hrp := RP.of hXP
    refine (fun z => W.widen (by rw [← esn]; rw [ec]; unfold CB; omega) (by rw [← esn]; rw [es]; unfold SB; omega) (kk M2 H locs ls _ _ ⟨_, _, _, _, _, _, _, _, Nt, hcp, hrp, ⟨_, o2⟩, hSt.le (Nat.le_succ _), hnt, rfl, rfl⟩ hM hl)) ()
end CS

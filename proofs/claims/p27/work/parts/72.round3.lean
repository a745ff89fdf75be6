/-! a round of the law: the hours one by one -/
section L3
variable {p : Program} {l : Launch} {e : Env} {s : State} {m : MethodId} {args : Array Value} {below : List Frame} {meth : Method} {c : Code} {H : Heap} {locs : List Loc} {cells slots : Nat} {Q : State → Prop}
variable {ls : Array Slot} {G : GG} {M : HM} {b L tt oo xa xo time k D Do n4 nw f wm ai hr : Nat} {xs : Nat → Int32} {B : Nat → Int32} {z z2 : Int32} {T : Tb} {now money : Int32}
variable {nx wt rd al : Int32} {T' : Tb}
set_option maxHeartbeats 4000000 in
set_option maxRecDepth 100000 in
theorem sg3 (C : LH p l s m args c G b L xs) (hM : Wd G M s H locs) (hT : TO G M 0 tt xa b (D) 4 2 2 2 B z (Nq n4) T' (nI nw) money) (hO : TO G M 10 oo xo b Do 4 2 2 2 B z2 (Nq n4) T' (nI nw) money) (hI : Iv 4 2 2 T') (hf : f < 4) (hwm : wm ≤ 45) (hai : ai ≤ 100) (hh1 : 1 ≤ hr) (hh2 : hr ≤ 12) (hnw : nw + hr ≤ 2400) (hn4 : n4 ≤ 400) (erd : rd = rdQ (nI nw) (nI wm) (nI ai) (T' 0 f)) (hc : cells + 200 ≤ 1048973 ∧ slots + 40000 ≤ 5954851) (hl : lv_has ls 24 [(17, .int (T 0 f 2 - T 0 f 5)), (16, .int (T 0 f 8)), (15, .int al), (14, .int nx), (13, .int wt), (12, .int rd), (9, .int (nI hr)), (8, .int (nI ai)), (7, .int (nI wm)), (6, .int (nI f)), (5, .int (nI k)), (0, .ref b), (1, .int (nI time)), (2, .ref tt), (3, .ref oo), (4, .ref xa)])
    (kk : ∀ (M1 : HM) (H : Heap) (locs : List Loc) (ls : Array Slot), TO G M1 0 tt xa b D 4 2 2 2 B z (Nq (hrsP 4 2 2 2 0 (nI nw) 400 (nI wm) (nI ai) 0 hr (T', n4, money)).2.1) (hrsP 4 2 2 2 0 (nI nw) 400 (nI wm) (nI ai) 0 hr (T', n4, money)).1 (nI nw + nI hr) (hrsP 4 2 2 2 0 (nI nw) 400 (nI wm) (nI ai) 0 hr (T', n4, money)).2.2 → TO G M1 10 oo xo b Do 4 2 2 2 B z2 (Nq n4) T' (nI nw) money → Wd G M1 s H locs → lv_has ls 24 [(18, .int (T' 1 0 10)), (17, .int (T 0 f 2 - T 0 f 5)), (16, .int (T 0 f 8)), (15, .int al), (14, .int nx), (13, .int wt), (12, .int rd), (9, .int (nI hr)), (8, .int (nI ai)), (7, .int (nI wm)), (6, .int (nI f)), (5, .int (nI k)), (0, .ref b), (1, .int (nI time)), (2, .ref tt), (3, .ref oo), (4, .ref xa)] → W p l e room_1 s m args below meth c H locs (cells + 97) (slots + 24294) Q (F0 m 401 ls [])) : W p l e room_1 s m args below meth c H locs cells slots Q (F0 m 285 ls []) := by
  obtain ⟨hx, hb, hml, hown, hts, hS, hK, hX, hst, hL⟩ := C
  obtain ⟨hc1, hc2⟩ := hc
  have hrs := fun h => hI.hrs (n3 := 2) (tr := 0) (now := nI nw) (price := 400) (w := nI wm) (a := nI ai) (r := 0) (money := money) (n := n4) (by decide) (by decide) h
  have L298 : ∀ (n h : Nat), h ≤ hr → hr - h < n → ∀ (M : HM) (H : Heap) (locs : List Loc) (ls : Array Slot), TO G M 0 tt xa b D 4 2 2 2 B z (Nq (hrsP 4 2 2 2 0 (nI nw) 400 (nI wm) (nI ai) 0 h (T', n4, money)).2.1) (hrsP 4 2 2 2 0 (nI nw) 400 (nI wm) (nI ai) 0 h (T', n4, money)).1 (nI nw + nI h) (hrsP 4 2 2 2 0 (nI nw) 400 (nI wm) (nI ai) 0 h (T', n4, money)).2.2 → TO G M 10 oo xo b Do 4 2 2 2 B z2 (Nq n4) T' (nI nw) money → Wd G M s H locs → lv_has ls 24 [(19, .int (nI h)), (18, .int (T' 1 0 10)), (17, .int (T 0 f 2 - T 0 f 5)), (16, .int (T 0 f 8)), (15, .int al), (14, .int nx), (13, .int wt), (12, .int rd), (9, .int (nI hr)), (8, .int (nI ai)), (7, .int (nI wm)), (6, .int (nI f)), (5, .int (nI k)), (0, .ref b), (1, .int (nI time)), (2, .ref tt), (3, .ref oo), (4, .ref xa)] → W p l e room_1 s m args below meth c H locs (cells + 1 + 8 * h) (slots + 6 + 2024 * h) Q (F0 m 298 ls []) := by
    intro n
    induction n with
    | zero => intro h q1 q2; omega
    | succ n ih =>
      intro h q1 q2 M H locs ls hT hO hM hl
      refine lv_iload hx hb dL_law_298 (lv_at hl 0 rfl) ?_
      refine lv_iload hx hb dL_law_300 (lv_at hl 8 rfl) ?_
      refine lv_icmp_ge (tgt := 401) hx hb dL_law_302 (by decide) (fun c1 => ?_) (fun c1 => ?_)
      · have hh : h = hr := by
          have := (nI_leI (a := hr) (b := h) (by omega) (by omega)).mp c1
          omega
        subst hh
        refine W.widen (k := cells + 97) (n := slots + 24294) (by omega) (by omega) ?_
        exact kk _ _ _ _ hT hO hM (lv_sub hl [1, 2, 3, 4, 5, 6, 7, 8, 9, 10, 11, 12, 13, 14, 15, 16, 17] rfl)
      · skip
        have hlt : h < hr := by
          rcases Nat.lt_or_ge h hr with q | q
          · exact q
          · exact absurd (nI_le q (by omega)) c1
        obtain ⟨r1, -, r3, -, r5⟩ := hrs h
        obtain ⟨S, eS⟩ : ∃ S, S = (hrsP 4 2 2 2 0 (nI nw) 400 (nI wm) (nI ai) 0 h (T', n4, money)) := ⟨_, rfl⟩
        rw [← eS] at hT r1 r5
        simp only [← eS] at r3
        have x6 : S.1 0 f 6 = fhP (nI nw) (nI wm) (nI ai) 0 h (T' 0 f) 6 := r3 f hf 6 (by decide) (by decide) (by decide) (by decide) (by decide)
        have x7 : S.1 0 f 7 = fhP (nI nw) (nI wm) (nI ai) 0 h (T' 0 f) 7 := r3 f hf 7 (by decide) (by decide) (by decide) (by decide) (by decide)
        have eft : (ftP (nI nw) (nI wm) (nI ai) (T' 0 f) h) = t_X2_isFit_0 (S.1 0 f 6) (S.1 0 f 7) (clk (nI nw + nI h)) := by rw [x6, x7]; rfl
        have hs5 : S.2.1 ≤ n4 + 2 * h := r5
        have i79 : (79 : Int32).toInt = 79 := by decide
        have i80 : (80 : Int32).toInt = 80 := by decide
        have i7 : (7 : Int32).toInt = 7 := by decide
        have i8 : (8 : Int32).toInt = 8 := by decide
        have Z3 : ∀ (rdv : Int32) (ls : Array Slot) (H : Heap) (locs : List Loc), Wd G M s H locs → lv_has ls 24 [(20, .int rdv), (19, .int (nI h)), (18, .int (T' 1 0 10)), (17, .int (T 0 f 2 - T 0 f 5)), (16, .int (T 0 f 8)), (15, .int al), (14, .int nx), (13, .int wt), (12, .int rd), (9, .int (nI hr)), (8, .int (nI ai)), (7, .int (nI wm)), (6, .int (nI f)), (5, .int (nI k)), (0, .ref b), (1, .int (nI time)), (2, .ref tt), (3, .ref oo), (4, .ref xa)] → W p l e room_1 s m args below meth c H locs (cells + 1 + 8 * h + 3) (slots + 6 + 2024 * h + 18) Q (F0 m 383 ls []) := by
          intro rdv ls H locs hM hl
          refine lv_aload hx hb dL_law_383 (lv_at hl 18 rfl) ?_
          refine lv_iconst (v := nI 1) hx hb dL_law_385 (by decide) ?_
          refine lv_iload hx hb dL_law_386 (lv_at hl 11 rfl) ?_
          refine lv_iload hx hb dL_law_388 (lv_at hl 10 rfl) ?_
          refine lv_iconst (v := (0 : Int32)) hx hb dL_law_390 (by decide) ?_
          have kp : kc_X6_pass (Nq S.2.1) S.1 0 (nI nw + nI h) 400 S.2.2 (nI 1) (nI wm) (nI ai) (0 : Int32) = 0 := by
            rw [nI_add]
            exact kz_pass (hr := 1) (by decide) (by decide) hwm hai (by omega)
          refine r_pass (hh := 1) (nI_clamp (by decide)) (by decide) hx hb hml hl.1 hown hts hK hX hst hM hT.wr r1 (by omega) kp wm_L_57 ⟨Nat.le_of_ble_eq_true rfl, Nat.le_of_ble_eq_true rfl⟩ ⟨by show cells + 1 + 8 * h + 3 + (4 * 1 + 1) ≤ 1048973; omega, by show slots + 6 + 2024 * h + 18 + (2000 * 1 + 6) ≤ 5954851; omega⟩ (Nat.le_of_ble_eq_true rfl) dL_law_391 (fun M1 H locs hw sx hM => ?_)
          have e1 : hrsP 4 2 2 2 0 (nI nw + nI h) 400 (nI wm) (nI ai) 0 1 (S.1, S.2.1, S.2.2) = (hrsP 4 2 2 2 0 (nI nw) 400 (nI wm) (nI ai) 0 (h + 1) (T', n4, money)) := by
            show hrP 4 2 2 2 0 (nI nw + nI h + nI 0) 400 (nI wm) (nI ai) 0 S = hrP 4 2 2 2 0 (nI nw + nI h) 400 (nI wm) (nI ai) 0 (hrsP 4 2 2 2 0 (nI nw) 400 (nI wm) (nI ai) 0 h (T', n4, money))
            rw [nI_0, Int32.add_zero, eS]
          rw [e1, Int32.add_assoc, nI_add] at hw
          replace hO := hO.sb (Sb.sx sx) (by omega)
          replace hT := hT.face hw sx
          clear hw sx
          refine lv_pop hx hb dL_law_394 rfl ?_
          refine lv_iinc (v := nI (h + 1)) (lv' := [(19, .int (nI (h + 1))), (20, .int rdv), (18, .int (T' 1 0 10)), (17, .int (T 0 f 2 - T 0 f 5)), (16, .int (T 0 f 8)), (15, .int al), (14, .int nx), (13, .int wt), (12, .int rd), (9, .int (nI hr)), (8, .int (nI ai)), (7, .int (nI wm)), (6, .int (nI f)), (5, .int (nI k)), (0, .ref b), (1, .int (nI time)), (2, .ref tt), (3, .ref oo), (4, .ref xa)]) hx hb dL_law_395 hl (k := 1) rfl (nI_1 h) (by decide) rfl (fun ls hl => ?_)
          refine lv_goto (tgt := 298) hx hb dL_law_398 (by decide) ?_
          refine W.cst (cells' := cells + 1 + 8 * (h + 1)) (slots' := slots + 6 + 2024 * (h + 1)) (by omega) (by omega) ?_
          exact ih (h + 1) (by omega) (by omega) _ _ _ _ hT hO hM (lv_sub hl [0, 2, 3, 4, 5, 6, 7, 8, 9, 10, 11, 12, 13, 14, 15, 16, 17, 18] rfl)
        have Z : ∀ rdv : Int32, ((rdv = 0 ∧ (ftP (nI nw) (nI wm) (nI ai) (T' 0 f) h) = 0) ∨ (rdv = 1 ∧ ¬ (ftP (nI nw) (nI wm) (nI ai) (T' 0 f) h) = 0)) → ∀ (H : Heap) (locs : List Loc), Wd G M s H locs → W p l e room_1 s m args below meth c H locs (cells + 1 + 8 * h + 3) (slots + 6 + 2024 * h + 18) Q (F0 m 350 ls [.int rdv]) := by
          intro rdv hrd H locs hM
          refine lv_istore (lv' := [(20, .int rdv), (19, .int (nI h)), (18, .int (T' 1 0 10)), (17, .int (T 0 f 2 - T 0 f 5)), (16, .int (T 0 f 8)), (15, .int al), (14, .int nx), (13, .int wt), (12, .int rd), (9, .int (nI hr)), (8, .int (nI ai)), (7, .int (nI wm)), (6, .int (nI f)), (5, .int (nI k)), (0, .ref b), (1, .int (nI time)), (2, .ref tt), (3, .ref oo), (4, .ref xa)]) hx hb dL_law_350 hl (by decide) rfl (fun ls hl => ?_)
          have Z2 : ∀ e9 : Int32, ((e9 = 1 ∧ rd = nI h) ∨ (e9 = 0 ∧ ¬ rd = nI h)) → W p l e room_1 s m args below meth c H locs (cells + 1 + 8 * h + 3) (slots + 6 + 2024 * h + 18) Q (F0 m 366 ls [.int e9, .int rdv]) := by
            intro e9 he9
            refine lv_icmp_eq (tgt := 383) hx hb dL_law_366 (by decide) (fun _ => Z3 rdv ls H locs hM hl) (fun c5 => ?_)
            refine lv_iload hx hb dL_law_369 (lv_at hl 8 rfl) ?_
            have key : ¬ rd < 0 ∧ nI h > rd := by
              rcases rdQ_spec (now := nI nw) (w := nI wm) (a := nI ai) (f := T' 0 f) with ⟨a1, a2⟩ | ⟨j, b1, b2, b3, b4⟩
              · exfalso
                have z1 := a2 h (by omega)
                have z2 : rdv = 0 := hrd.elim (fun q => q.1) (fun q => absurd z1 q.2)
                have z3 : ¬ rd = nI h := by rw [erd, a1]; exact fun q => nI_m (by omega) q.symm
                have z4 : e9 = 0 := he9.elim (fun q => absurd q.2 z3) (fun q => q.1)
                exact c5 (z2.trans z4.symm)
              · rw [← erd] at b2
                refine ⟨by rw [b2]; exact nI_pos (by omega), ?_⟩
                rcases Nat.lt_trichotomy h j with q | q | q
                · exfalso
                  have z1 := b4 h q
                  have z2 : rdv = 0 := hrd.elim (fun q => q.1) (fun q => absurd z1 q.2)
                  have z3 : ¬ rd = nI h := by
                    rw [b2]
                    intro z9
                    have := (nI_eq (by omega) (by omega)).mp z9
                    omega
                  have z4 : e9 = 0 := he9.elim (fun q => absurd q.2 z3) (fun q => q.1)
                  exact c5 (z2.trans z4.symm)
                · exfalso
                  subst q
                  have z2 : rdv = 1 := hrd.elim (fun q => absurd q.2 b3) (fun q => q.1)
                  have z4 : e9 = 1 := he9.elim (fun q => q.1) (fun q => absurd b2 q.2)
                  exact c5 (z2.trans z4.symm)
                · rw [b2]
                  exact nI_lt q (by omega)
            refine lv_if_lt (tgt := 381) hx hb dL_law_371 (by decide) (fun c6 => absurd c6 key.1) (fun c6 => ?_)
            refine lv_iload hx hb dL_law_374 (lv_at hl 1 rfl) ?_
            refine lv_iload hx hb dL_law_376 (lv_at hl 8 rfl) ?_
            exact lv_icmp_gt (tgt := 383) hx hb dL_law_378 (by decide) (fun _ => Z3 rdv ls H locs hM hl) (fun c7 => absurd key.2 c7)
          refine lv_iload hx hb dL_law_352 (lv_at hl 0 rfl) ?_
          refine lv_iload hx hb dL_law_354 (lv_at hl 8 rfl) ?_
          refine lv_iload hx hb dL_law_356 (lv_at hl 1 rfl) ?_
          refine lv_icmp_ne (tgt := 365) hx hb dL_law_358 (by decide) (fun c4 => ?_) (fun c4 => ?_)
          · refine lv_iconst (v := (0 : Int32)) hx hb dL_law_365 (by decide) ?_
            exact Z2 0 (Or.inr ⟨rfl, c4⟩)
          · refine lv_iconst (v := (1 : Int32)) hx hb dL_law_361 (by decide) ?_
            refine lv_goto (tgt := 366) hx hb dL_law_362 (by decide) ?_
            exact Z2 1 (Or.inl ⟨rfl, c4⟩)
        refine lv_aload hx hb dL_law_305 (lv_at hl 17 rfl) ?_
        refine lv_iload hx hb dL_law_307 (lv_at hl 11 rfl) ?_
        refine lv_iconst (v := nI 4) hx hb dL_law_309 (by decide) ?_
        refine r_ofField hx hb hml hl.1 hown hts hK hX hst hM hT.wr (kz_ofField hf (by decide)) wm_L_44 ⟨Nat.le_of_ble_eq_true rfl, Nat.le_of_ble_eq_true rfl⟩ ⟨by show cells + 1 + 8 * h + 1 ≤ 1048973; omega, by show slots + 6 + 2024 * h + 6 ≤ 5954851; omega⟩ (Nat.le_of_ble_eq_true rfl) dL_law_310 (fun H locs hM => ?_)
        rw [qf_4 hf]
        refine lv_bipush (v := (79 : Int32)) hx hb dL_law_313 (by decide) ?_
        refine lv_icmp_le (tgt := 349) hx hb dL_law_315 (by decide) (fun c2 => ?_) (fun c2 => ?_)
        · refine lv_iconst (v := (0 : Int32)) hx hb dL_law_349 (by decide) ?_
          refine W.widen (k := cells + 1 + 8 * h + 3) (n := slots + 6 + 2024 * h + 18) (by omega) (by omega) ?_
          exact Z 0 (Or.inl ⟨rfl, by rw [eft]; exact fit_n (Or.inl (by have := Int32.le_iff_toInt_le.mp c2; rw [Int32.lt_iff_toInt_lt]; omega))⟩) _ _ hM
        · skip
          refine lv_aload hx hb dL_law_318 (lv_at hl 17 rfl) ?_
          refine lv_iload hx hb dL_law_320 (lv_at hl 11 rfl) ?_
          refine lv_iconst (v := nI 5) hx hb dL_law_322 (by decide) ?_
          refine r_ofField hx hb hml hl.1 hown hts hK hX hst hM hT.wr (kz_ofField hf (by decide)) wm_L_44 ⟨Nat.le_of_ble_eq_true rfl, Nat.le_of_ble_eq_true rfl⟩ ⟨by show cells + 1 + 8 * h + 1 + 1 ≤ 1048973; omega, by show slots + 6 + 2024 * h + 6 + 6 ≤ 5954851; omega⟩ (Nat.le_of_ble_eq_true rfl) dL_law_323 (fun H locs hM => ?_)
          rw [qf_5 hf]
          refine lv_bipush (v := (20 : Int32)) hx hb dL_law_326 (by decide) ?_
          refine lv_icmp_ge (tgt := 349) hx hb dL_law_328 (by decide) (fun c3 => ?_) (fun c3 => ?_)
          · refine lv_iconst (v := (0 : Int32)) hx hb dL_law_349 (by decide) ?_
            refine W.widen (k := cells + 1 + 8 * h + 3) (n := slots + 6 + 2024 * h + 18) (by omega) (by omega) ?_
            exact Z 0 (Or.inl ⟨rfl, by rw [eft]; exact fit_n (Or.inr (Or.inl c3))⟩) _ _ hM
          · skip
            refine lv_aload hx hb dL_law_331 (lv_at hl 17 rfl) ?_
            refine lv_iconst (v := nI 0) hx hb dL_law_333 (by decide) ?_
            refine r_many hx hb hml hl.1 hown hts hK hX hst hM hT.wr kz_many wm_L_54 ⟨Nat.le_of_ble_eq_true rfl, Nat.le_of_ble_eq_true rfl⟩ ⟨by show cells + 1 + 8 * h + 1 + 1 + 1 ≤ 1048973; omega, by show slots + 6 + 2024 * h + 6 + 6 + 6 ≤ 5954851; omega⟩ (Nat.le_of_ble_eq_true rfl) dL_law_334 (fun H locs hM => ?_)
            rw [qm_0]
            refine lv_bipush (v := (24 : Int32)) hx hb dL_law_337 (by decide) ?_
            refine lv_irem hx hb dL_law_339 (by decide) ?_
            refine lv_bipush (v := (7 : Int32)) hx hb dL_law_340 (by decide) ?_
            refine lv_icmp_le (tgt := 349) hx hb dL_law_342 (by decide) (fun c4 => ?_) (fun c4 => ?_)
            · refine lv_iconst (v := (0 : Int32)) hx hb dL_law_349 (by decide) ?_
              refine W.widen (k := cells + 1 + 8 * h + 3) (n := slots + 6 + 2024 * h + 18) (by omega) (by omega) ?_
              exact Z 0 (Or.inl ⟨rfl, by rw [eft]; exact fit_n (Or.inr (Or.inr (by have c4 : clk (nI nw + nI h) ≤ 7 := c4; have := Int32.le_iff_toInt_le.mp c4; rw [Int32.lt_iff_toInt_lt]; omega)))⟩) _ _ hM
            · refine lv_iconst (v := (1 : Int32)) hx hb dL_law_345 (by decide) ?_
              refine lv_goto (tgt := 350) hx hb dL_law_346 (by decide) ?_
              refine W.widen (k := cells + 1 + 8 * h + 3) (n := slots + 6 + 2024 * h + 18) (by omega) (by omega) ?_
              have nf : ¬ (ftP (nI nw) (nI wm) (nI ai) (T' 0 f) h) = 0 := by
                rw [eft]
                refine fit_1 (fun q => c2 ?_) c3 (fun q => c4 ?_)
                · have := Int32.lt_iff_toInt_lt.mp q
                  rw [Int32.le_iff_toInt_le]
                  omega
                · have := Int32.lt_iff_toInt_lt.mp q
                  show clk (nI nw + nI h) ≤ 7
                  rw [Int32.le_iff_toInt_le]
                  omega
              exact Z 1 (Or.inr ⟨rfl, nf⟩) _ _ hM
  refine lv_aload hx hb dL_law_285 (lv_at hl 15 rfl) ?_
  refine lv_iconst (v := nI 0) hx hb dL_law_287 (by decide) ?_
  refine lv_bipush (v := nI 6) hx hb dL_law_288 (by decide) ?_
  refine r_ofCombine hx hb hml hl.1 hown hts hK hX hst hM hT.wr kz_ofCombine wm_L_51 ⟨Nat.le_of_ble_eq_true rfl, Nat.le_of_ble_eq_true rfl⟩ ⟨by show cells + 1 ≤ 1048973; omega, by show slots + 6 ≤ 5954851; omega⟩ (Nat.le_of_ble_eq_true rfl) dL_law_290 (fun H locs hM => ?_)
  rw [qc_6]
  refine lv_istore (lv' := [(18, .int (T' 1 0 10)), (17, .int (T 0 f 2 - T 0 f 5)), (16, .int (T 0 f 8)), (15, .int al), (14, .int nx), (13, .int wt), (12, .int rd), (9, .int (nI hr)), (8, .int (nI ai)), (7, .int (nI wm)), (6, .int (nI f)), (5, .int (nI k)), (0, .ref b), (1, .int (nI time)), (2, .ref tt), (3, .ref oo), (4, .ref xa)]) hx hb dL_law_293 hl (by decide) rfl (fun ls hl => ?_)
  refine lv_iconst (v := nI 0) hx hb dL_law_295 (by decide) ?_
  refine lv_istore (lv' := [(19, .int (nI 0)), (18, .int (T' 1 0 10)), (17, .int (T 0 f 2 - T 0 f 5)), (16, .int (T 0 f 8)), (15, .int al), (14, .int nx), (13, .int wt), (12, .int rd), (9, .int (nI hr)), (8, .int (nI ai)), (7, .int (nI wm)), (6, .int (nI f)), (5, .int (nI k)), (0, .ref b), (1, .int (nI time)), (2, .ref tt), (3, .ref oo), (4, .ref xa)]) hx hb dL_law_296 hl (by decide) rfl (fun ls hl => ?_)
  refine W.cst (cells' := cells + 1 + 8 * 0) (slots' := slots + 6 + 2024 * 0) (by omega) (by omega) ?_
  exact L298 (hr + 1) 0 (Nat.zero_le _) (by omega) M H locs ls (by show TO G M 0 tt xa b (D) 4 2 2 2 B z (Nq n4) T' (nI nw + nI 0) money; rw [nI_0, Int32.add_zero]; exact hT) hO hM hl
end L3

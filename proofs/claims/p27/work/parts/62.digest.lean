theorem dgA_0 {q : Nat → Int32} {d : Int64} : dgA q d 0 = d := rfl
theorem dgB_0 {g : Nat → Int64 → Int64} {d : Int64} : dgB g d 0 = d := rfl
theorem dgA_s {q : Nat → Int32} {d : Int64} {n : Nat} : dgA q d (n + 1) = lD (dgA q d n) (q n) := rfl
theorem dgB_s {g : Nat → Int64 → Int64} {d : Int64} {n : Nat} : dgB g d (n + 1) = g n (dgB g d n) := rfl
theorem dg1_e {N : Nat → Nat} {T : Tb} {tr now price money : Int32} : dg1 N T tr now price money = dgA (fun j => qv_X6_many N T tr now price money (nI j)) 7812 13 := rfl
theorem dg2_e {N : Nat → Nat} {T : Tb} {tr now price money : Int32} : dg2 N T tr now price money = dgB (dgF N T tr now price money) (dg1 N T tr now price money) (N 0) := rfl
theorem dg3_e {N : Nat → Nat} {T : Tb} {tr tr2 now price money : Int32} : dg3 N T tr tr2 now price money = dgB (dgC N T tr tr2 now price money) (dg2 N T tr now price money) (N 1) := rfl
theorem dg4_e {N : Nat → Nat} {T : Tb} {tr tr2 now price money : Int32} : dg4 N T tr tr2 now price money = dgB (dgT N T tr now price money) (dg3 N T tr tr2 now price money) (N 2) := rfl
theorem dg5_e {N : Nat → Nat} {T : Tb} {tr tr2 now price money : Int32} : dg5 N T tr tr2 now price money = dgB (dgK N T tr now price money) (dg4 N T tr tr2 now price money) (N 4) := rfl
theorem dgQ_e {N : Nat → Nat} {T : Tb} {tr tr2 now price money : Int32} : dgQ N T tr tr2 now price money = dgB (dgO N T tr now price money) (dg5 N T tr tr2 now price money) 4 := rfl
set_option maxHeartbeats 8000000 in
set_option maxRecDepth 100000 in
theorem c_X6_digest (l : Launch) (hst : l.stackTraces = false) (G : GG) (M : HM) (xa rx h2 h3 : Nat) (t h0 : Nat) (Y : LY) (N : Nat → Nat) (T : Tb) (tr now price money : Int32) (ho : M xa = some (rx, .inr (7, [.ref h0, .ref h2, .ref h3]))) (hL : LdR G M t h0 Y N T tr now price money) (t2 : Nat) (Yt : LY) (Nt : Nat → Nat) (Tt : Tb) (tr2 nowt pricet moneyt : Int32) (hLt : LdR G M t2 h2 Yt Nt Tt tr2 nowt pricet moneyt) (r3 : Nat) (ft : Row) (hf : M h3 = some (r3, eC 0 ft)) (dxt : rx ≠ t) (dx2 : rx ≠ t2) (dx3 : rx ≠ r3) (dt2 : t ≠ t2) (dt3 : t ≠ r3) (d23 : t2 ≠ r3) (d32 : r3 ≠ t2) (k0 : Nt 0 ≤ N 0 ∧ N 0 ≤ 8) (k1 : Nt 1 ≤ N 1 ∧ N 1 ≤ 8) (k2 : Nt 2 ≤ N 2 ∧ N 2 ≤ 8) (k3 : Nt 3 ≤ N 3 ∧ N 3 ≤ 8) (h4 : Nt 4 = 0) (hB : ∀ i, i < N 1 → T 1 i 7 = 0 ∨ T 1 i 7 = 1) (htr : ¬ tr2 = 0) : Yl l yX6_digest (.code yX6_digest cX6_digest 5 (some .long) :: AL) 13 323 (2 * ((ntC N Nt T (N 1) 0 + ntC N Nt T (N 1) 1 + ntC N Nt T (N 1) 2 + ntC N Nt T (N 1) 3) - (Nt 0 + Nt 1 + Nt 2 + Nt 3)) + (2 * N 0 + N 1)) (40 * ((ntC N Nt T (N 1) 0 + ntC N Nt T (N 1) 1 + ntC N Nt T (N 1) 2 + ntC N Nt T (N 1) 3) - (Nt 0 + Nt 1 + Nt 2 + Nt 3)) + 6 * (2 * N 0 + N 1)) [.ref xa] G M (fun r M' => r = dgQ N T tr tr2 now price money ∧ DW G M M' xa rx h2 h3 t h0 Y N T tr now price money r3 t2 (ntC N Nt T (N 1)) tr2) := by
  refine Yl.go (by decide) (Nat.le_of_ble_eq_true rfl) ?_
  intro p e s m below meth c ls hx hb hr hml hown hlocks hname hts hK hX hM hl
  have hown : s.vm.findClass RX6 = some m.cls := hown
  have hl : lv_has ls 5 [(0, .ref xa)] := hl
  have hN8 := hL.2.2.2.2.2.2.1
  have hn0 := hN8 0
  have hn1 := hN8 1
  have hn2 := hN8 2
  have hn3 := hN8 3
  have hn4 := hN8 4
  obtain ⟨mc, emc⟩ : ∃ z, z = (2 * ((ntC N Nt T (N 1) 0 + ntC N Nt T (N 1) 1 + ntC N Nt T (N 1) 2 + ntC N Nt T (N 1) 3) - (Nt 0 + Nt 1 + Nt 2 + Nt 3)) + (2 * N 0 + N 1)) := ⟨_, rfl⟩
  obtain ⟨ms, ems⟩ : ∃ z, z = (40 * ((ntC N Nt T (N 1) 0 + ntC N Nt T (N 1) 1 + ntC N Nt T (N 1) 2 + ntC N Nt T (N 1) 3) - (Nt 0 + Nt 1 + Nt 2 + Nt 3)) + 6 * (2 * N 0 + N 1)) := ⟨_, rfl⟩
  rw [← emc, ← ems]
  have q0 := ntC_b (T := T) (k := 0) (by decide) k0.1 (N 1)
  have q1 := ntC_b (T := T) (k := 1) (by decide) k1.1 (N 1)
  have q2 := ntC_b (T := T) (k := 2) (by decide) k2.1 (N 1)
  have q3 := ntC_b (T := T) (k := 3) (by decide) k3.1 (N 1)
  have hD : DW G M M xa rx h2 h3 t h0 Y N T tr now price money r3 t2 Nt tr2 := ⟨ho, hL, ⟨ft, hf⟩, ⟨Yt, Tt, nowt, pricet, moneyt, hLt⟩, fun _ _ _ _ _ z => z⟩
  have L301 : ∀ (n i : Nat), i ≤ 4 → 4 - i < n → ∀ (M5 : HM) (H : Heap) (locs : List Loc) (ls : Array Slot) (d : Int64), d = dgB (dgO N T tr now price money) (dg5 N T tr tr2 now price money) i → DW G M M5 xa rx h2 h3 t h0 Y N T tr now price money r3 t2 (ntC N Nt T (N 1)) tr2 → Wd G M5 s H locs → lv_has ls 5 [(3, .int (nI i)), (1, .long d), (0, .ref xa)] → W p l e ({ frames := 13, cells := mc, slots := ms, locals := 323 } : Room) s m [.ref xa].toArray below meth c H locs mc ms (MQ below (va_Ql (fun r M' => r = dgQ N T tr tr2 now price money ∧ DW G M M' xa rx h2 h3 t h0 Y N T tr now price money r3 t2 (ntC N Nt T (N 1)) tr2) (gB G) (gA G)) [.ref xa].toArray s mc ms (gA G)) (F0 m 301 ls []) := by
    intro n
    induction n with
    | zero => intro i h1 h2; omega
    | succ n ih =>
      intro i g1 g2 M5 H locs ls d ed hD hM hl
      have hD9 := hD
      obtain ⟨ho5, hL5, ⟨f5, hf5⟩, ⟨Y5, T5, n5, p5, m5, hT5⟩, -⟩ := hD9
      refine lv_iload_n hx hb dX6_digest_301 rfl (lv_at hl 0 rfl) ?_
      refine lv_iconst (v := (4 : Int32)) hx hb dX6_digest_302 (by decide) ?_
      refine lv_icmp_ge (tgt := 340) hx hb dX6_digest_303 (by decide) (fun c1 => ?_) (fun c1 => ?_)
      · have hi : i = 4 := by
          have := (nI_leI (a := 4) (b := i) (by omega) (by omega)).mp c1
          omega
        rw [hi] at ed
        try rw [hi] at hD
        refine lv_lload_n hx hb dX6_digest_340 rfl (lv_at hl 1 rfl) ?_
        exact g_lret hx hb hr hlocks hM (Nat.le_refl _) (Nat.le_refl _) ⟨(by rw [dgQ_e]; exact ed), hD⟩ dX6_digest_341
      · have hi : i < 4 := by
          rcases Nat.lt_or_ge i (4) with z | z
          · exact z
          · exact absurd (nI_le z (by omega)) c1
        refine lv_lload_n hx hb dX6_digest_306 rfl (lv_at hl 1 rfl) ?_
        refine lv_ldc2 (v := 31) hx hb hown (hts _ wq_X6_348) dX6_digest_307 ?_
        refine lv_lmul hx hb dX6_digest_310 ?_
        refine lv_aload_n hx hb dX6_digest_311 rfl (lv_at hl 2 rfl) ?_
        refine lv_iload_n hx hb dX6_digest_312 rfl (lv_at hl 0 rfl) ?_
        refine lv_iconst (v := (0 : Int32)) hx hb dX6_digest_313 (by decide) ?_
        have kz : kc_X6_owed N T tr now price money (nI i) (0 : Int32) = 0 := by unfold kc_X6_owed; rw [if_pos (show t_X6_isOutside_0 (nI i) (0 : Int32) (3 : Int32) = 0 from out_n (n := 3) (by omega) (by decide))]
        refine g_callXi (n9 := 2) (As := [.int (nI i), .int (0 : Int32)]) (rest := [.long (d * 31)]) hx hb hml hl.1 hown hts hK hX hM (c_X6_owed l hst G _ xa rx h2 h3 t h0 Y N T tr now price money (nI i) (0 : Int32) ho5 dxt hL5 ) wm_X6_376 wi_X6_owed wl_X6_owed wn_X6 wc_X6_owed (by decide +kernel) (hM.recv hK (ci := 7) rfl ho5) ⟨Nat.le_of_ble_eq_true rfl, Nat.le_of_ble_eq_true rfl⟩ ⟨by show _ + xc (kc_X6_owed N T tr now price money (nI i) (0 : Int32)) ≤ mc; rw [kz]; show _ + 0 ≤ mc; omega, by show _ + 6 * xc (kc_X6_owed N T tr now price money (nI i) (0 : Int32)) ≤ ms; rw [kz]; show _ + 0 ≤ ms; omega⟩ rfl (Nat.le_of_ble_eq_true rfl) rfl dX6_digest_314 (fun E0 ce q9 H1 locs1 hE _ _ _ _ => (EX_0 (by rw [kz] at hE; exact hE)).elim) (fun r_314 M6 H locs hq hM => ?_)
        obtain ⟨-, er, hq2⟩ := hq
        subst er
        replace hq2 := hq2.symm
        subst hq2
        refine W.cst (cells' := mc) (slots' := ms) (by show _ + xc (kc_X6_owed N T tr now price money (nI i) (0 : Int32)) = _; rw [kz]; rfl) (by show _ + 6 * xc (kc_X6_owed N T tr now price money (nI i) (0 : Int32)) = _; rw [kz]; rfl) ?_
        refine lv_i2l (v := (qv_X6_owed N T tr now price money (nI i) (0 : Int32)).toInt64) hx hb dX6_digest_317 rfl ?_
        refine lv_ladd hx hb dX6_digest_318 ?_
        refine lv_lstore_n (lv' := [(1, .long ((d * 31) + (qv_X6_owed N T tr now price money (nI i) (0 : Int32)).toInt64)), (3, .int (nI i)), (0, .ref xa)]) hx hb dX6_digest_319 rfl hl (by decide) rfl (fun ls hl => ?_)
        refine lv_lload_n hx hb dX6_digest_320 rfl (lv_at hl 0 rfl) ?_
        refine lv_ldc2 (v := 31) hx hb hown (hts _ wq_X6_348) dX6_digest_321 ?_
        refine lv_lmul hx hb dX6_digest_324 ?_
        refine lv_aload_n hx hb dX6_digest_325 rfl (lv_at hl 2 rfl) ?_
        refine lv_iload_n hx hb dX6_digest_326 rfl (lv_at hl 1 rfl) ?_
        refine lv_iconst (v := (1 : Int32)) hx hb dX6_digest_327 (by decide) ?_
        have kz : kc_X6_owed N T tr now price money (nI i) (1 : Int32) = 0 := by unfold kc_X6_owed; rw [if_pos (show t_X6_isOutside_0 (nI i) (0 : Int32) (3 : Int32) = 0 from out_n (n := 3) (by omega) (by decide))]
        refine g_callXi (n9 := 2) (As := [.int (nI i), .int (1 : Int32)]) (rest := [.long (((d * 31) + (qv_X6_owed N T tr now price money (nI i) (0 : Int32)).toInt64) * 31)]) hx hb hml hl.1 hown hts hK hX hM (c_X6_owed l hst G _ xa rx h2 h3 t h0 Y N T tr now price money (nI i) (1 : Int32) ho5 dxt hL5 ) wm_X6_376 wi_X6_owed wl_X6_owed wn_X6 wc_X6_owed (by decide +kernel) (hM.recv hK (ci := 7) rfl ho5) ⟨Nat.le_of_ble_eq_true rfl, Nat.le_of_ble_eq_true rfl⟩ ⟨by show _ + xc (kc_X6_owed N T tr now price money (nI i) (1 : Int32)) ≤ mc; rw [kz]; show _ + 0 ≤ mc; omega, by show _ + 6 * xc (kc_X6_owed N T tr now price money (nI i) (1 : Int32)) ≤ ms; rw [kz]; show _ + 0 ≤ ms; omega⟩ rfl (Nat.le_of_ble_eq_true rfl) rfl dX6_digest_328 (fun E0 ce q9 H1 locs1 hE _ _ _ _ => (EX_0 (by rw [kz] at hE; exact hE)).elim) (fun r_328 M6 H locs hq hM => ?_)
        obtain ⟨-, er, hq2⟩ := hq
        subst er
        replace hq2 := hq2.symm
        subst hq2
        refine W.cst (cells' := mc) (slots' := ms) (by show _ + xc (kc_X6_owed N T tr now price money (nI i) (1 : Int32)) = _; rw [kz]; rfl) (by show _ + 6 * xc (kc_X6_owed N T tr now price money (nI i) (1 : Int32)) = _; rw [kz]; rfl) ?_
        refine lv_i2l (v := (qv_X6_owed N T tr now price money (nI i) (1 : Int32)).toInt64) hx hb dX6_digest_331 rfl ?_
        refine lv_ladd hx hb dX6_digest_332 ?_
        refine lv_lstore_n (lv' := [(1, .long ((((d * 31) + (qv_X6_owed N T tr now price money (nI i) (0 : Int32)).toInt64) * 31) + (qv_X6_owed N T tr now price money (nI i) (1 : Int32)).toInt64)), (3, .int (nI i)), (0, .ref xa)]) hx hb dX6_digest_333 rfl hl (by decide) rfl (fun ls hl => ?_)
        refine lv_iinc (v := (nI (i + 1))) (lv' := [(3, .int (nI (i + 1))), (1, .long ((((d * 31) + (qv_X6_owed N T tr now price money (nI i) (0 : Int32)).toInt64) * 31) + (qv_X6_owed N T tr now price money (nI i) (1 : Int32)).toInt64)), (0, .ref xa)]) hx hb dX6_digest_334 hl (k := 1) rfl (nI_1 i) (by decide) rfl (fun ls hl => ?_)
        refine lv_goto (tgt := 301) hx hb dX6_digest_337 (by decide) ?_
        exact ih (i + 1) (by omega) (by omega) _ _ _ _ _ (by rw [dgB_s, ← ed]; rfl) hD hM (lv_sub hl [0, 1, 2] rfl)
  have L248 : ∀ (n i : Nat), i ≤ N 4 → N 4 - i < n → ∀ (M5 : HM) (H : Heap) (locs : List Loc) (ls : Array Slot) (d : Int64), d = dgB (dgK N T tr now price money) (dg4 N T tr tr2 now price money) i → DW G M M5 xa rx h2 h3 t h0 Y N T tr now price money r3 t2 (ntC N Nt T (N 1)) tr2 → Wd G M5 s H locs → lv_has ls 5 [(3, .int (nI i)), (1, .long d), (0, .ref xa)] → W p l e ({ frames := 13, cells := mc, slots := ms, locals := 323 } : Room) s m [.ref xa].toArray below meth c H locs mc ms (MQ below (va_Ql (fun r M' => r = dgQ N T tr tr2 now price money ∧ DW G M M' xa rx h2 h3 t h0 Y N T tr now price money r3 t2 (ntC N Nt T (N 1)) tr2) (gB G) (gA G)) [.ref xa].toArray s mc ms (gA G)) (F0 m 248 ls []) := by
    intro n
    induction n with
    | zero => intro i h1 h2; omega
    | succ n ih =>
      intro i g1 g2 M5 H locs ls d ed hD hM hl
      have hD9 := hD
      obtain ⟨ho5, hL5, ⟨f5, hf5⟩, ⟨Y5, T5, n5, p5, m5, hT5⟩, -⟩ := hD9
      refine lv_iload_n hx hb dX6_digest_248 rfl (lv_at hl 0 rfl) ?_
      refine lv_aload_n hx hb dX6_digest_249 rfl (lv_at hl 2 rfl) ?_
      refine fg_X6_12 hx hb hts hown hK hM ho5 dX6_digest_250 ?_
      refine fg_X6_201 hx hb hts hown hK hM hL5.1 dX6_digest_253 ?_
      refine g_callVi (n9 := 0) (As := []) (rest := [.int (nI i)]) hx hb hml hl.1 hown hts hK hM (c_Jx4a65c_size_8abf5 l G _ (Y.1 4) t _ _ _ ((hL5.2.1 4 (by decide)).1)) wm_X6_50 wi_Jx4a65c_size_8abf5 wl_Jx4a65c_size_8abf5 wn_Jx4a65c wc_Jx4a65c_size_8abf5 (by decide +kernel) (hM.recv hK (ci := 0) rfl ((hL5.2.1 4 (by decide)).1)) ⟨Nat.le_of_ble_eq_true rfl, Nat.le_of_ble_eq_true rfl⟩ ⟨by show _ ≤ mc; omega, by show _ ≤ ms; omega⟩ rfl (Nat.le_of_ble_eq_true rfl) rfl dX6_digest_256 (fun r_256 Mz H locs hq hM => ?_)
      have hq1 := hq.1.symm
      have hq2 := hq.2.symm
      subst hq1 hq2
      refine lv_icmp_ge (tgt := 299) hx hb dX6_digest_259 (by decide) (fun c2 => ?_) (fun c2 => ?_)
      · have hi : i = N 4 := by
          have := (nI_leI (a := N 4) (b := i) (by omega) (by omega)).mp c2
          omega
        rw [hi] at ed
        try rw [hi] at hD
        refine lv_iconst (v := (0 : Int32)) hx hb dX6_digest_299 (by decide) ?_
        refine lv_istore_n (lv' := [(3, .int (0 : Int32)), (1, .long d), (0, .ref xa)]) hx hb dX6_digest_300 rfl hl (by decide) rfl (fun ls hl => ?_)
        exact L301 (4 + 1) 0 (Nat.zero_le _) (by omega) _ _ _ _ _ (by rw [dgB_0, dg5_e]; exact ed) hD hM (lv_sub hl [0, 1, 2] rfl)
      · have hi : i < N 4 := by
          rcases Nat.lt_or_ge i (N 4) with z | z
          · exact z
          · exact absurd (nI_le z (by omega)) c2
        refine lv_iconst (v := (0 : Int32)) hx hb dX6_digest_262 (by decide) ?_
        refine lv_istore (lv' := [(4, .int (0 : Int32)), (3, .int (nI i)), (1, .long d), (0, .ref xa)]) hx hb dX6_digest_263 hl (by decide) rfl (fun ls hl => ?_)
        have L265 : ∀ (n j : Nat), j ≤ 7 → 7 - j < n → ∀ (M5 : HM) (H : Heap) (locs : List Loc) (ls : Array Slot) (dd : Int64), dd = dgA (fun j => qv_X6_ofTicket N T tr now price money (nI i) (nI j)) d j → DW G M M5 xa rx h2 h3 t h0 Y N T tr now price money r3 t2 (ntC N Nt T (N 1)) tr2 → Wd G M5 s H locs → lv_has ls 5 [(4, .int (nI j)), (3, .int (nI i)), (1, .long dd), (0, .ref xa)] → W p l e ({ frames := 13, cells := mc, slots := ms, locals := 323 } : Room) s m [.ref xa].toArray below meth c H locs mc ms (MQ below (va_Ql (fun r M' => r = dgQ N T tr tr2 now price money ∧ DW G M M' xa rx h2 h3 t h0 Y N T tr now price money r3 t2 (ntC N Nt T (N 1)) tr2) (gB G) (gA G)) [.ref xa].toArray s mc ms (gA G)) (F0 m 265 ls []) := by
          intro n
          induction n with
          | zero => intro j h1 h2; omega
          | succ n ihj =>
            intro j g1 g2 M5 H locs ls dd edd hD hM hl
            have hD9 := hD
            obtain ⟨ho5, hL5, ⟨f5, hf5⟩, ⟨Y5, T5, n5, p5, m5, hT5⟩, -⟩ := hD9
            refine lv_iload hx hb dX6_digest_265 (lv_at hl 0 rfl) ?_
            refine lv_bipush (v := (6 : Int32)) hx hb dX6_digest_267 (by decide) ?_
            refine lv_icmp_gt (tgt := 293) hx hb dX6_digest_269 (by decide) (fun c3 => ?_) (fun c3 => ?_)
            · have hj : j = 7 := by
                have := (nI_ltI (a := 6) (b := j) (by decide) (by omega)).mp c3
                omega
              rw [hj] at edd
              refine lv_iinc (v := (nI (i + 1))) (lv' := [(3, .int (nI (i + 1))), (4, .int (nI j)), (1, .long dd), (0, .ref xa)]) hx hb dX6_digest_293 hl (k := 1) rfl (nI_1 i) (by decide) rfl (fun ls hl => ?_)
              refine lv_goto (tgt := 248) hx hb dX6_digest_296 (by decide) ?_
              exact ih (i + 1) (by omega) (by omega) _ _ _ _ _ (by rw [dgB_s, ← ed, edd]; rfl) hD hM (lv_sub hl [0, 2, 3] rfl)
            · have hj : j ≤ 6 := by
                rcases Nat.lt_or_ge 6 j with z | z
                · exact absurd (nI_lt z (by omega)) c3
                · exact z
              refine lv_lload_n hx hb dX6_digest_272 rfl (lv_at hl 2 rfl) ?_
              refine lv_ldc2 (v := 31) hx hb hown (hts _ wq_X6_348) dX6_digest_273 ?_
              refine lv_lmul hx hb dX6_digest_276 ?_
              refine lv_aload_n hx hb dX6_digest_277 rfl (lv_at hl 3 rfl) ?_
              refine lv_iload_n hx hb dX6_digest_278 rfl (lv_at hl 1 rfl) ?_
              refine lv_iload hx hb dX6_digest_279 (lv_at hl 0 rfl) ?_
              have kz : kc_X6_ofTicket N T tr now price money (nI i) (nI j) = 0 := by unfold kc_X6_ofTicket; rw [if_neg (ixR_nn (by omega) hi), if_pos (show t_X6_isOutside_0 (nI j) (0 : Int32) (6 : Int32) = 0 from out_n (n := 6) hj (by decide))]
              refine g_callXi (n9 := 2) (As := [.int (nI i), .int (nI j)]) (rest := [.long (dd * 31)]) hx hb hml hl.1 hown hts hK hX hM (c_X6_ofTicket l hst G _ xa rx h2 h3 t h0 Y N T tr now price money (nI i) (nI j) ho5 dxt hL5 ) wm_X6_373 wi_X6_ofTicket wl_X6_ofTicket wn_X6 wc_X6_ofTicket (by decide +kernel) (hM.recv hK (ci := 7) rfl ho5) ⟨Nat.le_of_ble_eq_true rfl, Nat.le_of_ble_eq_true rfl⟩ ⟨by show _ + xc (kc_X6_ofTicket N T tr now price money (nI i) (nI j)) ≤ mc; rw [kz]; show _ + 0 ≤ mc; omega, by show _ + 6 * xc (kc_X6_ofTicket N T tr now price money (nI i) (nI j)) ≤ ms; rw [kz]; show _ + 0 ≤ ms; omega⟩ rfl (Nat.le_of_ble_eq_true rfl) rfl dX6_digest_281 (fun E0 ce q9 H1 locs1 hE _ _ _ _ => (EX_0 (by rw [kz] at hE; exact hE)).elim) (fun r_281 M6 H locs hq hM => ?_)
              obtain ⟨-, er, hq2⟩ := hq
              subst er
              replace hq2 := hq2.symm
              subst hq2
              refine W.cst (cells' := mc) (slots' := ms) (by show _ + xc (kc_X6_ofTicket N T tr now price money (nI i) (nI j)) = _; rw [kz]; rfl) (by show _ + 6 * xc (kc_X6_ofTicket N T tr now price money (nI i) (nI j)) = _; rw [kz]; rfl) ?_
              refine lv_i2l (v := (qv_X6_ofTicket N T tr now price money (nI i) (nI j)).toInt64) hx hb dX6_digest_284 rfl ?_
              refine lv_ladd hx hb dX6_digest_285 ?_
              refine lv_lstore_n (lv' := [(1, .long ((dd * 31) + (qv_X6_ofTicket N T tr now price money (nI i) (nI j)).toInt64)), (4, .int (nI j)), (3, .int (nI i)), (0, .ref xa)]) hx hb dX6_digest_286 rfl hl (by decide) rfl (fun ls hl => ?_)
              refine lv_iinc (v := (nI (j + 1))) (lv' := [(4, .int (nI (j + 1))), (1, .long ((dd * 31) + (qv_X6_ofTicket N T tr now price money (nI i) (nI j)).toInt64)), (3, .int (nI i)), (0, .ref xa)]) hx hb dX6_digest_287 hl (k := 1) rfl (nI_1 j) (by decide) rfl (fun ls hl => ?_)
              refine lv_goto (tgt := 265) hx hb dX6_digest_290 (by decide) ?_
              exact ihj (j + 1) (by omega) (by omega) _ _ _ _ _ (by rw [dgA_s, ← edd]; rfl) hD hM (lv_sub hl [0, 2, 1, 3] rfl)
        exact L265 8 0 (Nat.zero_le _) (by omega) _ _ _ _ _ dgA_0.symm hD hM (lv_sub hl [0, 1, 2, 3] rfl)
  have L195 : ∀ (n i : Nat), i ≤ N 2 → N 2 - i < n → ∀ (M5 : HM) (H : Heap) (locs : List Loc) (ls : Array Slot) (d : Int64), d = dgB (dgT N T tr now price money) (dg3 N T tr tr2 now price money) i → DW G M M5 xa rx h2 h3 t h0 Y N T tr now price money r3 t2 (ntC N Nt T (N 1)) tr2 → Wd G M5 s H locs → lv_has ls 5 [(3, .int (nI i)), (1, .long d), (0, .ref xa)] → W p l e ({ frames := 13, cells := mc, slots := ms, locals := 323 } : Room) s m [.ref xa].toArray below meth c H locs mc ms (MQ below (va_Ql (fun r M' => r = dgQ N T tr tr2 now price money ∧ DW G M M' xa rx h2 h3 t h0 Y N T tr now price money r3 t2 (ntC N Nt T (N 1)) tr2) (gB G) (gA G)) [.ref xa].toArray s mc ms (gA G)) (F0 m 195 ls []) := by
    intro n
    induction n with
    | zero => intro i h1 h2; omega
    | succ n ih =>
      intro i g1 g2 M5 H locs ls d ed hD hM hl
      have hD9 := hD
      obtain ⟨ho5, hL5, ⟨f5, hf5⟩, ⟨Y5, T5, n5, p5, m5, hT5⟩, -⟩ := hD9
      refine lv_iload_n hx hb dX6_digest_195 rfl (lv_at hl 0 rfl) ?_
      refine lv_aload_n hx hb dX6_digest_196 rfl (lv_at hl 2 rfl) ?_
      refine fg_X6_12 hx hb hts hown hK hM ho5 dX6_digest_197 ?_
      refine fg_X6_94 hx hb hts hown hK hM hL5.1 dX6_digest_200 ?_
      refine g_callVi (n9 := 0) (As := []) (rest := [.int (nI i)]) hx hb hml hl.1 hown hts hK hM (c_Jx4a65c_size_8abf5 l G _ (Y.1 2) t _ _ _ ((hL5.2.1 2 (by decide)).1)) wm_X6_50 wi_Jx4a65c_size_8abf5 wl_Jx4a65c_size_8abf5 wn_Jx4a65c wc_Jx4a65c_size_8abf5 (by decide +kernel) (hM.recv hK (ci := 0) rfl ((hL5.2.1 2 (by decide)).1)) ⟨Nat.le_of_ble_eq_true rfl, Nat.le_of_ble_eq_true rfl⟩ ⟨by show _ ≤ mc; omega, by show _ ≤ ms; omega⟩ rfl (Nat.le_of_ble_eq_true rfl) rfl dX6_digest_203 (fun r_203 Mz H locs hq hM => ?_)
      have hq1 := hq.1.symm
      have hq2 := hq.2.symm
      subst hq1 hq2
      refine lv_icmp_ge (tgt := 246) hx hb dX6_digest_206 (by decide) (fun c4 => ?_) (fun c4 => ?_)
      · have hi : i = N 2 := by
          have := (nI_leI (a := N 2) (b := i) (by omega) (by omega)).mp c4
          omega
        rw [hi] at ed
        try rw [hi] at hD
        refine lv_iconst (v := (0 : Int32)) hx hb dX6_digest_246 (by decide) ?_
        refine lv_istore_n (lv' := [(3, .int (0 : Int32)), (1, .long d), (0, .ref xa)]) hx hb dX6_digest_247 rfl hl (by decide) rfl (fun ls hl => ?_)
        exact L248 (N 4 + 1) 0 (Nat.zero_le _) (by omega) _ _ _ _ _ (by rw [dgB_0, dg4_e]; exact ed) hD hM (lv_sub hl [0, 1, 2] rfl)
      · have hi : i < N 2 := by
          rcases Nat.lt_or_ge i (N 2) with z | z
          · exact z
          · exact absurd (nI_le z (by omega)) c4
        refine lv_iconst (v := (0 : Int32)) hx hb dX6_digest_209 (by decide) ?_
        refine lv_istore (lv' := [(4, .int (0 : Int32)), (3, .int (nI i)), (1, .long d), (0, .ref xa)]) hx hb dX6_digest_210 hl (by decide) rfl (fun ls hl => ?_)
        have L212 : ∀ (n j : Nat), j ≤ 8 → 8 - j < n → ∀ (M5 : HM) (H : Heap) (locs : List Loc) (ls : Array Slot) (dd : Int64), dd = dgA (fun j => qv_X6_ofTruck N T tr now price money (nI i) (nI j)) d j → DW G M M5 xa rx h2 h3 t h0 Y N T tr now price money r3 t2 (ntC N Nt T (N 1)) tr2 → Wd G M5 s H locs → lv_has ls 5 [(4, .int (nI j)), (3, .int (nI i)), (1, .long dd), (0, .ref xa)] → W p l e ({ frames := 13, cells := mc, slots := ms, locals := 323 } : Room) s m [.ref xa].toArray below meth c H locs mc ms (MQ below (va_Ql (fun r M' => r = dgQ N T tr tr2 now price money ∧ DW G M M' xa rx h2 h3 t h0 Y N T tr now price money r3 t2 (ntC N Nt T (N 1)) tr2) (gB G) (gA G)) [.ref xa].toArray s mc ms (gA G)) (F0 m 212 ls []) := by
          intro n
          induction n with
          | zero => intro j h1 h2; omega
          | succ n ihj =>
            intro j g1 g2 M5 H locs ls dd edd hD hM hl
            have hD9 := hD
            obtain ⟨ho5, hL5, ⟨f5, hf5⟩, ⟨Y5, T5, n5, p5, m5, hT5⟩, -⟩ := hD9
            refine lv_iload hx hb dX6_digest_212 (lv_at hl 0 rfl) ?_
            refine lv_bipush (v := (7 : Int32)) hx hb dX6_digest_214 (by decide) ?_
            refine lv_icmp_gt (tgt := 240) hx hb dX6_digest_216 (by decide) (fun c5 => ?_) (fun c5 => ?_)
            · have hj : j = 8 := by
                have := (nI_ltI (a := 7) (b := j) (by decide) (by omega)).mp c5
                omega
              rw [hj] at edd
              refine lv_iinc (v := (nI (i + 1))) (lv' := [(3, .int (nI (i + 1))), (4, .int (nI j)), (1, .long dd), (0, .ref xa)]) hx hb dX6_digest_240 hl (k := 1) rfl (nI_1 i) (by decide) rfl (fun ls hl => ?_)
              refine lv_goto (tgt := 195) hx hb dX6_digest_243 (by decide) ?_
              exact ih (i + 1) (by omega) (by omega) _ _ _ _ _ (by rw [dgB_s, ← ed, edd]; rfl) hD hM (lv_sub hl [0, 2, 3] rfl)
            · have hj : j ≤ 7 := by
                rcases Nat.lt_or_ge 7 j with z | z
                · exact absurd (nI_lt z (by omega)) c5
                · exact z
              refine lv_lload_n hx hb dX6_digest_219 rfl (lv_at hl 2 rfl) ?_
              refine lv_ldc2 (v := 31) hx hb hown (hts _ wq_X6_348) dX6_digest_220 ?_
              refine lv_lmul hx hb dX6_digest_223 ?_
              refine lv_aload_n hx hb dX6_digest_224 rfl (lv_at hl 3 rfl) ?_
              refine lv_iload_n hx hb dX6_digest_225 rfl (lv_at hl 1 rfl) ?_
              refine lv_iload hx hb dX6_digest_226 (lv_at hl 0 rfl) ?_
              have kz : kc_X6_ofTruck N T tr now price money (nI i) (nI j) = 0 := by unfold kc_X6_ofTruck; rw [if_neg (ixR_nn (by omega) hi), if_pos (show t_X6_isOutside_0 (nI j) (0 : Int32) (7 : Int32) = 0 from out_n (n := 7) hj (by decide))]
              refine g_callXi (n9 := 2) (As := [.int (nI i), .int (nI j)]) (rest := [.long (dd * 31)]) hx hb hml hl.1 hown hts hK hX hM (c_X6_ofTruck l hst G _ xa rx h2 h3 t h0 Y N T tr now price money (nI i) (nI j) ho5 dxt hL5 ) wm_X6_370 wi_X6_ofTruck wl_X6_ofTruck wn_X6 wc_X6_ofTruck (by decide +kernel) (hM.recv hK (ci := 7) rfl ho5) ⟨Nat.le_of_ble_eq_true rfl, Nat.le_of_ble_eq_true rfl⟩ ⟨by show _ + xc (kc_X6_ofTruck N T tr now price money (nI i) (nI j)) ≤ mc; rw [kz]; show _ + 0 ≤ mc; omega, by show _ + 6 * xc (kc_X6_ofTruck N T tr now price money (nI i) (nI j)) ≤ ms; rw [kz]; show _ + 0 ≤ ms; omega⟩ rfl (Nat.le_of_ble_eq_true rfl) rfl dX6_digest_228 (fun E0 ce q9 H1 locs1 hE _ _ _ _ => (EX_0 (by rw [kz] at hE; exact hE)).elim) (fun r_228 M6 H locs hq hM => ?_)
              obtain ⟨-, er, hq2⟩ := hq
              subst er
              replace hq2 := hq2.symm
              subst hq2
              refine W.cst (cells' := mc) (slots' := ms) (by show _ + xc (kc_X6_ofTruck N T tr now price money (nI i) (nI j)) = _; rw [kz]; rfl) (by show _ + 6 * xc (kc_X6_ofTruck N T tr now price money (nI i) (nI j)) = _; rw [kz]; rfl) ?_
              refine lv_i2l (v := (qv_X6_ofTruck N T tr now price money (nI i) (nI j)).toInt64) hx hb dX6_digest_231 rfl ?_
              refine lv_ladd hx hb dX6_digest_232 ?_
              refine lv_lstore_n (lv' := [(1, .long ((dd * 31) + (qv_X6_ofTruck N T tr now price money (nI i) (nI j)).toInt64)), (4, .int (nI j)), (3, .int (nI i)), (0, .ref xa)]) hx hb dX6_digest_233 rfl hl (by decide) rfl (fun ls hl => ?_)
              refine lv_iinc (v := (nI (j + 1))) (lv' := [(4, .int (nI (j + 1))), (1, .long ((dd * 31) + (qv_X6_ofTruck N T tr now price money (nI i) (nI j)).toInt64)), (3, .int (nI i)), (0, .ref xa)]) hx hb dX6_digest_234 hl (k := 1) rfl (nI_1 j) (by decide) rfl (fun ls hl => ?_)
              refine lv_goto (tgt := 212) hx hb dX6_digest_237 (by decide) ?_
              exact ihj (j + 1) (by omega) (by omega) _ _ _ _ _ (by rw [dgA_s, ← edd]; rfl) hD hM (lv_sub hl [0, 2, 1, 3] rfl)
        exact L212 9 0 (Nat.zero_le _) (by omega) _ _ _ _ _ dgA_0.symm hD hM (lv_sub hl [0, 1, 2, 3] rfl)
  have L123 : ∀ (n i : Nat), i ≤ N 1 → N 1 - i < n → ∀ (M5 : HM) (H : Heap) (locs : List Loc) (ls : Array Slot) (d : Int64), d = dgB (dgC N T tr tr2 now price money) (dg2 N T tr now price money) i → DW G M M5 xa rx h2 h3 t h0 Y N T tr now price money r3 t2 (ntC N Nt T i) tr2 → Wd G M5 s H locs → lv_has ls 5 [(3, .int (nI i)), (1, .long d), (0, .ref xa)] → W p l e ({ frames := 13, cells := mc, slots := ms, locals := 323 } : Room) s m [.ref xa].toArray below meth c H locs (2 * ((ntC N Nt T i 0 + ntC N Nt T i 1 + ntC N Nt T i 2 + ntC N Nt T i 3) - (Nt 0 + Nt 1 + Nt 2 + Nt 3)) + (2 * N 0 + i)) (40 * ((ntC N Nt T i 0 + ntC N Nt T i 1 + ntC N Nt T i 2 + ntC N Nt T i 3) - (Nt 0 + Nt 1 + Nt 2 + Nt 3)) + 6 * (2 * N 0 + i)) (MQ below (va_Ql (fun r M' => r = dgQ N T tr tr2 now price money ∧ DW G M M' xa rx h2 h3 t h0 Y N T tr now price money r3 t2 (ntC N Nt T (N 1)) tr2) (gB G) (gA G)) [.ref xa].toArray s mc ms (gA G)) (F0 m 123 ls []) := by
    intro n
    induction n with
    | zero => intro i h1 h2; omega
    | succ n ih =>
      intro i g1 g2 M5 H locs ls d ed hD hM hl
      have hD9 := hD
      obtain ⟨ho5, hL5, ⟨f5, hf5⟩, ⟨Y5, T5, n5, p5, m5, hT5⟩, -⟩ := hD9
      have b0 := ntC_b (T := T) (k := 0) (by decide) k0.1 i
      have m0 := ntC_m (T := T) (k := 0) (i := i) (j := N 1) (by decide) k0.1 g1
      have b1 := ntC_b (T := T) (k := 1) (by decide) k1.1 i
      have m1 := ntC_m (T := T) (k := 1) (i := i) (j := N 1) (by decide) k1.1 g1
      have b2 := ntC_b (T := T) (k := 2) (by decide) k2.1 i
      have m2 := ntC_m (T := T) (k := 2) (i := i) (j := N 1) (by decide) k2.1 g1
      have b3 := ntC_b (T := T) (k := 3) (by decide) k3.1 i
      have m3 := ntC_m (T := T) (k := 3) (i := i) (j := N 1) (by decide) k3.1 g1
      refine lv_iload_n hx hb dX6_digest_123 rfl (lv_at hl 0 rfl) ?_
      refine lv_aload_n hx hb dX6_digest_124 rfl (lv_at hl 2 rfl) ?_
      refine fg_X6_12 hx hb hts hown hK hM ho5 dX6_digest_125 ?_
      refine fg_X6_82 hx hb hts hown hK hM hL5.1 dX6_digest_128 ?_
      refine g_callVi (n9 := 0) (As := []) (rest := [.int (nI i)]) hx hb hml hl.1 hown hts hK hM (c_Jx4a65c_size_8abf5 l G _ (Y.1 1) t _ _ _ ((hL5.2.1 1 (by decide)).1)) wm_X6_50 wi_Jx4a65c_size_8abf5 wl_Jx4a65c_size_8abf5 wn_Jx4a65c wc_Jx4a65c_size_8abf5 (by decide +kernel) (hM.recv hK (ci := 0) rfl ((hL5.2.1 1 (by decide)).1)) ⟨Nat.le_of_ble_eq_true rfl, Nat.le_of_ble_eq_true rfl⟩ ⟨by show _ ≤ mc; omega, by show _ ≤ ms; omega⟩ rfl (Nat.le_of_ble_eq_true rfl) rfl dX6_digest_131 (fun r_131 Mz H locs hq hM => ?_)
      have hq1 := hq.1.symm
      have hq2 := hq.2.symm
      subst hq1 hq2
      refine lv_icmp_ge (tgt := 193) hx hb dX6_digest_134 (by decide) (fun c6 => ?_) (fun c6 => ?_)
      · have hi : i = N 1 := by
          have := (nI_leI (a := N 1) (b := i) (by omega) (by omega)).mp c6
          omega
        rw [hi] at ed
        try rw [hi] at hD
        refine lv_iconst (v := (0 : Int32)) hx hb dX6_digest_193 (by decide) ?_
        refine lv_istore_n (lv' := [(3, .int (0 : Int32)), (1, .long d), (0, .ref xa)]) hx hb dX6_digest_194 rfl hl (by decide) rfl (fun ls hl => ?_)
        refine W.cst (cells' := mc) (slots' := ms) (by rw [emc, hi]; rfl) (by rw [ems, hi]; rfl) ?_
        exact L195 (N 2 + 1) 0 (Nat.zero_le _) (by omega) _ _ _ _ _ (by rw [dgB_0, dg3_e]; exact ed) hD hM (lv_sub hl [0, 1, 2] rfl)
      · have hi : i < N 1 := by
          rcases Nat.lt_or_ge i (N 1) with z | z
          · exact z
          · exact absurd (nI_le z (by omega)) c6
        refine lv_iconst (v := (0 : Int32)) hx hb dX6_digest_137 (by decide) ?_
        refine lv_istore (lv' := [(4, .int (0 : Int32)), (3, .int (nI i)), (1, .long d), (0, .ref xa)]) hx hb dX6_digest_138 hl (by decide) rfl (fun ls hl => ?_)
        have S1e : (ntC N Nt T (i + 1) 0 + ntC N Nt T (i + 1) 1 + ntC N Nt T (i + 1) 2 + ntC N Nt T (i + 1) 3) = (ntC N Nt T (i + 1) 0 + ntC N Nt T (i + 1) 1 + ntC N Nt T (i + 1) 2 + ntC N Nt T (i + 1) 3) := rfl
        have b10 := ntC_b (T := T) (k := 0) (by decide) k0.1 (i + 1)
        have m10 := ntC_m (T := T) (k := 0) (i := i + 1) (j := N 1) (by decide) k0.1 hi
        have o10 := ntC_m (T := T) (k := 0) (i := i) (j := i + 1) (by decide) k0.1 (Nat.le_succ i)
        have b11 := ntC_b (T := T) (k := 1) (by decide) k1.1 (i + 1)
        have m11 := ntC_m (T := T) (k := 1) (i := i + 1) (j := N 1) (by decide) k1.1 hi
        have o11 := ntC_m (T := T) (k := 1) (i := i) (j := i + 1) (by decide) k1.1 (Nat.le_succ i)
        have b12 := ntC_b (T := T) (k := 2) (by decide) k2.1 (i + 1)
        have m12 := ntC_m (T := T) (k := 2) (i := i + 1) (j := N 1) (by decide) k2.1 hi
        have o12 := ntC_m (T := T) (k := 2) (i := i) (j := i + 1) (by decide) k2.1 (Nat.le_succ i)
        have b13 := ntC_b (T := T) (k := 3) (by decide) k3.1 (i + 1)
        have m13 := ntC_m (T := T) (k := 3) (i := i + 1) (j := N 1) (by decide) k3.1 hi
        have o13 := ntC_m (T := T) (k := 3) (i := i) (j := i + 1) (by decide) k3.1 (Nat.le_succ i)
        have L140 : ∀ (n j : Nat), j ≤ 8 → 8 - j < n → ∀ (M5 : HM) (H : Heap) (locs : List Loc) (ls : Array Slot) (dd : Int64), dd = dgA (fun j => qv_X6_ofCombine N T tr now price money (nI i) (nI j)) d j → DW G M M5 xa rx h2 h3 t h0 Y N T tr now price money r3 t2 (ntC N Nt T i) tr2 → Wd G M5 s H locs → lv_has ls 5 [(4, .int (nI j)), (3, .int (nI i)), (1, .long dd), (0, .ref xa)] → W p l e ({ frames := 13, cells := mc, slots := ms, locals := 323 } : Room) s m [.ref xa].toArray below meth c H locs (2 * ((ntC N Nt T i 0 + ntC N Nt T i 1 + ntC N Nt T i 2 + ntC N Nt T i 3) - (Nt 0 + Nt 1 + Nt 2 + Nt 3)) + (2 * N 0 + i)) (40 * ((ntC N Nt T i 0 + ntC N Nt T i 1 + ntC N Nt T i 2 + ntC N Nt T i 3) - (Nt 0 + Nt 1 + Nt 2 + Nt 3)) + 6 * (2 * N 0 + i)) (MQ below (va_Ql (fun r M' => r = dgQ N T tr tr2 now price money ∧ DW G M M' xa rx h2 h3 t h0 Y N T tr now price money r3 t2 (ntC N Nt T (N 1)) tr2) (gB G) (gA G)) [.ref xa].toArray s mc ms (gA G)) (F0 m 140 ls []) := by
          intro n
          induction n with
          | zero => intro j h1 h2; omega
          | succ n ihj =>
            intro j g1 g2 M5 H locs ls dd edd hD hM hl
            have hD9 := hD
            obtain ⟨ho5, hL5, ⟨f5, hf5⟩, ⟨Y5, T5, n5, p5, m5, hT5⟩, -⟩ := hD9
            refine lv_iload hx hb dX6_digest_140 (lv_at hl 0 rfl) ?_
            refine lv_bipush (v := (7 : Int32)) hx hb dX6_digest_142 (by decide) ?_
            refine lv_icmp_gt (tgt := 168) hx hb dX6_digest_144 (by decide) (fun c7 => ?_) (fun c7 => ?_)
            · have hj : j = 8 := by
                have := (nI_ltI (a := 7) (b := j) (by decide) (by omega)).mp c7
                omega
              rw [hj] at edd
              refine lv_lload_n hx hb dX6_digest_168 rfl (lv_at hl 2 rfl) ?_
              refine lv_ldc2 (v := 31) hx hb hown (hts _ wq_X6_348) dX6_digest_169 ?_
              refine lv_lmul hx hb dX6_digest_172 ?_
              refine lv_aload_n hx hb dX6_digest_173 rfl (lv_at hl 3 rfl) ?_
              refine lv_iload_n hx hb dX6_digest_174 rfl (lv_at hl 1 rfl) ?_
              refine lv_bipush (v := (12 : Int32)) hx hb dX6_digest_175 (by decide) ?_
              refine lv_bipush (v := (30 : Int32)) hx hb dX6_digest_177 (by decide) ?_
              refine lv_bipush (v := (40 : Int32)) hx hb dX6_digest_179 (by decide) ?_
              have kz : kc_X6_nextField N T tr now price money (nI i) (12 : Int32) (30 : Int32) (40 : Int32) = 0 := by unfold kc_X6_nextField; rw [if_neg (ixR_nn (by omega) hi), if_pos (by decide)]
              refine g_callXi (n9 := 4) (As := [.int (nI i), .int (12 : Int32), .int (30 : Int32), .int (40 : Int32)]) (rest := [.long (dd * 31)]) hx hb hml hl.1 hown hts hK hX hM (c_X6_nextField l hst G _ xa rx h2 h3 t h0 Y N T tr now price money (nI i) (12 : Int32) (30 : Int32) (40 : Int32) ho5 dxt hL5 t2 Y5 ((ntC N Nt T i)) T5 tr2 n5 p5 m5 dx2 hT5 dt2 ⟨b0.2, k0.2⟩ ⟨b1.2, k1.2⟩ ⟨b2.2, k2.2⟩ ⟨b3.2, k3.2⟩ (ntC_4 h4 _) hB htr) wm_X6_366 wi_X6_nextField wl_X6_nextField wn_X6 wc_X6_nextField (by decide +kernel) (hM.recv hK (ci := 7) rfl ho5) ⟨Nat.le_of_ble_eq_true rfl, Nat.le_of_ble_eq_true rfl⟩ ⟨by show _ + (2 * ((ntC N Nt T (i + 1) 0 + ntC N Nt T (i + 1) 1 + ntC N Nt T (i + 1) 2 + ntC N Nt T (i + 1) 3) - (ntC N Nt T i 0 + ntC N Nt T i 1 + ntC N Nt T i 2 + ntC N Nt T i 3)) + 1) ≤ mc; omega, by show _ + (40 * ((ntC N Nt T (i + 1) 0 + ntC N Nt T (i + 1) 1 + ntC N Nt T (i + 1) 2 + ntC N Nt T (i + 1) 3) - (ntC N Nt T i 0 + ntC N Nt T i 1 + ntC N Nt T i 2 + ntC N Nt T i 3)) + 6) ≤ ms; omega⟩ rfl (Nat.le_of_ble_eq_true rfl) rfl dX6_digest_181 (fun E0 ce q9 H1 locs1 hE _ _ _ _ => (EX_0 (by rw [kz] at hE; exact hE)).elim) (fun r_181 M6 H locs hq hM => ?_)
              obtain ⟨-, er, hq2⟩ := hq
              subst er
              have hD6 := hD.trial dx2 dt2 d32 hq2
              refine W.cst (cells' := (2 * ((ntC N Nt T (i + 1) 0 + ntC N Nt T (i + 1) 1 + ntC N Nt T (i + 1) 2 + ntC N Nt T (i + 1) 3) - (Nt 0 + Nt 1 + Nt 2 + Nt 3)) + (2 * N 0 + (i + 1)))) (slots' := (40 * ((ntC N Nt T (i + 1) 0 + ntC N Nt T (i + 1) 1 + ntC N Nt T (i + 1) 2 + ntC N Nt T (i + 1) 3) - (Nt 0 + Nt 1 + Nt 2 + Nt 3)) + 6 * (2 * N 0 + (i + 1)))) (by show (2 * ((ntC N Nt T i 0 + ntC N Nt T i 1 + ntC N Nt T i 2 + ntC N Nt T i 3) - (Nt 0 + Nt 1 + Nt 2 + Nt 3)) + (2 * N 0 + i)) + (2 * ((ntC N Nt T (i + 1) 0 + ntC N Nt T (i + 1) 1 + ntC N Nt T (i + 1) 2 + ntC N Nt T (i + 1) 3) - (ntC N Nt T i 0 + ntC N Nt T i 1 + ntC N Nt T i 2 + ntC N Nt T i 3)) + 1) = _; omega) (by show (40 * ((ntC N Nt T i 0 + ntC N Nt T i 1 + ntC N Nt T i 2 + ntC N Nt T i 3) - (Nt 0 + Nt 1 + Nt 2 + Nt 3)) + 6 * (2 * N 0 + i)) + (40 * ((ntC N Nt T (i + 1) 0 + ntC N Nt T (i + 1) 1 + ntC N Nt T (i + 1) 2 + ntC N Nt T (i + 1) 3) - (ntC N Nt T i 0 + ntC N Nt T i 1 + ntC N Nt T i 2 + ntC N Nt T i 3)) + 6) = _; omega) ?_
              refine lv_i2l (v := ((nfP N T tr2 now price money (nI i) 12 30 40 (N 0)).1).toInt64) hx hb dX6_digest_184 rfl ?_
              refine lv_ladd hx hb dX6_digest_185 ?_
              refine lv_lstore_n (lv' := [(1, .long ((dd * 31) + ((nfP N T tr2 now price money (nI i) 12 30 40 (N 0)).1).toInt64)), (4, .int (nI j)), (3, .int (nI i)), (0, .ref xa)]) hx hb dX6_digest_186 rfl hl (by decide) rfl (fun ls hl => ?_)
              refine lv_iinc (v := (nI (i + 1))) (lv' := [(3, .int (nI (i + 1))), (1, .long ((dd * 31) + ((nfP N T tr2 now price money (nI i) 12 30 40 (N 0)).1).toInt64)), (4, .int (nI j)), (0, .ref xa)]) hx hb dX6_digest_187 hl (k := 2) rfl (nI_1 i) (by decide) rfl (fun ls hl => ?_)
              refine lv_goto (tgt := 123) hx hb dX6_digest_190 (by decide) ?_
              exact ih (i + 1) (by omega) (by omega) _ _ _ _ _ (by rw [dgB_s, ← ed]; unfold dgC; rw [← edd]; rfl) hD6 hM (lv_sub hl [0, 1, 3] rfl)
            · have hj : j ≤ 7 := by
                rcases Nat.lt_or_ge 7 j with z | z
                · exact absurd (nI_lt z (by omega)) c7
                · exact z
              refine lv_lload_n hx hb dX6_digest_147 rfl (lv_at hl 2 rfl) ?_
              refine lv_ldc2 (v := 31) hx hb hown (hts _ wq_X6_348) dX6_digest_148 ?_
              refine lv_lmul hx hb dX6_digest_151 ?_
              refine lv_aload_n hx hb dX6_digest_152 rfl (lv_at hl 3 rfl) ?_
              refine lv_iload_n hx hb dX6_digest_153 rfl (lv_at hl 1 rfl) ?_
              refine lv_iload hx hb dX6_digest_154 (lv_at hl 0 rfl) ?_
              have kz : kc_X6_ofCombine N T tr now price money (nI i) (nI j) = 0 := by unfold kc_X6_ofCombine; rw [if_neg (ixR_nn (by omega) hi), if_pos (show t_X6_isOutside_0 (nI j) (0 : Int32) (7 : Int32) = 0 from out_n (n := 7) hj (by decide))]
              refine g_callXi (n9 := 2) (As := [.int (nI i), .int (nI j)]) (rest := [.long (dd * 31)]) hx hb hml hl.1 hown hts hK hX hM (c_X6_ofCombine l hst G _ xa rx h2 h3 t h0 Y N T tr now price money (nI i) (nI j) ho5 dxt hL5 ) wm_X6_363 wi_X6_ofCombine wl_X6_ofCombine wn_X6 wc_X6_ofCombine (by decide +kernel) (hM.recv hK (ci := 7) rfl ho5) ⟨Nat.le_of_ble_eq_true rfl, Nat.le_of_ble_eq_true rfl⟩ ⟨by show _ + xc (kc_X6_ofCombine N T tr now price money (nI i) (nI j)) ≤ mc; rw [kz]; show _ + 0 ≤ mc; omega, by show _ + 6 * xc (kc_X6_ofCombine N T tr now price money (nI i) (nI j)) ≤ ms; rw [kz]; show _ + 0 ≤ ms; omega⟩ rfl (Nat.le_of_ble_eq_true rfl) rfl dX6_digest_156 (fun E0 ce q9 H1 locs1 hE _ _ _ _ => (EX_0 (by rw [kz] at hE; exact hE)).elim) (fun r_156 M6 H locs hq hM => ?_)
              obtain ⟨-, er, hq2⟩ := hq
              subst er
              replace hq2 := hq2.symm
              subst hq2
              refine W.cst (cells' := (2 * ((ntC N Nt T i 0 + ntC N Nt T i 1 + ntC N Nt T i 2 + ntC N Nt T i 3) - (Nt 0 + Nt 1 + Nt 2 + Nt 3)) + (2 * N 0 + i))) (slots' := (40 * ((ntC N Nt T i 0 + ntC N Nt T i 1 + ntC N Nt T i 2 + ntC N Nt T i 3) - (Nt 0 + Nt 1 + Nt 2 + Nt 3)) + 6 * (2 * N 0 + i))) (by show _ + xc (kc_X6_ofCombine N T tr now price money (nI i) (nI j)) = _; rw [kz]; rfl) (by show _ + 6 * xc (kc_X6_ofCombine N T tr now price money (nI i) (nI j)) = _; rw [kz]; rfl) ?_
              refine lv_i2l (v := (qv_X6_ofCombine N T tr now price money (nI i) (nI j)).toInt64) hx hb dX6_digest_159 rfl ?_
              refine lv_ladd hx hb dX6_digest_160 ?_
              refine lv_lstore_n (lv' := [(1, .long ((dd * 31) + (qv_X6_ofCombine N T tr now price money (nI i) (nI j)).toInt64)), (4, .int (nI j)), (3, .int (nI i)), (0, .ref xa)]) hx hb dX6_digest_161 rfl hl (by decide) rfl (fun ls hl => ?_)
              refine lv_iinc (v := (nI (j + 1))) (lv' := [(4, .int (nI (j + 1))), (1, .long ((dd * 31) + (qv_X6_ofCombine N T tr now price money (nI i) (nI j)).toInt64)), (3, .int (nI i)), (0, .ref xa)]) hx hb dX6_digest_162 hl (k := 1) rfl (nI_1 j) (by decide) rfl (fun ls hl => ?_)
              refine lv_goto (tgt := 140) hx hb dX6_digest_165 (by decide) ?_
              exact ihj (j + 1) (by omega) (by omega) _ _ _ _ _ (by rw [dgA_s, ← edd]; rfl) hD hM (lv_sub hl [0, 2, 1, 3] rfl)
        exact L140 9 0 (Nat.zero_le _) (by omega) _ _ _ _ _ dgA_0.symm hD hM (lv_sub hl [0, 1, 2, 3] rfl)
  have L33 : ∀ (n i : Nat), i ≤ N 0 → N 0 - i < n → ∀ (M5 : HM) (H : Heap) (locs : List Loc) (ls : Array Slot) (d : Int64), d = dgB (dgF N T tr now price money) (dg1 N T tr now price money) i → DW G M M5 xa rx h2 h3 t h0 Y N T tr now price money r3 t2 Nt tr2 → Wd G M5 s H locs → lv_has ls 5 [(3, .int (nI i)), (1, .long d), (0, .ref xa)] → W p l e ({ frames := 13, cells := mc, slots := ms, locals := 323 } : Room) s m [.ref xa].toArray below meth c H locs (2 * i) (6 * (2 * i)) (MQ below (va_Ql (fun r M' => r = dgQ N T tr tr2 now price money ∧ DW G M M' xa rx h2 h3 t h0 Y N T tr now price money r3 t2 (ntC N Nt T (N 1)) tr2) (gB G) (gA G)) [.ref xa].toArray s mc ms (gA G)) (F0 m 33 ls []) := by
    intro n
    induction n with
    | zero => intro i h1 h2; omega
    | succ n ih =>
      intro i g1 g2 M5 H locs ls d ed hD hM hl
      have hD9 := hD
      obtain ⟨ho5, hL5, ⟨f5, hf5⟩, ⟨Y5, T5, n5, p5, m5, hT5⟩, -⟩ := hD9
      refine lv_iload_n hx hb dX6_digest_33 rfl (lv_at hl 0 rfl) ?_
      refine lv_aload_n hx hb dX6_digest_34 rfl (lv_at hl 2 rfl) ?_
      refine fg_X6_12 hx hb hts hown hK hM ho5 dX6_digest_35 ?_
      refine fg_X6_46 hx hb hts hown hK hM hL5.1 dX6_digest_38 ?_
      refine g_callVi (n9 := 0) (As := []) (rest := [.int (nI i)]) hx hb hml hl.1 hown hts hK hM (c_Jx4a65c_size_8abf5 l G _ (Y.1 0) t _ _ _ ((hL5.2.1 0 (by decide)).1)) wm_X6_50 wi_Jx4a65c_size_8abf5 wl_Jx4a65c_size_8abf5 wn_Jx4a65c wc_Jx4a65c_size_8abf5 (by decide +kernel) (hM.recv hK (ci := 0) rfl ((hL5.2.1 0 (by decide)).1)) ⟨Nat.le_of_ble_eq_true rfl, Nat.le_of_ble_eq_true rfl⟩ ⟨by show _ ≤ mc; omega, by show _ ≤ ms; omega⟩ rfl (Nat.le_of_ble_eq_true rfl) rfl dX6_digest_41 (fun r_41 Mz H locs hq hM => ?_)
      have hq1 := hq.1.symm
      have hq2 := hq.2.symm
      subst hq1 hq2
      refine lv_icmp_ge (tgt := 121) hx hb dX6_digest_44 (by decide) (fun c8 => ?_) (fun c8 => ?_)
      · have hi : i = N 0 := by
          have := (nI_leI (a := N 0) (b := i) (by omega) (by omega)).mp c8
          omega
        rw [hi] at ed
        try rw [hi] at hD
        refine lv_iconst (v := (0 : Int32)) hx hb dX6_digest_121 (by decide) ?_
        refine lv_istore_n (lv' := [(3, .int (0 : Int32)), (1, .long d), (0, .ref xa)]) hx hb dX6_digest_122 rfl hl (by decide) rfl (fun ls hl => ?_)
        refine W.cst (cells' := (2 * ((ntC N Nt T 0 0 + ntC N Nt T 0 1 + ntC N Nt T 0 2 + ntC N Nt T 0 3) - (Nt 0 + Nt 1 + Nt 2 + Nt 3)) + (2 * N 0 + 0))) (slots' := (40 * ((ntC N Nt T 0 0 + ntC N Nt T 0 1 + ntC N Nt T 0 2 + ntC N Nt T 0 3) - (Nt 0 + Nt 1 + Nt 2 + Nt 3)) + 6 * (2 * N 0 + 0))) (by show _ = 2 * ((Nt 0 + Nt 1 + Nt 2 + Nt 3) - (Nt 0 + Nt 1 + Nt 2 + Nt 3)) + (2 * N 0 + 0); omega) (by show _ = 40 * ((Nt 0 + Nt 1 + Nt 2 + Nt 3) - (Nt 0 + Nt 1 + Nt 2 + Nt 3)) + 6 * (2 * N 0 + 0); omega) ?_
        exact L123 (N 1 + 1) 0 (Nat.zero_le _) (by omega) _ _ _ _ _ (by rw [dgB_0, dg2_e]; exact ed) hD hM (lv_sub hl [0, 1, 2] rfl)
      · have hi : i < N 0 := by
          rcases Nat.lt_or_ge i (N 0) with z | z
          · exact z
          · exact absurd (nI_le z (by omega)) c8
        refine lv_iconst (v := (0 : Int32)) hx hb dX6_digest_47 (by decide) ?_
        refine lv_istore (lv' := [(4, .int (0 : Int32)), (3, .int (nI i)), (1, .long d), (0, .ref xa)]) hx hb dX6_digest_48 hl (by decide) rfl (fun ls hl => ?_)
        have L50 : ∀ (n j : Nat), j ≤ 12 → 12 - j < n → ∀ (M5 : HM) (H : Heap) (locs : List Loc) (ls : Array Slot) (dd : Int64), dd = dgA (fun j => qv_X6_ofField N T tr now price money (nI i) (nI j)) d j → DW G M M5 xa rx h2 h3 t h0 Y N T tr now price money r3 t2 Nt tr2 → Wd G M5 s H locs → lv_has ls 5 [(4, .int (nI j)), (3, .int (nI i)), (1, .long dd), (0, .ref xa)] → W p l e ({ frames := 13, cells := mc, slots := ms, locals := 323 } : Room) s m [.ref xa].toArray below meth c H locs (2 * i) (6 * (2 * i)) (MQ below (va_Ql (fun r M' => r = dgQ N T tr tr2 now price money ∧ DW G M M' xa rx h2 h3 t h0 Y N T tr now price money r3 t2 (ntC N Nt T (N 1)) tr2) (gB G) (gA G)) [.ref xa].toArray s mc ms (gA G)) (F0 m 50 ls []) := by
          intro n
          induction n with
          | zero => intro j h1 h2; omega
          | succ n ihj =>
            intro j g1 g2 M5 H locs ls dd edd hD hM hl
            have hD9 := hD
            obtain ⟨ho5, hL5, ⟨f5, hf5⟩, ⟨Y5, T5, n5, p5, m5, hT5⟩, -⟩ := hD9
            refine lv_iload hx hb dX6_digest_50 (lv_at hl 0 rfl) ?_
            refine lv_bipush (v := (11 : Int32)) hx hb dX6_digest_52 (by decide) ?_
            refine lv_icmp_gt (tgt := 78) hx hb dX6_digest_54 (by decide) (fun c9 => ?_) (fun c9 => ?_)
            · have hj : j = 12 := by
                have := (nI_ltI (a := 11) (b := j) (by decide) (by omega)).mp c9
                omega
              rw [hj] at edd
              refine lv_lload_n hx hb dX6_digest_78 rfl (lv_at hl 2 rfl) ?_
              refine lv_ldc2 (v := 31) hx hb hown (hts _ wq_X6_348) dX6_digest_79 ?_
              refine lv_lmul hx hb dX6_digest_82 ?_
              refine lv_aload_n hx hb dX6_digest_83 rfl (lv_at hl 3 rfl) ?_
              refine lv_iload_n hx hb dX6_digest_84 rfl (lv_at hl 1 rfl) ?_
              refine lv_bipush (v := (25 : Int32)) hx hb dX6_digest_85 (by decide) ?_
              refine lv_bipush (v := (40 : Int32)) hx hb dX6_digest_87 (by decide) ?_
              have kz : kc_X6_readyIn N T tr now price money (nI i) (25 : Int32) (40 : Int32) = 0 := by unfold kc_X6_readyIn; rw [if_neg (ixR_nn (by omega) hi), if_pos (by decide)]
              refine g_callXi (n9 := 3) (As := [.int (nI i), .int (25 : Int32), .int (40 : Int32)]) (rest := [.long (dd * 31)]) hx hb hml hl.1 hown hts hK hX hM (c_X6_readyIn l hst G _ xa rx h2 h3 t h0 Y N T tr now price money (nI i) (25 : Int32) (40 : Int32) ho5 dxt hL5 r3 f5 hf5 dt3) wm_X6_356 wi_X6_readyIn wl_X6_readyIn wn_X6 wc_X6_readyIn (by decide +kernel) (hM.recv hK (ci := 7) rfl ho5) ⟨Nat.le_of_ble_eq_true rfl, Nat.le_of_ble_eq_true rfl⟩ ⟨by show _ + 1 ≤ mc; omega, by show _ + 6 ≤ ms; omega⟩ rfl (Nat.le_of_ble_eq_true rfl) rfl dX6_digest_89 (fun E0 ce q9 H1 locs1 hE _ _ _ _ => (EX_0 (by rw [kz] at hE; exact hE)).elim) (fun r_89 M6 H locs hq hM => ?_)
              obtain ⟨-, er, hq2⟩ := hq
              subst er
              replace hD := hD.h3 dx3 dt3 d23 hq2
              refine W.cst (cells' := 2 * i + 1) (slots' := 6 * (2 * i) + 6) (by omega) (by omega) ?_
              have hD9 := hD
              obtain ⟨ho5, hL5, ⟨f5, hf5⟩, ⟨Y5, T5, n5, p5, m5, hT5⟩, -⟩ := hD9
              have ei := ix_n (i := i) (by omega)
              refine lv_i2l (v := (rdQ now (25 : Int32) (40 : Int32) (T 0 (ix (nI i)))).toInt64) hx hb dX6_digest_92 rfl ?_
              refine lv_ladd hx hb dX6_digest_93 ?_
              refine lv_lstore_n (lv' := [(1, .long ((dd * 31) + (rdQ now (25 : Int32) (40 : Int32) (T 0 (ix (nI i)))).toInt64)), (4, .int (nI j)), (3, .int (nI i)), (0, .ref xa)]) hx hb dX6_digest_94 rfl hl (by decide) rfl (fun ls hl => ?_)
              refine lv_lload_n hx hb dX6_digest_95 rfl (lv_at hl 0 rfl) ?_
              refine lv_ldc2 (v := 31) hx hb hown (hts _ wq_X6_348) dX6_digest_96 ?_
              refine lv_lmul hx hb dX6_digest_99 ?_
              refine lv_aload_n hx hb dX6_digest_100 rfl (lv_at hl 3 rfl) ?_
              refine lv_iload_n hx hb dX6_digest_101 rfl (lv_at hl 2 rfl) ?_
              refine lv_bipush (v := (24 : Int32)) hx hb dX6_digest_102 (by decide) ?_
              refine lv_bipush (v := (30 : Int32)) hx hb dX6_digest_104 (by decide) ?_
              refine lv_bipush (v := (20 : Int32)) hx hb dX6_digest_106 (by decide) ?_
              refine lv_iconst (v := (0 : Int32)) hx hb dX6_digest_108 (by decide) ?_
              have kz : kc_X6_waiting N T tr now price money (nI i) (24 : Int32) (30 : Int32) (20 : Int32) (0 : Int32) = 0 := by unfold kc_X6_waiting; rw [if_neg (ixR_nn (by omega) hi), if_pos (by decide)]
              refine g_callXi (n9 := 5) (As := [.int (nI i), .int (24 : Int32), .int (30 : Int32), .int (20 : Int32), .int (0 : Int32)]) (rest := [.long (((dd * 31) + (rdQ now (25 : Int32) (40 : Int32) (T 0 (ix (nI i)))).toInt64) * 31)]) hx hb hml hl.1 hown hts hK hX hM (c_X6_waiting l hst G _ xa rx h2 h3 t h0 Y N T tr now price money (nI i) (24 : Int32) (30 : Int32) (20 : Int32) (0 : Int32) ho5 dxt hL5 r3 f5 hf5 dt3) wm_X6_360 wi_X6_waiting wl_X6_waiting wn_X6 wc_X6_waiting (by decide +kernel) (hM.recv hK (ci := 7) rfl ho5) ⟨Nat.le_of_ble_eq_true rfl, Nat.le_of_ble_eq_true rfl⟩ ⟨by show _ + 1 ≤ mc; omega, by show _ + 6 ≤ ms; omega⟩ rfl (Nat.le_of_ble_eq_true rfl) rfl dX6_digest_109 (fun E0 ce q9 H1 locs1 hE _ _ _ _ => (EX_0 (by rw [kz] at hE; exact hE)).elim) (fun r_109 M6 H locs hq hM => ?_)
              obtain ⟨-, er, hq2⟩ := hq
              subst er
              replace hD := hD.h3 dx3 dt3 d23 hq2
              refine W.cst (cells' := 2 * i + 2) (slots' := 6 * (2 * i) + 12) (by omega) (by omega) ?_
              have hD9 := hD
              obtain ⟨ho5, hL5, ⟨f5, hf5⟩, ⟨Y5, T5, n5, p5, m5, hT5⟩, -⟩ := hD9
              have ei := ix_n (i := i) (by omega)
              refine W.cst (cells' := 2 * (i + 1)) (slots' := 6 * (2 * (i + 1))) (by omega) (by omega) ?_
              refine lv_i2l (v := ((t_X2_uncut_0 ((T 0 (ix (nI i))) 2) ((T 0 (ix (nI i))) 5)) * ((t_X2_brings_0 ((T 0 (ix (nI i))) 3) ((T 0 (ix (nI i))) 8)) - (t_X2_brings_0 (fhP now (30 : Int32) (20 : Int32) (0 : Int32) (ix (24 : Int32)) (T 0 (ix (nI i))) 3) (fhP now (30 : Int32) (20 : Int32) (0 : Int32) (ix (24 : Int32)) (T 0 (ix (nI i))) 8)))).toInt64) hx hb dX6_digest_112 rfl ?_
              refine lv_ladd hx hb dX6_digest_113 ?_
              refine lv_lstore_n (lv' := [(1, .long ((((dd * 31) + (rdQ now (25 : Int32) (40 : Int32) (T 0 (ix (nI i)))).toInt64) * 31) + ((t_X2_uncut_0 ((T 0 (ix (nI i))) 2) ((T 0 (ix (nI i))) 5)) * ((t_X2_brings_0 ((T 0 (ix (nI i))) 3) ((T 0 (ix (nI i))) 8)) - (t_X2_brings_0 (fhP now (30 : Int32) (20 : Int32) (0 : Int32) (ix (24 : Int32)) (T 0 (ix (nI i))) 3) (fhP now (30 : Int32) (20 : Int32) (0 : Int32) (ix (24 : Int32)) (T 0 (ix (nI i))) 8)))).toInt64)), (4, .int (nI j)), (3, .int (nI i)), (0, .ref xa)]) hx hb dX6_digest_114 rfl hl (by decide) rfl (fun ls hl => ?_)
              refine lv_iinc (v := (nI (i + 1))) (lv' := [(3, .int (nI (i + 1))), (1, .long ((((dd * 31) + (rdQ now (25 : Int32) (40 : Int32) (T 0 (ix (nI i)))).toInt64) * 31) + ((t_X2_uncut_0 ((T 0 (ix (nI i))) 2) ((T 0 (ix (nI i))) 5)) * ((t_X2_brings_0 ((T 0 (ix (nI i))) 3) ((T 0 (ix (nI i))) 8)) - (t_X2_brings_0 (fhP now (30 : Int32) (20 : Int32) (0 : Int32) (ix (24 : Int32)) (T 0 (ix (nI i))) 3) (fhP now (30 : Int32) (20 : Int32) (0 : Int32) (ix (24 : Int32)) (T 0 (ix (nI i))) 8)))).toInt64)), (4, .int (nI j)), (0, .ref xa)]) hx hb dX6_digest_115 hl (k := 2) rfl (nI_1 i) (by decide) rfl (fun ls hl => ?_)
              refine lv_goto (tgt := 33) hx hb dX6_digest_118 (by decide) ?_
              rw [ei] at hl
              exact ih (i + 1) (by omega) (by omega) _ _ _ _ _ (by rw [dgB_s, ← ed]; unfold dgF; rw [← edd]; rfl) hD hM (lv_sub hl [0, 1, 3] rfl)
            · have hj : j ≤ 11 := by
                rcases Nat.lt_or_ge 11 j with z | z
                · exact absurd (nI_lt z (by omega)) c9
                · exact z
              refine lv_lload_n hx hb dX6_digest_57 rfl (lv_at hl 2 rfl) ?_
              refine lv_ldc2 (v := 31) hx hb hown (hts _ wq_X6_348) dX6_digest_58 ?_
              refine lv_lmul hx hb dX6_digest_61 ?_
              refine lv_aload_n hx hb dX6_digest_62 rfl (lv_at hl 3 rfl) ?_
              refine lv_iload_n hx hb dX6_digest_63 rfl (lv_at hl 1 rfl) ?_
              refine lv_iload hx hb dX6_digest_64 (lv_at hl 0 rfl) ?_
              have kz : kc_X6_ofField N T tr now price money (nI i) (nI j) = 0 := by unfold kc_X6_ofField; rw [if_neg (ixR_nn (by omega) hi), if_pos (show t_X6_isOutside_0 (nI j) (0 : Int32) (11 : Int32) = 0 from out_n (n := 11) hj (by decide))]
              refine g_callXi (n9 := 2) (As := [.int (nI i), .int (nI j)]) (rest := [.long (dd * 31)]) hx hb hml hl.1 hown hts hK hX hM (c_X6_ofField l hst G _ xa rx h2 h3 t h0 Y N T tr now price money (nI i) (nI j) ho5 dxt hL5 ) wm_X6_353 wi_X6_ofField wl_X6_ofField wn_X6 wc_X6_ofField (by decide +kernel) (hM.recv hK (ci := 7) rfl ho5) ⟨Nat.le_of_ble_eq_true rfl, Nat.le_of_ble_eq_true rfl⟩ ⟨by show _ + xc (kc_X6_ofField N T tr now price money (nI i) (nI j)) ≤ mc; rw [kz]; show _ + 0 ≤ mc; omega, by show _ + 6 * xc (kc_X6_ofField N T tr now price money (nI i) (nI j)) ≤ ms; rw [kz]; show _ + 0 ≤ ms; omega⟩ rfl (Nat.le_of_ble_eq_true rfl) rfl dX6_digest_66 (fun E0 ce q9 H1 locs1 hE _ _ _ _ => (EX_0 (by rw [kz] at hE; exact hE)).elim) (fun r_66 M6 H locs hq hM => ?_)
              obtain ⟨-, er, hq2⟩ := hq
              subst er
              replace hq2 := hq2.symm
              subst hq2
              refine W.cst (cells' := (2 * i)) (slots' := (6 * (2 * i))) (by show _ + xc (kc_X6_ofField N T tr now price money (nI i) (nI j)) = _; rw [kz]; rfl) (by show _ + 6 * xc (kc_X6_ofField N T tr now price money (nI i) (nI j)) = _; rw [kz]; rfl) ?_
              refine lv_i2l (v := (qv_X6_ofField N T tr now price money (nI i) (nI j)).toInt64) hx hb dX6_digest_69 rfl ?_
              refine lv_ladd hx hb dX6_digest_70 ?_
              refine lv_lstore_n (lv' := [(1, .long ((dd * 31) + (qv_X6_ofField N T tr now price money (nI i) (nI j)).toInt64)), (4, .int (nI j)), (3, .int (nI i)), (0, .ref xa)]) hx hb dX6_digest_71 rfl hl (by decide) rfl (fun ls hl => ?_)
              refine lv_iinc (v := (nI (j + 1))) (lv' := [(4, .int (nI (j + 1))), (1, .long ((dd * 31) + (qv_X6_ofField N T tr now price money (nI i) (nI j)).toInt64)), (3, .int (nI i)), (0, .ref xa)]) hx hb dX6_digest_72 hl (k := 1) rfl (nI_1 j) (by decide) rfl (fun ls hl => ?_)
              refine lv_goto (tgt := 50) hx hb dX6_digest_75 (by decide) ?_
              exact ihj (j + 1) (by omega) (by omega) _ _ _ _ _ (by rw [dgA_s, ← edd]; rfl) hD hM (lv_sub hl [0, 2, 1, 3] rfl)
        exact L50 13 0 (Nat.zero_le _) (by omega) _ _ _ _ _ dgA_0.symm hD hM (lv_sub hl [0, 1, 2, 3] rfl)
  have hD9 := hD
  obtain ⟨ho5, hL5, ⟨f5, hf5⟩, ⟨Y5, T5, n5, p5, m5, hT5⟩, -⟩ := hD9
  refine lv_ldc2 (v := 7812) hx hb hown (hts _ wq_X6_346) dX6_digest_0 ?_
  refine lv_lstore_n (lv' := [(1, .long 7812), (0, .ref xa)]) hx hb dX6_digest_3 rfl hl (by decide) rfl (fun ls hl => ?_)
  refine lv_iconst (v := (0 : Int32)) hx hb dX6_digest_4 (by decide) ?_
  refine lv_istore_n (lv' := [(3, .int (0 : Int32)), (1, .long 7812), (0, .ref xa)]) hx hb dX6_digest_5 rfl hl (by decide) rfl (fun ls hl => ?_)
  have L6 : ∀ (n j : Nat), j ≤ 13 → 13 - j < n → ∀ (M5 : HM) (H : Heap) (locs : List Loc) (ls : Array Slot) (dd : Int64), dd = dgA (fun j => qv_X6_many N T tr now price money (nI j)) 7812 j → DW G M M5 xa rx h2 h3 t h0 Y N T tr now price money r3 t2 Nt tr2 → Wd G M5 s H locs → lv_has ls 5 [(3, .int (nI j)), (1, .long dd), (0, .ref xa)] → W p l e ({ frames := 13, cells := mc, slots := ms, locals := 323 } : Room) s m [.ref xa].toArray below meth c H locs 0 0 (MQ below (va_Ql (fun r M' => r = dgQ N T tr tr2 now price money ∧ DW G M M' xa rx h2 h3 t h0 Y N T tr now price money r3 t2 (ntC N Nt T (N 1)) tr2) (gB G) (gA G)) [.ref xa].toArray s mc ms (gA G)) (F0 m 6 ls []) := by
    intro n
    induction n with
    | zero => intro j h1 h2; omega
    | succ n ihj =>
      intro j g1 g2 M5 H locs ls dd edd hD hM hl
      have hD9 := hD
      obtain ⟨ho5, hL5, ⟨f5, hf5⟩, ⟨Y5, T5, n5, p5, m5, hT5⟩, -⟩ := hD9
      refine lv_iload_n hx hb dX6_digest_6 rfl (lv_at hl 0 rfl) ?_
      refine lv_bipush (v := (12 : Int32)) hx hb dX6_digest_7 (by decide) ?_
      refine lv_icmp_gt (tgt := 31) hx hb dX6_digest_9 (by decide) (fun c10 => ?_) (fun c10 => ?_)
      · have hj : j = 13 := by
          have := (nI_ltI (a := 12) (b := j) (by decide) (by omega)).mp c10
          omega
        rw [hj] at edd
        refine lv_iconst (v := (0 : Int32)) hx hb dX6_digest_31 (by decide) ?_
        refine lv_istore_n (lv' := [(3, .int (0 : Int32)), (1, .long dd), (0, .ref xa)]) hx hb dX6_digest_32 rfl hl (by decide) rfl (fun ls hl => ?_)
        refine W.cst (cells' := 2 * 0) (slots' := 6 * (2 * 0)) (by omega) (by omega) ?_
        exact L33 (N 0 + 1) 0 (Nat.zero_le _) (by omega) _ _ _ _ _ (by rw [dgB_0, dg1_e]; exact edd) hD hM (lv_sub hl [0, 1, 2] rfl)
      · have hj : j ≤ 12 := by
          rcases Nat.lt_or_ge 12 j with z | z
          · exact absurd (nI_lt z (by omega)) c10
          · exact z
        refine lv_lload_n hx hb dX6_digest_12 rfl (lv_at hl 1 rfl) ?_
        refine lv_ldc2 (v := 31) hx hb hown (hts _ wq_X6_348) dX6_digest_13 ?_
        refine lv_lmul hx hb dX6_digest_16 ?_
        refine lv_aload_n hx hb dX6_digest_17 rfl (lv_at hl 2 rfl) ?_
        refine lv_iload_n hx hb dX6_digest_18 rfl (lv_at hl 0 rfl) ?_
        have kz : kc_X6_many N T tr now price money (nI j) = 0 := by unfold kc_X6_many; rw [if_pos (show t_X6_isOutside_0 (nI j) (0 : Int32) (12 : Int32) = 0 from out_n (n := 12) hj (by decide))]
        refine g_callXi (n9 := 1) (As := [.int (nI j)]) (rest := [.long (dd * 31)]) hx hb hml hl.1 hown hts hK hX hM (c_X6_many l hst G _ xa rx h2 h3 t h0 Y N T tr now price money (nI j) ho5 dxt hL5 ) wm_X6_350 wi_X6_many wl_X6_many wn_X6 wc_X6_many (by decide +kernel) (hM.recv hK (ci := 7) rfl ho5) ⟨Nat.le_of_ble_eq_true rfl, Nat.le_of_ble_eq_true rfl⟩ ⟨by show _ + xc (kc_X6_many N T tr now price money (nI j)) ≤ mc; rw [kz]; show _ + 0 ≤ mc; omega, by show _ + 6 * xc (kc_X6_many N T tr now price money (nI j)) ≤ ms; rw [kz]; show _ + 0 ≤ ms; omega⟩ rfl (Nat.le_of_ble_eq_true rfl) rfl dX6_digest_19 (fun E0 ce q9 H1 locs1 hE _ _ _ _ => (EX_0 (by rw [kz] at hE; exact hE)).elim) (fun r_19 M6 H locs hq hM => ?_)
        obtain ⟨-, er, hq2⟩ := hq
        subst er
        replace hq2 := hq2.symm
        subst hq2
        refine W.cst (cells' := 0) (slots' := 0) (by show _ + xc (kc_X6_many N T tr now price money (nI j)) = _; rw [kz]; rfl) (by show _ + 6 * xc (kc_X6_many N T tr now price money (nI j)) = _; rw [kz]; rfl) ?_
        refine lv_i2l (v := (qv_X6_many N T tr now price money (nI j)).toInt64) hx hb dX6_digest_22 rfl ?_
        refine lv_ladd hx hb dX6_digest_23 ?_
        refine lv_lstore_n (lv' := [(1, .long ((dd * 31) + (qv_X6_many N T tr now price money (nI j)).toInt64)), (3, .int (nI j)), (0, .ref xa)]) hx hb dX6_digest_24 rfl hl (by decide) rfl (fun ls hl => ?_)
        refine lv_iinc (v := (nI (j + 1))) (lv' := [(3, .int (nI (j + 1))), (1, .long ((dd * 31) + (qv_X6_many N T tr now price money (nI j)).toInt64)), (0, .ref xa)]) hx hb dX6_digest_25 hl (k := 1) rfl (nI_1 j) (by decide) rfl (fun ls hl => ?_)
        refine lv_goto (tgt := 6) hx hb dX6_digest_28 (by decide) ?_
        exact ihj (j + 1) (by omega) (by omega) _ _ _ _ _ (by rw [dgA_s, ← edd]; rfl) hD hM (lv_sub hl [0, 1, 2] rfl)
  exact L6 14 0 (Nat.zero_le _) (by omega) _ _ _ _ _ dgA_0.symm hD hM (lv_sub hl [0, 1, 2] rfl)

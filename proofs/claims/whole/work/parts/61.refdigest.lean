theorem ixn_ok {i n : Nat} (h : i < n) (hn : n ≤ 600) : ¬ nI i < 0 ∧ ix (nI i) < n := ⟨nI_pos (by omega), by rw [ix_n (by omega)]; exact h⟩
theorem dgA_0 {q : Nat → Int32} {d : Int64} : dgA q d 0 = d := rfl
theorem dgB_0 {g : Nat → Int64 → Int64} {d : Int64} : dgB g d 0 = d := rfl
theorem dgA_s {q : Nat → Int32} {d : Int64} {n : Nat} : dgA q d (n + 1) = lD (dgA q d n) (q n) := rfl
theorem dgB_s {g : Nat → Int64 → Int64} {d : Int64} {n : Nat} : dgB g d (n + 1) = g n (dgB g d n) := rfl
def rdF (N : Nat → Nat) (U : Tb) (now pr mo : Int32) (F Lx : Row) (i : Nat) (d : Int64) : Int64 := lD (lD (dgA (fun j => q_X8_fieldNow N U now 0 pr mo F Lx (nI i) (nI j)) d 12) (q_X8_readyNow N U now 0 pr mo F Lx (nI i) 25 40)) (q_X8_waitingNow N U now 0 pr mo F Lx (nI i) 24 30 20 0)
def rdC (N : Nat → Nat) (U : Tb) (now pr mo : Int32) (F Lx : Row) (i : Nat) (d : Int64) : Int64 := lD (dgA (fun j => q_X8_combineNow N U now 0 pr mo F Lx (nI i) (nI j)) d 8) (q_X8_nextNow N U now 0 pr mo F Lx (nI i) 12 30 40)
def rdT (N : Nat → Nat) (U : Tb) (now pr mo : Int32) (F Lx : Row) (i : Nat) (d : Int64) : Int64 := dgA (fun j => q_X8_truckNow N U now 0 pr mo F Lx (nI i) (nI j)) d 8
def rdK (U : Tb) (i : Nat) (d : Int64) : Int64 := dgA (fun j => rw7 (U 4 i 0) (U 4 i 1) (U 4 i 2) (U 4 i 3) (U 4 i 4) (U 4 i 5) (U 4 i 6) (ix (nI j))) d 7
def rdO (F Lx : Row) (i : Nat) (d : Int64) : Int64 := lD (lD d (F (ix (nI i)))) (Lx (ix (nI i)))
def rd1 (N : Nat → Nat) (U : Tb) (now pr mo : Int32) (F Lx : Row) : Int64 := dgA (fun j => q_X8_manyNow N U now 0 pr mo F Lx (nI j)) 7812 13
def rd2 (N : Nat → Nat) (U : Tb) (now pr mo : Int32) (F Lx : Row) : Int64 := dgB (rdF N U now pr mo F Lx) (rd1 N U now pr mo F Lx) (N 0)
def rd3 (N : Nat → Nat) (U : Tb) (now pr mo : Int32) (F Lx : Row) : Int64 := dgB (rdC N U now pr mo F Lx) (rd2 N U now pr mo F Lx) (N 1)
def rd4 (N : Nat → Nat) (U : Tb) (now pr mo : Int32) (F Lx : Row) : Int64 := dgB (rdT N U now pr mo F Lx) (rd3 N U now pr mo F Lx) (N 2)
def rd5 (N : Nat → Nat) (U : Tb) (now pr mo : Int32) (F Lx : Row) : Int64 := dgB (rdK U) (rd4 N U now pr mo F Lx) (N 4)
def rdgQ (N : Nat → Nat) (U : Tb) (now pr mo : Int32) (F Lx : Row) : Int64 := dgB (rdO F Lx) (rd5 N U now pr mo F Lx) 4
theorem rd1_e {N : Nat → Nat} {U : Tb} {now pr mo : Int32} {F Lx : Row} : rd1 N U now pr mo F Lx = dgA (fun j => q_X8_manyNow N U now 0 pr mo F Lx (nI j)) 7812 13 := rfl
theorem rd2_e {N : Nat → Nat} {U : Tb} {now pr mo : Int32} {F Lx : Row} : rd2 N U now pr mo F Lx = dgB (rdF N U now pr mo F Lx) (rd1 N U now pr mo F Lx) (N 0) := rfl
theorem rd3_e {N : Nat → Nat} {U : Tb} {now pr mo : Int32} {F Lx : Row} : rd3 N U now pr mo F Lx = dgB (rdC N U now pr mo F Lx) (rd2 N U now pr mo F Lx) (N 1) := rfl
theorem rd4_e {N : Nat → Nat} {U : Tb} {now pr mo : Int32} {F Lx : Row} : rd4 N U now pr mo F Lx = dgB (rdT N U now pr mo F Lx) (rd3 N U now pr mo F Lx) (N 2) := rfl
theorem rd5_e {N : Nat → Nat} {U : Tb} {now pr mo : Int32} {F Lx : Row} : rd5 N U now pr mo F Lx = dgB (rdK U) (rd4 N U now pr mo F Lx) (N 4) := rfl
set_option maxHeartbeats 4000000 in
set_option maxRecDepth 100000 in
theorem c_X8_digest (l : Launch) (G : GG) (M : HM) (tx ma h0 fa lb t t2 : Nat) (Z : LZ) (N : Nat → Nat) (U : Tb) (now th pr mo : Int32) (F Lx : Row) (hO : XdR G M tx ma h0 fa lb th pr mo F Lx) (hL : MdR G M t h0 Z N U now) (d1 : tx ≠ t) (d2 : tx ≠ t2) (d3 : t ≠ t2)  (hTr : ∀ c, c < N 1 → TrOK N U now c 12 30 40) : Ml l yX8_digest (.code yX8_digest cX8_digest 5 (some .long) :: AL) 11 272 1149 11161 [.ref ma] G M (fun r M' => r = rdgQ N U now pr mo F Lx ∧ XP G M M' tx ma h0 fa lb t t2 N U now (0 : Int32) pr mo F Lx) := by
  refine Ml.go (by decide) (Nat.le_of_ble_eq_true rfl) ?_
  intro p e s m below meth c ls hx hb hr hml hown hlocks hname hts hK hM hl
  have hown : s.vm.findClass RX8 = some m.cls := hown
  have hl : lv_has ls 5 [(0, .ref ma)] := hl
  have hn0 := hL.cnt (k := 0) (by decide)
  have hn09 : N 0 ≤ 8 := by have : N 0 ≤ 8 := hn0; omega
  have hn1 := hL.cnt (k := 1) (by decide)
  have hn19 : N 1 ≤ 8 := by have : N 1 ≤ 4 := hn1; omega
  have hn2 := hL.cnt (k := 2) (by decide)
  have hn29 : N 2 ≤ 8 := by have : N 2 ≤ 4 := hn2; omega
  have hn3 := hL.cnt (k := 3) (by decide)
  have hn39 : N 3 ≤ 8 := by have : N 3 ≤ 3 := hn3; omega
  have hn4 : N 4 ≤ 600 := hL.2.2.2.2.2.2.2.1
  have hn14 : N 1 ≤ 4 := hn1
  have hn24 : N 2 ≤ 4 := hn2
  refine lv_aload_n hx hb dX8_digest_0 rfl (lv_at hl 0 rfl) ?_
  refine lv_iconst (v := (0 : Int32)) hx hb dX8_digest_1 (by decide) ?_
  refine fp_X8_30 hx hb hts hown hK hM hO.1 dX8_digest_2 (fun H locs hM => ?_)
  obtain ⟨M1, eM1⟩ : ∃ z, z = hu M ma tx (.inr (9, [.int (0 : Int32), .ref h0, .ref fa, .ref lb, .int pr, .int mo])) := ⟨_, rfl⟩
  replace hM : Wd G M1 s H locs := hM.eq eM1.symm
  have hO1 : XdR G M1 tx ma h0 fa lb (0 : Int32) pr mo F Lx := by rw [eM1]; exact hO.setO (0 : Int32) pr mo
  have hL1 : MdR G M1 t h0 Z N U now := by rw [eM1]; exact hL.frame (Ne.symm d1) (Fr.up hO.1)
  have hF1 : F3 tx t t2 M M1 := by rw [eM1]; exact F3.tr (F3.rf) (F3.up hO.1 (Or.inr (Or.inl rfl)))
  refine lv_ldc2 (v := 7812) hx hb hown (hts _ wq_X8_170) dX8_digest_5 ?_
  refine lv_lstore_n (lv' := [(1, .long 7812), (0, .ref ma)]) hx hb dX8_digest_8 rfl hl (by decide) rfl (fun ls hl => ?_)
  have L309 : ∀ (n i : Nat), i ≤ 4 → 4 - i < n → ∀ (M5 : HM) (H : Heap) (locs : List Loc) (ls : Array Slot) (cl sl : Nat), cl ≤ 1149 → sl ≤ 11161 → Fr t2 M1 M5 → Wd G M5 s H locs → lv_has ls 5 [(3, .int (nI i)), (1, .long (dgB (rdO F Lx) (rd5 N U now pr mo F Lx) i)), (0, .ref ma)] → W p l e ({ frames := 11, cells := 1149, slots := 11161, locals := 272 } : Room) s m [Value.ref ma].toArray below meth c H locs cl sl (MQ below (va_Ql (fun r M' => r = rdgQ N U now pr mo F Lx ∧ XP G M M' tx ma h0 fa lb t t2 N U now (0 : Int32) pr mo F Lx) (gB G) (gA G)) [.ref ma].toArray s 1149 11161 (gA G)) (F0 m 309 ls []) := by
    intro n
    induction n with
    | zero => intro i h1 h2; omega
    | succ n ih =>
      intro i h1 h9 M5 H locs ls cl sl hcl hsl hF5 hM hl
      have hO5 := hO1.frame d2 hF5
      have hL5 := hL1.frame d3 hF5
      refine lv_iload_n hx hb dX8_digest_309 rfl (lv_at hl 0 rfl) ?_
      refine lv_iconst (v := (4 : Int32)) hx hb dX8_digest_310 (by decide) ?_
      refine lv_icmp_ge (tgt := 346) hx hb dX8_digest_311 (by decide) (fun c1 => ?_) (fun c1 => ?_)
      · have hi : i = 4 := by
          have := (nI_leI (a := 4) (b := i) (by omega) (by omega)).mp c1
          omega
        subst hi
        refine lv_lload_n hx hb dX8_digest_346 rfl (lv_at hl 1 rfl) ?_
        exact g_lret hx hb hr hlocks hM (by omega) (by omega) ⟨rfl, hO5, ⟨Z, hL5⟩, F3.tr hF1 (F3.fr2 hF5)⟩ dX8_digest_347
      · have hi : i < 4 := by
          rcases Nat.lt_or_ge i (4) with z | z
          · exact z
          · exact absurd (nI_le z (by omega)) c1
        refine lv_lload_n hx hb dX8_digest_314 rfl (lv_at hl 1 rfl) ?_
        refine lv_ldc2 (v := 31) hx hb hown (hts _ wq_X8_172) dX8_digest_315 ?_
        refine lv_lmul hx hb dX8_digest_318 ?_
        refine lv_aload_n hx hb dX8_digest_319 rfl (lv_at hl 2 rfl) ?_
        refine fg_X8_16 hx hb hts hown hK hM hO5.1 dX8_digest_320 ?_
        refine lv_iload_n hx hb dX8_digest_323 rfl (lv_at hl 0 rfl) ?_
        refine g_iald hx hb hK hM hO5.2.1 (vp_in_nI (by omega) (by decide)) dX8_digest_324 ?_
        refine lv_i2l (v := (F (ix (nI i))).toInt64) hx hb dX8_digest_325 rfl ?_
        refine lv_ladd hx hb dX8_digest_326 ?_
        refine lv_ldc2 (v := 31) hx hb hown (hts _ wq_X8_172) dX8_digest_327 ?_
        refine lv_lmul hx hb dX8_digest_330 ?_
        refine lv_aload_n hx hb dX8_digest_331 rfl (lv_at hl 2 rfl) ?_
        refine fg_X8_20 hx hb hts hown hK hM hO5.1 dX8_digest_332 ?_
        refine lv_iload_n hx hb dX8_digest_335 rfl (lv_at hl 0 rfl) ?_
        refine g_iald hx hb hK hM hO5.2.2.1 (vp_in_nI (by omega) (by decide)) dX8_digest_336 ?_
        refine lv_i2l (v := (Lx (ix (nI i))).toInt64) hx hb dX8_digest_337 rfl ?_
        refine lv_ladd hx hb dX8_digest_338 ?_
        refine lv_lstore_n (lv' := [(1, .long (((((dgB (rdO F Lx) (rd5 N U now pr mo F Lx) i) * 31) + (F (ix (nI i))).toInt64) * 31) + (Lx (ix (nI i))).toInt64)), (3, .int (nI i)), (0, .ref ma)]) hx hb dX8_digest_339 rfl hl (by decide) rfl (fun ls hl => ?_)
        refine lv_iinc (v := (nI (i + 1))) (lv' := [(3, .int (nI (i + 1))), (1, .long (((((dgB (rdO F Lx) (rd5 N U now pr mo F Lx) i) * 31) + (F (ix (nI i))).toInt64) * 31) + (Lx (ix (nI i))).toInt64)), (0, .ref ma)]) hx hb dX8_digest_340 hl (k := 1) rfl (nI_1 i) (by decide) rfl (fun ls hl => ?_)
        refine lv_goto (tgt := 309) hx hb dX8_digest_343 (by decide) ?_
        exact ih (i + 1) (by omega) (by omega) _ _ _ _ _ _ (by omega) (by omega) hF5 hM (by rw [show dgB (rdO F Lx) (rd5 N U now pr mo F Lx) (i + 1) = (((((dgB (rdO F Lx) (rd5 N U now pr mo F Lx) i) * 31) + (F (ix (nI i))).toInt64) * 31) + (Lx (ix (nI i))).toInt64) from dgB_s]; exact lv_sub hl [0, 1, 2] rfl)
  have L242 : ∀ (n i : Nat), i ≤ N 4 → N 4 - i < n → ∀ (M5 : HM) (H : Heap) (locs : List Loc) (ls : Array Slot) (cl sl : Nat), cl ≤ 1149 → sl ≤ 11161 → Fr t2 M1 M5 → Wd G M5 s H locs → lv_has ls 5 [(3, .int (nI i)), (1, .long (dgB (rdK U) (rd4 N U now pr mo F Lx) i)), (0, .ref ma)] → W p l e ({ frames := 11, cells := 1149, slots := 11161, locals := 272 } : Room) s m [Value.ref ma].toArray below meth c H locs cl sl (MQ below (va_Ql (fun r M' => r = rdgQ N U now pr mo F Lx ∧ XP G M M' tx ma h0 fa lb t t2 N U now (0 : Int32) pr mo F Lx) (gB G) (gA G)) [.ref ma].toArray s 1149 11161 (gA G)) (F0 m 242 ls []) := by
    intro n
    induction n with
    | zero => intro i h1 h2; omega
    | succ n ih =>
      intro i h1 h9 M5 H locs ls cl sl hcl hsl hF5 hM hl
      have hO5 := hO1.frame d2 hF5
      have hL5 := hL1.frame d3 hF5
      refine lv_iload_n hx hb dX8_digest_242 rfl (lv_at hl 0 rfl) ?_
      refine lv_aload_n hx hb dX8_digest_243 rfl (lv_at hl 2 rfl) ?_
      refine fg_X8_10 hx hb hts hown hK hM hO5.1 dX8_digest_244 ?_
      refine fg_X8_110 hx hb hts hown hK hM hL5.1 dX8_digest_247 ?_
      refine g_callFi (n9 := 0) (As := []) (rest := [.int (nI i)]) hx hb hml hl.1 hown hts hK hM (c_Jx4a65c_size_8abf5 l G _ Z.2.2.1 t _ _ _ (hL5.2.2.1.1)) (hK.1.1 0 _ rfl).2 hK.2.2.1.1 wm_X8_114 wl_Jx4a65c_size_8abf5_by_List_size wi_Jx4a65c_size_8abf5 wn_Jx4a65c wc_Jx4a65c_size_8abf5 (by decide +kernel) (hM.recv hK (ci := 0) rfl (hL5.2.2.1.1)) ⟨Nat.le_of_ble_eq_true rfl, Nat.le_of_ble_eq_true rfl⟩ ⟨by show cl + 0 ≤ 1149; omega, by show sl + 0 ≤ 11161; omega⟩ rfl (Nat.le_of_ble_eq_true rfl) rfl dX8_digest_250 (fun r_250 Mz H locs hq hM => ?_)
      have hq1 := hq.1.symm
      have hq2 := hq.2.symm
      subst hq1 hq2
      refine lv_icmp_ge (tgt := 307) hx hb dX8_digest_255 (by decide) (fun c2 => ?_) (fun c2 => ?_)
      · have hi : i = N 4 := by
          have := (nI_leI (a := N 4) (b := i) (by omega) (by omega)).mp c2
          omega
        subst hi
        refine lv_iconst (v := (0 : Int32)) hx hb dX8_digest_307 (by decide) ?_
        refine lv_istore_n (lv' := [(3, .int (0 : Int32)), (1, .long (dgB (rdK U) (rd4 N U now pr mo F Lx) (N 4))), (0, .ref ma)]) hx hb dX8_digest_308 rfl hl (by decide) rfl (fun ls hl => ?_)
        exact L309 (4 + 1) 0 (Nat.zero_le _) (by omega) _ _ _ _ _ _ (by omega) (by omega) hF5 hM (by rw [dgB_0, rd5_e]; exact lv_sub hl [0, 1, 2] rfl)
      · have hi : i < N 4 := by
          rcases Nat.lt_or_ge i (N 4) with z | z
          · exact z
          · exact absurd (nI_le z (by omega)) c2
        obtain ⟨d0, ed0⟩ : ∃ z, z = (dgB (rdK U) (rd4 N U now pr mo F Lx) i) := ⟨_, rfl⟩
        refine lv_iconst (v := (0 : Int32)) hx hb dX8_digest_258 (by decide) ?_
        refine lv_istore (lv' := [(4, .int (0 : Int32)), (3, .int (nI i)), (1, .long (dgB (rdK U) (rd4 N U now pr mo F Lx) i)), (0, .ref ma)]) hx hb dX8_digest_259 hl (by decide) rfl (fun ls hl => ?_)
        have L261 : ∀ (n2 j : Nat), j ≤ 7 → 7 - j < n2 → ∀ (M5 : HM) (H : Heap) (locs : List Loc) (ls : Array Slot) (cl2 sl2 : Nat), cl2 ≤ cl + 0 * j → sl2 ≤ sl + 0 * j → Fr t2 M1 M5 → Wd G M5 s H locs → lv_has ls 5 [(4, .int (nI j)), (1, .long (dgA (fun j => rw7 (U 4 i 0) (U 4 i 1) (U 4 i 2) (U 4 i 3) (U 4 i 4) (U 4 i 5) (U 4 i 6) (ix (nI j))) d0 j)), (3, .int (nI i)), (0, .ref ma)] → W p l e ({ frames := 11, cells := 1149, slots := 11161, locals := 272 } : Room) s m [Value.ref ma].toArray below meth c H locs cl2 sl2 (MQ below (va_Ql (fun r M' => r = rdgQ N U now pr mo F Lx ∧ XP G M M' tx ma h0 fa lb t t2 N U now (0 : Int32) pr mo F Lx) (gB G) (gA G)) [.ref ma].toArray s 1149 11161 (gA G)) (F0 m 261 ls []) := by
          intro n2
          induction n2 with
          | zero => intro j h1 h2; omega
          | succ n2 ih2 =>
            intro j g1 g9 M5 H locs ls cl2 sl2 hcl2 hsl2 hF5 hM hl
            have hO5 := hO1.frame d2 hF5
            have hL5 := hL1.frame d3 hF5
            refine lv_iload hx hb dX8_digest_261 (lv_at hl 0 rfl) ?_
            refine lv_bipush (v := (6 : Int32)) hx hb dX8_digest_263 (by decide) ?_
            refine lv_icmp_gt (tgt := 301) hx hb dX8_digest_265 (by decide) (fun c3 => ?_) (fun c3 => ?_)
            · have hj : j = 7 := by
                have := (nI_ltI (a := 6) (b := j) (by decide) (by omega)).mp c3
                omega
              subst hj
              refine lv_iinc (v := (nI (i + 1))) (lv' := [(3, .int (nI (i + 1))), (4, .int (nI 7)), (1, .long (dgA (fun j => rw7 (U 4 i 0) (U 4 i 1) (U 4 i 2) (U 4 i 3) (U 4 i 4) (U 4 i 5) (U 4 i 6) (ix (nI j))) d0 7)), (0, .ref ma)]) hx hb dX8_digest_301 hl (k := 2) rfl (nI_1 i) (by decide) rfl (fun ls hl => ?_)
              refine lv_goto (tgt := 242) hx hb dX8_digest_304 (by decide) ?_
              exact ih (i + 1) (by omega) (by omega) _ _ _ _ _ _ (by omega) (by omega) hF5 hM (by rw [show dgB (rdK U) (rd4 N U now pr mo F Lx) (i + 1) = dgA (fun j => rw7 (U 4 i 0) (U 4 i 1) (U 4 i 2) (U 4 i 3) (U 4 i 4) (U 4 i 5) (U 4 i 6) (ix (nI j))) d0 7 from by rw [ed0]; exact dgB_s]; exact lv_sub hl [0, 2, 3] rfl)
            · have hj : j < 7 := by
                rcases Nat.lt_or_ge j 7 with z | z
                · exact z
                · exact absurd ((nI_ltI (a := 6) (b := j) (by decide) (by omega)).mpr (by omega)) c3
              refine lv_lload_n hx hb dX8_digest_268 rfl (lv_at hl 1 rfl) ?_
              refine lv_ldc2 (v := 31) hx hb hown (hts _ wq_X8_172) dX8_digest_269 ?_
              refine lv_lmul hx hb dX8_digest_272 ?_
              refine lv_aload_n hx hb dX8_digest_273 rfl (lv_at hl 3 rfl) ?_
              refine fg_X8_10 hx hb hts hown hK hM hO5.1 dX8_digest_274 ?_
              refine fg_X8_110 hx hb hts hown hK hM hL5.1 dX8_digest_277 ?_
              refine lv_iload_n hx hb dX8_digest_280 rfl (lv_at hl 2 rfl) ?_
              refine g_callFq (n9 := 1) (As := [.int (nI i)]) (rest := [.long ((dgA (fun j => rw7 (U 4 i 0) (U 4 i 1) (U 4 i 2) (U 4 i 3) (U 4 i 4) (U 4 i 5) (U 4 i 6) (ix (nI j))) d0 j) * 31)]) hx hb hml hl.1 hown hts hK hM (c_getL l G _ t Z.2.2.1 (N 4) _ _ i _ _ hL5.2.2.1 hi) (hK.1.1 0 _ rfl).2 hK.2.2.1.2.1 wm_X8_124 wl_Jx4a65c_get_915e3_by_List_get wi_Jx4a65c_get_915e3 wn_Jx4a65c wc_Jx4a65c_get_915e3 (by decide +kernel) (hM.recv hK (ci := 0) rfl (hL5.2.2.1.1)) ⟨Nat.le_of_ble_eq_true rfl, Nat.le_of_ble_eq_true rfl⟩ ⟨by show cl2 + 0 ≤ 1149; omega, by show sl2 + 0 ≤ 11161; omega⟩ rfl (Nat.le_of_ble_eq_true rfl) rfl dX8_digest_281 (fun r_281 Mz H locs hq hM => ?_)
              have hq1 := (hq.1.trans (hL5.2.2.2.2.1 i hi)).symm
              have hq2 := hq.2.symm
              subst hq1 hq2
              refine g_castA hx hb hown (hts _ wk_X8_128) hK hM (hL5.row (k := 4) (by decide) hi) dX8_digest_286 ?_
              refine lv_iload hx hb dX8_digest_289 (lv_at hl 0 rfl) ?_
              refine g_iald hx hb hK hM (hL5.row (k := 4) (by decide) hi) (vp_in_nI (by omega) (by decide)) dX8_digest_291 ?_
              refine lv_i2l (v := (rw7 (U 4 i 0) (U 4 i 1) (U 4 i 2) (U 4 i 3) (U 4 i 4) (U 4 i 5) (U 4 i 6) (ix (nI j))).toInt64) hx hb dX8_digest_292 rfl ?_
              refine lv_ladd hx hb dX8_digest_293 ?_
              refine lv_lstore_n (lv' := [(1, .long (((dgA (fun j => rw7 (U 4 i 0) (U 4 i 1) (U 4 i 2) (U 4 i 3) (U 4 i 4) (U 4 i 5) (U 4 i 6) (ix (nI j))) d0 j) * 31) + (rw7 (U 4 i 0) (U 4 i 1) (U 4 i 2) (U 4 i 3) (U 4 i 4) (U 4 i 5) (U 4 i 6) (ix (nI j))).toInt64)), (4, .int (nI j)), (3, .int (nI i)), (0, .ref ma)]) hx hb dX8_digest_294 rfl hl (by decide) rfl (fun ls hl => ?_)
              refine lv_iinc (v := (nI (j + 1))) (lv' := [(4, .int (nI (j + 1))), (1, .long (((dgA (fun j => rw7 (U 4 i 0) (U 4 i 1) (U 4 i 2) (U 4 i 3) (U 4 i 4) (U 4 i 5) (U 4 i 6) (ix (nI j))) d0 j) * 31) + (rw7 (U 4 i 0) (U 4 i 1) (U 4 i 2) (U 4 i 3) (U 4 i 4) (U 4 i 5) (U 4 i 6) (ix (nI j))).toInt64)), (3, .int (nI i)), (0, .ref ma)]) hx hb dX8_digest_295 hl (k := 1) rfl (nI_1 j) (by decide) rfl (fun ls hl => ?_)
              refine lv_goto (tgt := 261) hx hb dX8_digest_298 (by decide) ?_
              exact ih2 (j + 1) (by omega) (by omega) _ _ _ _ _ _ (by omega) (by omega) hF5 hM (by rw [show dgA (fun j => rw7 (U 4 i 0) (U 4 i 1) (U 4 i 2) (U 4 i 3) (U 4 i 4) (U 4 i 5) (U 4 i 6) (ix (nI j))) d0 (j + 1) = (((dgA (fun j => rw7 (U 4 i 0) (U 4 i 1) (U 4 i 2) (U 4 i 3) (U 4 i 4) (U 4 i 5) (U 4 i 6) (ix (nI j))) d0 j) * 31) + (rw7 (U 4 i 0) (U 4 i 1) (U 4 i 2) (U 4 i 3) (U 4 i 4) (U 4 i 5) (U 4 i 6) (ix (nI j))).toInt64) from dgA_s]; exact lv_sub hl [0, 1, 2, 3] rfl)
        rw [← ed0] at hl
        exact L261 (7 + 1) 0 (Nat.zero_le _) (by omega) _ _ _ _ _ _ (by omega) (by omega) hF5 hM (by rw [dgA_0]; exact lv_sub hl [0, 2, 1, 3] rfl)
  have L192 : ∀ (n i : Nat), i ≤ N 2 → N 2 - i < n → ∀ (M5 : HM) (H : Heap) (locs : List Loc) (ls : Array Slot) (cl sl : Nat), cl ≤ 1117 + 8 * i → sl ≤ 10905 + 64 * i → Fr t2 M1 M5 → Wd G M5 s H locs → lv_has ls 5 [(3, .int (nI i)), (1, .long (dgB (rdT N U now pr mo F Lx) (rd3 N U now pr mo F Lx) i)), (0, .ref ma)] → W p l e ({ frames := 11, cells := 1149, slots := 11161, locals := 272 } : Room) s m [Value.ref ma].toArray below meth c H locs cl sl (MQ below (va_Ql (fun r M' => r = rdgQ N U now pr mo F Lx ∧ XP G M M' tx ma h0 fa lb t t2 N U now (0 : Int32) pr mo F Lx) (gB G) (gA G)) [.ref ma].toArray s 1149 11161 (gA G)) (F0 m 192 ls []) := by
    intro n
    induction n with
    | zero => intro i h1 h2; omega
    | succ n ih =>
      intro i h1 h9 M5 H locs ls cl sl hcl hsl hF5 hM hl
      have hO5 := hO1.frame d2 hF5
      have hL5 := hL1.frame d3 hF5
      refine lv_iload_n hx hb dX8_digest_192 rfl (lv_at hl 0 rfl) ?_
      refine lv_aload_n hx hb dX8_digest_193 rfl (lv_at hl 2 rfl) ?_
      refine fg_X8_10 hx hb hts hown hK hM hO5.1 dX8_digest_194 ?_
      refine fg_X8_43 hx hb hts hown hK hM hL5.1 dX8_digest_197 ?_
      refine lv_icmp_ge (tgt := 240) hx hb dX8_digest_200 (by decide) (fun c4 => ?_) (fun c4 => ?_)
      · have hi : i = N 2 := by
          have := (nI_leI (a := N 2) (b := i) (by omega) (by omega)).mp c4
          omega
        subst hi
        refine lv_iconst (v := (0 : Int32)) hx hb dX8_digest_240 (by decide) ?_
        refine lv_istore_n (lv' := [(3, .int (0 : Int32)), (1, .long (dgB (rdT N U now pr mo F Lx) (rd3 N U now pr mo F Lx) (N 2))), (0, .ref ma)]) hx hb dX8_digest_241 rfl hl (by decide) rfl (fun ls hl => ?_)
        exact L242 (N 4 + 1) 0 (Nat.zero_le _) (by omega) _ _ _ _ _ _ (by omega) (by omega) hF5 hM (by rw [dgB_0, rd4_e]; exact lv_sub hl [0, 1, 2] rfl)
      · have hi : i < N 2 := by
          rcases Nat.lt_or_ge i (N 2) with z | z
          · exact z
          · exact absurd (nI_le z (by omega)) c4
        obtain ⟨d0, ed0⟩ : ∃ z, z = (dgB (rdT N U now pr mo F Lx) (rd3 N U now pr mo F Lx) i) := ⟨_, rfl⟩
        refine lv_iconst (v := (0 : Int32)) hx hb dX8_digest_203 (by decide) ?_
        refine lv_istore (lv' := [(4, .int (0 : Int32)), (3, .int (nI i)), (1, .long (dgB (rdT N U now pr mo F Lx) (rd3 N U now pr mo F Lx) i)), (0, .ref ma)]) hx hb dX8_digest_204 hl (by decide) rfl (fun ls hl => ?_)
        have L206 : ∀ (n2 j : Nat), j ≤ 8 → 8 - j < n2 → ∀ (M5 : HM) (H : Heap) (locs : List Loc) (ls : Array Slot) (cl2 sl2 : Nat), cl2 ≤ cl + 1 * j → sl2 ≤ sl + 8 * j → Fr t2 M1 M5 → Wd G M5 s H locs → lv_has ls 5 [(4, .int (nI j)), (1, .long (dgA (fun j => q_X8_truckNow N U now 0 pr mo F Lx (nI i) (nI j)) d0 j)), (3, .int (nI i)), (0, .ref ma)] → W p l e ({ frames := 11, cells := 1149, slots := 11161, locals := 272 } : Room) s m [Value.ref ma].toArray below meth c H locs cl2 sl2 (MQ below (va_Ql (fun r M' => r = rdgQ N U now pr mo F Lx ∧ XP G M M' tx ma h0 fa lb t t2 N U now (0 : Int32) pr mo F Lx) (gB G) (gA G)) [.ref ma].toArray s 1149 11161 (gA G)) (F0 m 206 ls []) := by
          intro n2
          induction n2 with
          | zero => intro j h1 h2; omega
          | succ n2 ih2 =>
            intro j g1 g9 M5 H locs ls cl2 sl2 hcl2 hsl2 hF5 hM hl
            have hO5 := hO1.frame d2 hF5
            have hL5 := hL1.frame d3 hF5
            refine lv_iload hx hb dX8_digest_206 (lv_at hl 0 rfl) ?_
            refine lv_bipush (v := (7 : Int32)) hx hb dX8_digest_208 (by decide) ?_
            refine lv_icmp_gt (tgt := 234) hx hb dX8_digest_210 (by decide) (fun c5 => ?_) (fun c5 => ?_)
            · have hj : j = 8 := by
                have := (nI_ltI (a := 7) (b := j) (by decide) (by omega)).mp c5
                omega
              subst hj
              refine lv_iinc (v := (nI (i + 1))) (lv' := [(3, .int (nI (i + 1))), (4, .int (nI 8)), (1, .long (dgA (fun j => q_X8_truckNow N U now 0 pr mo F Lx (nI i) (nI j)) d0 8)), (0, .ref ma)]) hx hb dX8_digest_234 hl (k := 2) rfl (nI_1 i) (by decide) rfl (fun ls hl => ?_)
              refine lv_goto (tgt := 192) hx hb dX8_digest_237 (by decide) ?_
              exact ih (i + 1) (by omega) (by omega) _ _ _ _ _ _ (by omega) (by omega) hF5 hM (by rw [show dgB (rdT N U now pr mo F Lx) (rd3 N U now pr mo F Lx) (i + 1) = dgA (fun j => q_X8_truckNow N U now 0 pr mo F Lx (nI i) (nI j)) d0 8 from by rw [ed0]; exact dgB_s]; exact lv_sub hl [0, 2, 3] rfl)
            · have hj : j < 8 := by
                rcases Nat.lt_or_ge j 8 with z | z
                · exact z
                · exact absurd ((nI_ltI (a := 7) (b := j) (by decide) (by omega)).mpr (by omega)) c5
              refine lv_lload_n hx hb dX8_digest_213 rfl (lv_at hl 1 rfl) ?_
              refine lv_ldc2 (v := 31) hx hb hown (hts _ wq_X8_172) dX8_digest_214 ?_
              refine lv_lmul hx hb dX8_digest_217 ?_
              refine lv_aload_n hx hb dX8_digest_218 rfl (lv_at hl 3 rfl) ?_
              refine lv_iload_n hx hb dX8_digest_219 rfl (lv_at hl 2 rfl) ?_
              refine lv_iload hx hb dX8_digest_220 (lv_at hl 0 rfl) ?_
              refine g_callVi (n9 := 2) (As := [.int (nI i), .int (nI j)]) (rest := [.long ((dgA (fun j => q_X8_truckNow N U now 0 pr mo F Lx (nI i) (nI j)) d0 j) * 31)]) hx hb hml hl.1 hown hts hK hM (c_X8_truckNow l G _ tx ma h0 fa lb t t2 Z N U now 0 pr mo F Lx (nI i) (nI j) hO5 hL5 d1 d2 d3 (ixn_ok hi (by omega)) (ixn_ok (by omega) (by decide))) wm_X8_142 wi_X8_truckNow wl_X8_truckNow wn_X8 wc_X8_truckNow (by decide +kernel) (hM.recv hK (ci := 9) rfl hO5.1) ⟨Nat.le_of_ble_eq_true rfl, Nat.le_of_ble_eq_true rfl⟩ ⟨by show cl2 + 1 ≤ 1149; omega, by show sl2 + 8 ≤ 11161; omega⟩ rfl (Nat.le_of_ble_eq_true rfl) rfl dX8_digest_222 (fun r_222 M7 H locs hq hM => ?_)
              obtain ⟨er, hF7⟩ := hq
              subst er
              have hF8 := Fr.tr hF5 hF7
              have hO8 := hO1.frame d2 hF8
              have hL8 := hL1.frame d3 hF8
              refine lv_i2l (v := (q_X8_truckNow N U now 0 pr mo F Lx (nI i) (nI j)).toInt64) hx hb dX8_digest_225 rfl ?_
              refine lv_ladd hx hb dX8_digest_226 ?_
              refine lv_lstore_n (lv' := [(1, .long (((dgA (fun j => q_X8_truckNow N U now 0 pr mo F Lx (nI i) (nI j)) d0 j) * 31) + (q_X8_truckNow N U now 0 pr mo F Lx (nI i) (nI j)).toInt64)), (4, .int (nI j)), (3, .int (nI i)), (0, .ref ma)]) hx hb dX8_digest_227 rfl hl (by decide) rfl (fun ls hl => ?_)
              refine lv_iinc (v := (nI (j + 1))) (lv' := [(4, .int (nI (j + 1))), (1, .long (((dgA (fun j => q_X8_truckNow N U now 0 pr mo F Lx (nI i) (nI j)) d0 j) * 31) + (q_X8_truckNow N U now 0 pr mo F Lx (nI i) (nI j)).toInt64)), (3, .int (nI i)), (0, .ref ma)]) hx hb dX8_digest_228 hl (k := 1) rfl (nI_1 j) (by decide) rfl (fun ls hl => ?_)
              refine lv_goto (tgt := 206) hx hb dX8_digest_231 (by decide) ?_
              exact ih2 (j + 1) (by omega) (by omega) _ _ _ _ _ _ (by omega) (by omega) hF8 hM (by rw [show dgA (fun j => q_X8_truckNow N U now 0 pr mo F Lx (nI i) (nI j)) d0 (j + 1) = (((dgA (fun j => q_X8_truckNow N U now 0 pr mo F Lx (nI i) (nI j)) d0 j) * 31) + (q_X8_truckNow N U now 0 pr mo F Lx (nI i) (nI j)).toInt64) from dgA_s]; exact lv_sub hl [0, 1, 2, 3] rfl)
        rw [← ed0] at hl
        exact L206 (8 + 1) 0 (Nat.zero_le _) (by omega) _ _ _ _ _ _ (by omega) (by omega) hF5 hM (by rw [dgA_0]; exact lv_sub hl [0, 2, 1, 3] rfl)
  have L123 : ∀ (n i : Nat), i ≤ N 1 → N 1 - i < n → ∀ (M5 : HM) (H : Heap) (locs : List Loc) (ls : Array Slot) (cl sl : Nat), cl ≤ 29 + 272 * i → sl ≤ 345 + 2640 * i → Fr t2 M1 M5 → Wd G M5 s H locs → lv_has ls 5 [(3, .int (nI i)), (1, .long (dgB (rdC N U now pr mo F Lx) (rd2 N U now pr mo F Lx) i)), (0, .ref ma)] → W p l e ({ frames := 11, cells := 1149, slots := 11161, locals := 272 } : Room) s m [Value.ref ma].toArray below meth c H locs cl sl (MQ below (va_Ql (fun r M' => r = rdgQ N U now pr mo F Lx ∧ XP G M M' tx ma h0 fa lb t t2 N U now (0 : Int32) pr mo F Lx) (gB G) (gA G)) [.ref ma].toArray s 1149 11161 (gA G)) (F0 m 123 ls []) := by
    intro n
    induction n with
    | zero => intro i h1 h2; omega
    | succ n ih =>
      intro i h1 h9 M5 H locs ls cl sl hcl hsl hF5 hM hl
      have hO5 := hO1.frame d2 hF5
      have hL5 := hL1.frame d3 hF5
      refine lv_iload_n hx hb dX8_digest_123 rfl (lv_at hl 0 rfl) ?_
      refine lv_aload_n hx hb dX8_digest_124 rfl (lv_at hl 2 rfl) ?_
      refine fg_X8_10 hx hb hts hown hK hM hO5.1 dX8_digest_125 ?_
      refine fg_X8_40 hx hb hts hown hK hM hL5.1 dX8_digest_128 ?_
      refine lv_icmp_ge (tgt := 190) hx hb dX8_digest_131 (by decide) (fun c6 => ?_) (fun c6 => ?_)
      · have hi : i = N 1 := by
          have := (nI_leI (a := N 1) (b := i) (by omega) (by omega)).mp c6
          omega
        subst hi
        refine lv_iconst (v := (0 : Int32)) hx hb dX8_digest_190 (by decide) ?_
        refine lv_istore_n (lv' := [(3, .int (0 : Int32)), (1, .long (dgB (rdC N U now pr mo F Lx) (rd2 N U now pr mo F Lx) (N 1))), (0, .ref ma)]) hx hb dX8_digest_191 rfl hl (by decide) rfl (fun ls hl => ?_)
        exact L192 (N 2 + 1) 0 (Nat.zero_le _) (by omega) _ _ _ _ _ _ (by omega) (by omega) hF5 hM (by rw [dgB_0, rd3_e]; exact lv_sub hl [0, 1, 2] rfl)
      · have hi : i < N 1 := by
          rcases Nat.lt_or_ge i (N 1) with z | z
          · exact z
          · exact absurd (nI_le z (by omega)) c6
        obtain ⟨d0, ed0⟩ : ∃ z, z = (dgB (rdC N U now pr mo F Lx) (rd2 N U now pr mo F Lx) i) := ⟨_, rfl⟩
        refine lv_iconst (v := (0 : Int32)) hx hb dX8_digest_134 (by decide) ?_
        refine lv_istore (lv' := [(4, .int (0 : Int32)), (3, .int (nI i)), (1, .long (dgB (rdC N U now pr mo F Lx) (rd2 N U now pr mo F Lx) i)), (0, .ref ma)]) hx hb dX8_digest_135 hl (by decide) rfl (fun ls hl => ?_)
        have L137 : ∀ (n2 j : Nat), j ≤ 8 → 8 - j < n2 → ∀ (M5 : HM) (H : Heap) (locs : List Loc) (ls : Array Slot) (cl2 sl2 : Nat), cl2 ≤ cl + 1 * j → sl2 ≤ sl + 8 * j → Fr t2 M1 M5 → Wd G M5 s H locs → lv_has ls 5 [(4, .int (nI j)), (1, .long (dgA (fun j => q_X8_combineNow N U now 0 pr mo F Lx (nI i) (nI j)) d0 j)), (3, .int (nI i)), (0, .ref ma)] → W p l e ({ frames := 11, cells := 1149, slots := 11161, locals := 272 } : Room) s m [Value.ref ma].toArray below meth c H locs cl2 sl2 (MQ below (va_Ql (fun r M' => r = rdgQ N U now pr mo F Lx ∧ XP G M M' tx ma h0 fa lb t t2 N U now (0 : Int32) pr mo F Lx) (gB G) (gA G)) [.ref ma].toArray s 1149 11161 (gA G)) (F0 m 137 ls []) := by
          intro n2
          induction n2 with
          | zero => intro j h1 h2; omega
          | succ n2 ih2 =>
            intro j g1 g9 M5 H locs ls cl2 sl2 hcl2 hsl2 hF5 hM hl
            have hO5 := hO1.frame d2 hF5
            have hL5 := hL1.frame d3 hF5
            refine lv_iload hx hb dX8_digest_137 (lv_at hl 0 rfl) ?_
            refine lv_bipush (v := (7 : Int32)) hx hb dX8_digest_139 (by decide) ?_
            refine lv_icmp_gt (tgt := 165) hx hb dX8_digest_141 (by decide) (fun c7 => ?_) (fun c7 => ?_)
            · have hj : j = 8 := by
                have := (nI_ltI (a := 7) (b := j) (by decide) (by omega)).mp c7
                omega
              subst hj
              refine lv_lload_n hx hb dX8_digest_165 rfl (lv_at hl 1 rfl) ?_
              refine lv_ldc2 (v := 31) hx hb hown (hts _ wq_X8_172) dX8_digest_166 ?_
              refine lv_lmul hx hb dX8_digest_169 ?_
              refine lv_aload_n hx hb dX8_digest_170 rfl (lv_at hl 3 rfl) ?_
              refine lv_iload_n hx hb dX8_digest_171 rfl (lv_at hl 2 rfl) ?_
              refine lv_bipush (v := (12 : Int32)) hx hb dX8_digest_172 (by decide) ?_
              refine lv_bipush (v := (30 : Int32)) hx hb dX8_digest_174 (by decide) ?_
              refine lv_bipush (v := (40 : Int32)) hx hb dX8_digest_176 (by decide) ?_
              refine g_callVi (n9 := 4) (As := [.int (nI i), .int (12 : Int32), .int (30 : Int32), .int (40 : Int32)]) (rest := [.long ((dgA (fun j => q_X8_combineNow N U now 0 pr mo F Lx (nI i) (nI j)) d0 8) * 31)]) hx hb hml hl.1 hown hts hK hM (c_X8_nextNow l G _ tx ma h0 fa lb t t2 Z N U now 0 pr mo F Lx (nI i) (12 : Int32) (30 : Int32) (40 : Int32) hO5 hL5 d1 d2 d3 (ixn_ok hi (by omega)) (by decide) (by decide) (by rw [ix_n (by omega)]; exact hTr i hi)) wm_X8_159 wi_X8_nextNow wl_X8_nextNow wn_X8 wc_X8_nextNow (by decide +kernel) (hM.recv hK (ci := 9) rfl hO5.1) ⟨Nat.le_of_ble_eq_true rfl, Nat.le_of_ble_eq_true rfl⟩ ⟨by show cl2 + 33 * N 0 ≤ 1149; omega, by show sl2 + 322 * N 0 ≤ 11161; omega⟩ rfl (Nat.le_of_ble_eq_true rfl) rfl dX8_digest_178 (fun r_178 M7 H locs hq hM => ?_)
              obtain ⟨er, hF7⟩ := hq
              subst er
              have hF8 := Fr.tr hF5 hF7
              have hO8 := hO1.frame d2 hF8
              have hL8 := hL1.frame d3 hF8
              refine lv_i2l (v := (q_X8_nextNow N U now 0 pr mo F Lx (nI i) (12 : Int32) (30 : Int32) (40 : Int32)).toInt64) hx hb dX8_digest_181 rfl ?_
              refine lv_ladd hx hb dX8_digest_182 ?_
              refine lv_lstore_n (lv' := [(1, .long (((dgA (fun j => q_X8_combineNow N U now 0 pr mo F Lx (nI i) (nI j)) d0 8) * 31) + (q_X8_nextNow N U now 0 pr mo F Lx (nI i) (12 : Int32) (30 : Int32) (40 : Int32)).toInt64)), (4, .int (nI 8)), (3, .int (nI i)), (0, .ref ma)]) hx hb dX8_digest_183 rfl hl (by decide) rfl (fun ls hl => ?_)
              refine lv_iinc (v := (nI (i + 1))) (lv' := [(3, .int (nI (i + 1))), (1, .long (((dgA (fun j => q_X8_combineNow N U now 0 pr mo F Lx (nI i) (nI j)) d0 8) * 31) + (q_X8_nextNow N U now 0 pr mo F Lx (nI i) (12 : Int32) (30 : Int32) (40 : Int32)).toInt64)), (4, .int (nI 8)), (0, .ref ma)]) hx hb dX8_digest_184 hl (k := 2) rfl (nI_1 i) (by decide) rfl (fun ls hl => ?_)
              refine lv_goto (tgt := 123) hx hb dX8_digest_187 (by decide) ?_
              exact ih (i + 1) (by omega) (by omega) _ _ _ _ _ _ (by omega) (by omega) hF8 hM (by rw [show dgB (rdC N U now pr mo F Lx) (rd2 N U now pr mo F Lx) (i + 1) = lD (dgA (fun j => q_X8_combineNow N U now 0 pr mo F Lx (nI i) (nI j)) d0 8) (q_X8_nextNow N U now 0 pr mo F Lx (nI i) 12 30 40) from by rw [ed0]; exact dgB_s]; exact lv_sub hl [0, 1, 3] rfl)
            · have hj : j < 8 := by
                rcases Nat.lt_or_ge j 8 with z | z
                · exact z
                · exact absurd ((nI_ltI (a := 7) (b := j) (by decide) (by omega)).mpr (by omega)) c7
              refine lv_lload_n hx hb dX8_digest_144 rfl (lv_at hl 1 rfl) ?_
              refine lv_ldc2 (v := 31) hx hb hown (hts _ wq_X8_172) dX8_digest_145 ?_
              refine lv_lmul hx hb dX8_digest_148 ?_
              refine lv_aload_n hx hb dX8_digest_149 rfl (lv_at hl 3 rfl) ?_
              refine lv_iload_n hx hb dX8_digest_150 rfl (lv_at hl 2 rfl) ?_
              refine lv_iload hx hb dX8_digest_151 (lv_at hl 0 rfl) ?_
              refine g_callVi (n9 := 2) (As := [.int (nI i), .int (nI j)]) (rest := [.long ((dgA (fun j => q_X8_combineNow N U now 0 pr mo F Lx (nI i) (nI j)) d0 j) * 31)]) hx hb hml hl.1 hown hts hK hM (c_X8_combineNow l G _ tx ma h0 fa lb t t2 Z N U now 0 pr mo F Lx (nI i) (nI j) hO5 hL5 d1 d2 d3 (ixn_ok hi (by omega)) (ixn_ok (by omega) (by decide))) wm_X8_139 wi_X8_combineNow wl_X8_combineNow wn_X8 wc_X8_combineNow (by decide +kernel) (hM.recv hK (ci := 9) rfl hO5.1) ⟨Nat.le_of_ble_eq_true rfl, Nat.le_of_ble_eq_true rfl⟩ ⟨by show cl2 + 1 ≤ 1149; omega, by show sl2 + 8 ≤ 11161; omega⟩ rfl (Nat.le_of_ble_eq_true rfl) rfl dX8_digest_153 (fun r_153 M7 H locs hq hM => ?_)
              obtain ⟨er, hF7⟩ := hq
              subst er
              have hF8 := Fr.tr hF5 hF7
              have hO8 := hO1.frame d2 hF8
              have hL8 := hL1.frame d3 hF8
              refine lv_i2l (v := (q_X8_combineNow N U now 0 pr mo F Lx (nI i) (nI j)).toInt64) hx hb dX8_digest_156 rfl ?_
              refine lv_ladd hx hb dX8_digest_157 ?_
              refine lv_lstore_n (lv' := [(1, .long (((dgA (fun j => q_X8_combineNow N U now 0 pr mo F Lx (nI i) (nI j)) d0 j) * 31) + (q_X8_combineNow N U now 0 pr mo F Lx (nI i) (nI j)).toInt64)), (4, .int (nI j)), (3, .int (nI i)), (0, .ref ma)]) hx hb dX8_digest_158 rfl hl (by decide) rfl (fun ls hl => ?_)
              refine lv_iinc (v := (nI (j + 1))) (lv' := [(4, .int (nI (j + 1))), (1, .long (((dgA (fun j => q_X8_combineNow N U now 0 pr mo F Lx (nI i) (nI j)) d0 j) * 31) + (q_X8_combineNow N U now 0 pr mo F Lx (nI i) (nI j)).toInt64)), (3, .int (nI i)), (0, .ref ma)]) hx hb dX8_digest_159 hl (k := 1) rfl (nI_1 j) (by decide) rfl (fun ls hl => ?_)
              refine lv_goto (tgt := 137) hx hb dX8_digest_162 (by decide) ?_
              exact ih2 (j + 1) (by omega) (by omega) _ _ _ _ _ _ (by omega) (by omega) hF8 hM (by rw [show dgA (fun j => q_X8_combineNow N U now 0 pr mo F Lx (nI i) (nI j)) d0 (j + 1) = (((dgA (fun j => q_X8_combineNow N U now 0 pr mo F Lx (nI i) (nI j)) d0 j) * 31) + (q_X8_combineNow N U now 0 pr mo F Lx (nI i) (nI j)).toInt64) from dgA_s]; exact lv_sub hl [0, 1, 2, 3] rfl)
        rw [← ed0] at hl
        exact L137 (8 + 1) 0 (Nat.zero_le _) (by omega) _ _ _ _ _ _ (by omega) (by omega) hF5 hM (by rw [dgA_0]; exact lv_sub hl [0, 2, 1, 3] rfl)
  have L38 : ∀ (n i : Nat), i ≤ N 0 → N 0 - i < n → ∀ (M5 : HM) (H : Heap) (locs : List Loc) (ls : Array Slot) (cl sl : Nat), cl ≤ 13 + 2 * i → sl ≤ 169 + 22 * i → Fr t2 M1 M5 → Wd G M5 s H locs → lv_has ls 5 [(3, .int (nI i)), (1, .long (dgB (rdF N U now pr mo F Lx) (rd1 N U now pr mo F Lx) i)), (0, .ref ma)] → W p l e ({ frames := 11, cells := 1149, slots := 11161, locals := 272 } : Room) s m [Value.ref ma].toArray below meth c H locs cl sl (MQ below (va_Ql (fun r M' => r = rdgQ N U now pr mo F Lx ∧ XP G M M' tx ma h0 fa lb t t2 N U now (0 : Int32) pr mo F Lx) (gB G) (gA G)) [.ref ma].toArray s 1149 11161 (gA G)) (F0 m 38 ls []) := by
    intro n
    induction n with
    | zero => intro i h1 h2; omega
    | succ n ih =>
      intro i h1 h9 M5 H locs ls cl sl hcl hsl hF5 hM hl
      have hO5 := hO1.frame d2 hF5
      have hL5 := hL1.frame d3 hF5
      refine lv_iload_n hx hb dX8_digest_38 rfl (lv_at hl 0 rfl) ?_
      refine lv_aload_n hx hb dX8_digest_39 rfl (lv_at hl 2 rfl) ?_
      refine fg_X8_10 hx hb hts hown hK hM hO5.1 dX8_digest_40 ?_
      refine fg_X8_33 hx hb hts hown hK hM hL5.1 dX8_digest_43 ?_
      refine lv_icmp_ge (tgt := 121) hx hb dX8_digest_46 (by decide) (fun c8 => ?_) (fun c8 => ?_)
      · have hi : i = N 0 := by
          have := (nI_leI (a := N 0) (b := i) (by omega) (by omega)).mp c8
          omega
        subst hi
        refine lv_iconst (v := (0 : Int32)) hx hb dX8_digest_121 (by decide) ?_
        refine lv_istore_n (lv' := [(3, .int (0 : Int32)), (1, .long (dgB (rdF N U now pr mo F Lx) (rd1 N U now pr mo F Lx) (N 0))), (0, .ref ma)]) hx hb dX8_digest_122 rfl hl (by decide) rfl (fun ls hl => ?_)
        exact L123 (N 1 + 1) 0 (Nat.zero_le _) (by omega) _ _ _ _ _ _ (by omega) (by omega) hF5 hM (by rw [dgB_0, rd2_e]; exact lv_sub hl [0, 1, 2] rfl)
      · have hi : i < N 0 := by
          rcases Nat.lt_or_ge i (N 0) with z | z
          · exact z
          · exact absurd (nI_le z (by omega)) c8
        obtain ⟨d0, ed0⟩ : ∃ z, z = (dgB (rdF N U now pr mo F Lx) (rd1 N U now pr mo F Lx) i) := ⟨_, rfl⟩
        refine lv_iconst (v := (0 : Int32)) hx hb dX8_digest_49 (by decide) ?_
        refine lv_istore (lv' := [(4, .int (0 : Int32)), (3, .int (nI i)), (1, .long (dgB (rdF N U now pr mo F Lx) (rd1 N U now pr mo F Lx) i)), (0, .ref ma)]) hx hb dX8_digest_50 hl (by decide) rfl (fun ls hl => ?_)
        have L52 : ∀ (n2 j : Nat), j ≤ 12 → 12 - j < n2 → ∀ (M5 : HM) (H : Heap) (locs : List Loc) (ls : Array Slot) (cl2 sl2 : Nat), cl2 ≤ cl + 0 * j → sl2 ≤ sl + 0 * j → Fr t2 M1 M5 → Wd G M5 s H locs → lv_has ls 5 [(4, .int (nI j)), (1, .long (dgA (fun j => q_X8_fieldNow N U now 0 pr mo F Lx (nI i) (nI j)) d0 j)), (3, .int (nI i)), (0, .ref ma)] → W p l e ({ frames := 11, cells := 1149, slots := 11161, locals := 272 } : Room) s m [Value.ref ma].toArray below meth c H locs cl2 sl2 (MQ below (va_Ql (fun r M' => r = rdgQ N U now pr mo F Lx ∧ XP G M M' tx ma h0 fa lb t t2 N U now (0 : Int32) pr mo F Lx) (gB G) (gA G)) [.ref ma].toArray s 1149 11161 (gA G)) (F0 m 52 ls []) := by
          intro n2
          induction n2 with
          | zero => intro j h1 h2; omega
          | succ n2 ih2 =>
            intro j g1 g9 M5 H locs ls cl2 sl2 hcl2 hsl2 hF5 hM hl
            have hO5 := hO1.frame d2 hF5
            have hL5 := hL1.frame d3 hF5
            refine lv_iload hx hb dX8_digest_52 (lv_at hl 0 rfl) ?_
            refine lv_bipush (v := (11 : Int32)) hx hb dX8_digest_54 (by decide) ?_
            refine lv_icmp_gt (tgt := 80) hx hb dX8_digest_56 (by decide) (fun c9 => ?_) (fun c9 => ?_)
            · have hj : j = 12 := by
                have := (nI_ltI (a := 11) (b := j) (by decide) (by omega)).mp c9
                omega
              subst hj
              refine lv_lload_n hx hb dX8_digest_80 rfl (lv_at hl 1 rfl) ?_
              refine lv_ldc2 (v := 31) hx hb hown (hts _ wq_X8_172) dX8_digest_81 ?_
              refine lv_lmul hx hb dX8_digest_84 ?_
              refine lv_aload_n hx hb dX8_digest_85 rfl (lv_at hl 3 rfl) ?_
              refine lv_iload_n hx hb dX8_digest_86 rfl (lv_at hl 2 rfl) ?_
              refine lv_bipush (v := (25 : Int32)) hx hb dX8_digest_87 (by decide) ?_
              refine lv_bipush (v := (40 : Int32)) hx hb dX8_digest_89 (by decide) ?_
              refine g_callVi (n9 := 3) (As := [.int (nI i), .int (25 : Int32), .int (40 : Int32)]) (rest := [.long ((dgA (fun j => q_X8_fieldNow N U now 0 pr mo F Lx (nI i) (nI j)) d0 12) * 31)]) hx hb hml hl.1 hown hts hK hM (c_X8_readyNow l G _ tx ma h0 fa lb t t2 Z N U now 0 pr mo F Lx (nI i) (25 : Int32) (40 : Int32) hO5 hL5 d1 d2 d3 (ixn_ok hi (by omega))) wm_X8_152 wi_X8_readyNow wl_X8_readyNow wn_X8 wc_X8_readyNow (by decide +kernel) (hM.recv hK (ci := 9) rfl hO5.1) ⟨Nat.le_of_ble_eq_true rfl, Nat.le_of_ble_eq_true rfl⟩ ⟨by show cl2 + 1 ≤ 1149; omega, by show sl2 + 11 ≤ 11161; omega⟩ rfl (Nat.le_of_ble_eq_true rfl) rfl dX8_digest_91 (fun r_91 M7 H locs hq hM => ?_)
              obtain ⟨er, hF7⟩ := hq
              subst er
              have hF8 := Fr.tr hF5 hF7
              have hO8 := hO1.frame d2 hF8
              have hL8 := hL1.frame d3 hF8
              refine lv_i2l (v := (q_X8_readyNow N U now 0 pr mo F Lx (nI i) (25 : Int32) (40 : Int32)).toInt64) hx hb dX8_digest_94 rfl ?_
              refine lv_ladd hx hb dX8_digest_95 ?_
              refine lv_ldc2 (v := 31) hx hb hown (hts _ wq_X8_172) dX8_digest_96 ?_
              refine lv_lmul hx hb dX8_digest_99 ?_
              refine lv_aload_n hx hb dX8_digest_100 rfl (lv_at hl 3 rfl) ?_
              refine lv_iload_n hx hb dX8_digest_101 rfl (lv_at hl 2 rfl) ?_
              refine lv_bipush (v := (24 : Int32)) hx hb dX8_digest_102 (by decide) ?_
              refine lv_bipush (v := (30 : Int32)) hx hb dX8_digest_104 (by decide) ?_
              refine lv_bipush (v := (20 : Int32)) hx hb dX8_digest_106 (by decide) ?_
              refine lv_iconst (v := (0 : Int32)) hx hb dX8_digest_108 (by decide) ?_
              refine g_callVi (n9 := 5) (As := [.int (nI i), .int (24 : Int32), .int (30 : Int32), .int (20 : Int32), .int (0 : Int32)]) (rest := [.long ((((dgA (fun j => q_X8_fieldNow N U now 0 pr mo F Lx (nI i) (nI j)) d0 12) * 31) + (q_X8_readyNow N U now 0 pr mo F Lx (nI i) (25 : Int32) (40 : Int32)).toInt64) * 31)]) hx hb hml hl.1 hown hts hK hM (c_X8_waitingNow l G _ tx ma h0 fa lb t t2 Z N U now 0 pr mo F Lx (nI i) (24 : Int32) (30 : Int32) (20 : Int32) (0 : Int32) hO8 hL8 d1 d2 d3 (ixn_ok hi (by omega)) (by decide) (by decide)) wm_X8_166 wi_X8_waitingNow wl_X8_waitingNow wn_X8 wc_X8_waitingNow (by decide +kernel) (hM.recv hK (ci := 9) rfl hO8.1) ⟨Nat.le_of_ble_eq_true rfl, Nat.le_of_ble_eq_true rfl⟩ ⟨by show (cl2 + 1) + 1 ≤ 1149; omega, by show (sl2 + 11) + 11 ≤ 11161; omega⟩ rfl (Nat.le_of_ble_eq_true rfl) rfl dX8_digest_109 (fun r_109 M7 H locs hq hM => ?_)
              obtain ⟨er, hF7⟩ := hq
              subst er
              have hF8 := Fr.tr hF8 hF7
              have hO8 := hO1.frame d2 hF8
              have hL8 := hL1.frame d3 hF8
              refine lv_i2l (v := (q_X8_waitingNow N U now 0 pr mo F Lx (nI i) (24 : Int32) (30 : Int32) (20 : Int32) (0 : Int32)).toInt64) hx hb dX8_digest_112 rfl ?_
              refine lv_ladd hx hb dX8_digest_113 ?_
              refine lv_lstore_n (lv' := [(1, .long (((((dgA (fun j => q_X8_fieldNow N U now 0 pr mo F Lx (nI i) (nI j)) d0 12) * 31) + (q_X8_readyNow N U now 0 pr mo F Lx (nI i) (25 : Int32) (40 : Int32)).toInt64) * 31) + (q_X8_waitingNow N U now 0 pr mo F Lx (nI i) (24 : Int32) (30 : Int32) (20 : Int32) (0 : Int32)).toInt64)), (4, .int (nI 12)), (3, .int (nI i)), (0, .ref ma)]) hx hb dX8_digest_114 rfl hl (by decide) rfl (fun ls hl => ?_)
              refine lv_iinc (v := (nI (i + 1))) (lv' := [(3, .int (nI (i + 1))), (1, .long (((((dgA (fun j => q_X8_fieldNow N U now 0 pr mo F Lx (nI i) (nI j)) d0 12) * 31) + (q_X8_readyNow N U now 0 pr mo F Lx (nI i) (25 : Int32) (40 : Int32)).toInt64) * 31) + (q_X8_waitingNow N U now 0 pr mo F Lx (nI i) (24 : Int32) (30 : Int32) (20 : Int32) (0 : Int32)).toInt64)), (4, .int (nI 12)), (0, .ref ma)]) hx hb dX8_digest_115 hl (k := 2) rfl (nI_1 i) (by decide) rfl (fun ls hl => ?_)
              refine lv_goto (tgt := 38) hx hb dX8_digest_118 (by decide) ?_
              exact ih (i + 1) (by omega) (by omega) _ _ _ _ _ _ (by omega) (by omega) hF8 hM (by rw [show dgB (rdF N U now pr mo F Lx) (rd1 N U now pr mo F Lx) (i + 1) = lD (lD (dgA (fun j => q_X8_fieldNow N U now 0 pr mo F Lx (nI i) (nI j)) d0 12) (q_X8_readyNow N U now 0 pr mo F Lx (nI i) 25 40)) (q_X8_waitingNow N U now 0 pr mo F Lx (nI i) 24 30 20 0) from by rw [ed0]; exact dgB_s]; exact lv_sub hl [0, 1, 3] rfl)
            · have hj : j < 12 := by
                rcases Nat.lt_or_ge j 12 with z | z
                · exact z
                · exact absurd ((nI_ltI (a := 11) (b := j) (by decide) (by omega)).mpr (by omega)) c9
              refine lv_lload_n hx hb dX8_digest_59 rfl (lv_at hl 1 rfl) ?_
              refine lv_ldc2 (v := 31) hx hb hown (hts _ wq_X8_172) dX8_digest_60 ?_
              refine lv_lmul hx hb dX8_digest_63 ?_
              refine lv_aload_n hx hb dX8_digest_64 rfl (lv_at hl 3 rfl) ?_
              refine lv_iload_n hx hb dX8_digest_65 rfl (lv_at hl 2 rfl) ?_
              refine lv_iload hx hb dX8_digest_66 (lv_at hl 0 rfl) ?_
              refine g_callVi (n9 := 2) (As := [.int (nI i), .int (nI j)]) (rest := [.long ((dgA (fun j => q_X8_fieldNow N U now 0 pr mo F Lx (nI i) (nI j)) d0 j) * 31)]) hx hb hml hl.1 hown hts hK hM (c_X8_fieldNow l G _ tx ma h0 fa lb t t2 Z N U now 0 pr mo F Lx (nI i) (nI j) hO5 hL5 d1 d2 d3 (ixn_ok hi (by omega)) (ixn_ok (by omega) (by decide))) wm_X8_136 wi_X8_fieldNow wl_X8_fieldNow wn_X8 wc_X8_fieldNow (by decide +kernel) (hM.recv hK (ci := 9) rfl hO5.1) ⟨Nat.le_of_ble_eq_true rfl, Nat.le_of_ble_eq_true rfl⟩ ⟨by show cl2 + 0 ≤ 1149; omega, by show sl2 + 0 ≤ 11161; omega⟩ rfl (Nat.le_of_ble_eq_true rfl) rfl dX8_digest_68 (fun r_68 M7 H locs hq hM => ?_)
              obtain ⟨er, hF7⟩ := hq
              subst er
              have hF8 := Fr.tr hF5 hF7
              have hO8 := hO1.frame d2 hF8
              have hL8 := hL1.frame d3 hF8
              refine lv_i2l (v := (q_X8_fieldNow N U now 0 pr mo F Lx (nI i) (nI j)).toInt64) hx hb dX8_digest_71 rfl ?_
              refine lv_ladd hx hb dX8_digest_72 ?_
              refine lv_lstore_n (lv' := [(1, .long (((dgA (fun j => q_X8_fieldNow N U now 0 pr mo F Lx (nI i) (nI j)) d0 j) * 31) + (q_X8_fieldNow N U now 0 pr mo F Lx (nI i) (nI j)).toInt64)), (4, .int (nI j)), (3, .int (nI i)), (0, .ref ma)]) hx hb dX8_digest_73 rfl hl (by decide) rfl (fun ls hl => ?_)
              refine lv_iinc (v := (nI (j + 1))) (lv' := [(4, .int (nI (j + 1))), (1, .long (((dgA (fun j => q_X8_fieldNow N U now 0 pr mo F Lx (nI i) (nI j)) d0 j) * 31) + (q_X8_fieldNow N U now 0 pr mo F Lx (nI i) (nI j)).toInt64)), (3, .int (nI i)), (0, .ref ma)]) hx hb dX8_digest_74 hl (k := 1) rfl (nI_1 j) (by decide) rfl (fun ls hl => ?_)
              refine lv_goto (tgt := 52) hx hb dX8_digest_77 (by decide) ?_
              exact ih2 (j + 1) (by omega) (by omega) _ _ _ _ _ _ (by omega) (by omega) hF8 hM (by rw [show dgA (fun j => q_X8_fieldNow N U now 0 pr mo F Lx (nI i) (nI j)) d0 (j + 1) = (((dgA (fun j => q_X8_fieldNow N U now 0 pr mo F Lx (nI i) (nI j)) d0 j) * 31) + (q_X8_fieldNow N U now 0 pr mo F Lx (nI i) (nI j)).toInt64) from dgA_s]; exact lv_sub hl [0, 1, 2, 3] rfl)
        rw [← ed0] at hl
        exact L52 (12 + 1) 0 (Nat.zero_le _) (by omega) _ _ _ _ _ _ (by omega) (by omega) hF5 hM (by rw [dgA_0]; exact lv_sub hl [0, 2, 1, 3] rfl)
  have L11 : ∀ (n i : Nat), i ≤ 13 → 13 - i < n → ∀ (M5 : HM) (H : Heap) (locs : List Loc) (ls : Array Slot) (cl sl : Nat), cl ≤ i → sl ≤ 13 * i → Fr t2 M1 M5 → Wd G M5 s H locs → lv_has ls 5 [(3, .int (nI i)), (1, .long (dgA (fun j => q_X8_manyNow N U now 0 pr mo F Lx (nI j)) 7812 i)), (0, .ref ma)] → W p l e ({ frames := 11, cells := 1149, slots := 11161, locals := 272 } : Room) s m [Value.ref ma].toArray below meth c H locs cl sl (MQ below (va_Ql (fun r M' => r = rdgQ N U now pr mo F Lx ∧ XP G M M' tx ma h0 fa lb t t2 N U now (0 : Int32) pr mo F Lx) (gB G) (gA G)) [.ref ma].toArray s 1149 11161 (gA G)) (F0 m 11 ls []) := by
    intro n
    induction n with
    | zero => intro i h1 h2; omega
    | succ n ih =>
      intro i h1 h9 M5 H locs ls cl sl hcl hsl hF5 hM hl
      have hO5 := hO1.frame d2 hF5
      have hL5 := hL1.frame d3 hF5
      refine lv_iload_n hx hb dX8_digest_11 rfl (lv_at hl 0 rfl) ?_
      refine lv_bipush (v := (12 : Int32)) hx hb dX8_digest_12 (by decide) ?_
      refine lv_icmp_gt (tgt := 36) hx hb dX8_digest_14 (by decide) (fun c10 => ?_) (fun c10 => ?_)
      · have hj : i = 13 := by
          have := (nI_ltI (a := 12) (b := i) (by decide) (by omega)).mp c10
          omega
        subst hj
        refine lv_iconst (v := (0 : Int32)) hx hb dX8_digest_36 (by decide) ?_
        refine lv_istore_n (lv' := [(3, .int (0 : Int32)), (1, .long (dgA (fun j => q_X8_manyNow N U now 0 pr mo F Lx (nI j)) 7812 13)), (0, .ref ma)]) hx hb dX8_digest_37 rfl hl (by decide) rfl (fun ls hl => ?_)
        exact L38 (N 0 + 1) 0 (Nat.zero_le _) (by omega) _ _ _ _ _ _ (by omega) (by omega) hF5 hM (by rw [dgB_0, rd1_e]; exact lv_sub hl [0, 1, 2] rfl)
      · have hj : i < 13 := by
          rcases Nat.lt_or_ge i 13 with z | z
          · exact z
          · exact absurd ((nI_ltI (a := 12) (b := i) (by decide) (by omega)).mpr (by omega)) c10
        refine lv_lload_n hx hb dX8_digest_17 rfl (lv_at hl 1 rfl) ?_
        refine lv_ldc2 (v := 31) hx hb hown (hts _ wq_X8_172) dX8_digest_18 ?_
        refine lv_lmul hx hb dX8_digest_21 ?_
        refine lv_aload_n hx hb dX8_digest_22 rfl (lv_at hl 2 rfl) ?_
        refine lv_iload_n hx hb dX8_digest_23 rfl (lv_at hl 0 rfl) ?_
        refine g_callVi (n9 := 1) (As := [.int (nI i)]) (rest := [.long ((dgA (fun j => q_X8_manyNow N U now 0 pr mo F Lx (nI j)) 7812 i) * 31)]) hx hb hml hl.1 hown hts hK hM (c_X8_manyNow l G _ tx ma h0 fa lb t t2 Z N U now 0 pr mo F Lx (nI i) hO5 hL5 d1 d2 d3 (ixn_ok (by omega) (by decide))) wm_X8_145 wi_X8_manyNow wl_X8_manyNow wn_X8 wc_X8_manyNow (by decide +kernel) (hM.recv hK (ci := 9) rfl hO5.1) ⟨Nat.le_of_ble_eq_true rfl, Nat.le_of_ble_eq_true rfl⟩ ⟨by show cl + 1 ≤ 1149; omega, by show sl + 13 ≤ 11161; omega⟩ rfl (Nat.le_of_ble_eq_true rfl) rfl dX8_digest_24 (fun r_24 M7 H locs hq hM => ?_)
        obtain ⟨er, hF7⟩ := hq
        subst er
        have hF8 := Fr.tr hF5 hF7
        have hO8 := hO1.frame d2 hF8
        have hL8 := hL1.frame d3 hF8
        refine lv_i2l (v := (q_X8_manyNow N U now 0 pr mo F Lx (nI i)).toInt64) hx hb dX8_digest_27 rfl ?_
        refine lv_ladd hx hb dX8_digest_28 ?_
        refine lv_lstore_n (lv' := [(1, .long (((dgA (fun j => q_X8_manyNow N U now 0 pr mo F Lx (nI j)) 7812 i) * 31) + (q_X8_manyNow N U now 0 pr mo F Lx (nI i)).toInt64)), (3, .int (nI i)), (0, .ref ma)]) hx hb dX8_digest_29 rfl hl (by decide) rfl (fun ls hl => ?_)
        refine lv_iinc (v := (nI (i + 1))) (lv' := [(3, .int (nI (i + 1))), (1, .long (((dgA (fun j => q_X8_manyNow N U now 0 pr mo F Lx (nI j)) 7812 i) * 31) + (q_X8_manyNow N U now 0 pr mo F Lx (nI i)).toInt64)), (0, .ref ma)]) hx hb dX8_digest_30 hl (k := 1) rfl (nI_1 i) (by decide) rfl (fun ls hl => ?_)
        refine lv_goto (tgt := 11) hx hb dX8_digest_33 (by decide) ?_
        exact ih (i + 1) (by omega) (by omega) _ _ _ _ _ _ (by omega) (by omega) hF8 hM (by rw [show dgA (fun j => q_X8_manyNow N U now 0 pr mo F Lx (nI j)) 7812 (i + 1) = (((dgA (fun j => q_X8_manyNow N U now 0 pr mo F Lx (nI j)) 7812 i) * 31) + (q_X8_manyNow N U now 0 pr mo F Lx (nI i)).toInt64) from dgA_s]; exact lv_sub hl [0, 1, 2] rfl)
  refine lv_iconst (v := (0 : Int32)) hx hb dX8_digest_9 (by decide) ?_
  refine lv_istore_n (lv' := [(3, .int (0 : Int32)), (1, .long 7812), (0, .ref ma)]) hx hb dX8_digest_10 rfl hl (by decide) rfl (fun ls hl => ?_)
  exact L11 14 0 (Nat.zero_le _) (by omega) M1 _ _ _ 0 0 (Nat.zero_le _) (Nat.zero_le _) Fr.rf hM (by rw [dgA_0]; exact lv_sub hl [0, 1, 2] rfl)

/-- hours, one behind another -/
def hrsP (n0 n1 n2 n3 : Nat) (tr now price w a r : Int32) : Nat → TS → TS
  | 0, S => S
  | k + 1, S => hrP n0 n1 n2 n3 tr (now + nI k) price w a r (hrsP n0 n1 n2 n3 tr now price w a r k S)
theorem hrP_ge {n0 n1 n2 n3 : Nat} {tr now price w a r : Int32} {S : TS} : S.2.1 ≤ (hrP n0 n1 n2 n3 tr now price w a r S).2.1 := trsP_ge (S := (cosP n0 (clk (now + 1)) r n1 (fisP (clk (now + 1)) w a r n0 S.1), S.2))
theorem hrsP_mono {n0 n1 n2 n3 : Nat} {tr now price w a r : Int32} {S : TS} {i j : Nat} (h : i ≤ j) : (hrsP n0 n1 n2 n3 tr now price w a r i S).2.1 ≤ (hrsP n0 n1 n2 n3 tr now price w a r j S).2.1 := by
  induction h with
  | refl => exact Nat.le_refl _
  | step _ ih => exact Nat.le_trans ih hrP_ge
theorem hrsP_ge {n0 n1 n2 n3 : Nat} {tr now price w a r : Int32} {S : TS} {i : Nat} : S.2.1 ≤ (hrsP n0 n1 n2 n3 tr now price w a r i S).2.1 := hrsP_mono (Nat.zero_le i)
theorem now_s {now : Int32} {i : Nat} : now + nI i + 1 = now + nI (i + 1) := by rw [Int32.add_assoc, nI_1]
theorem ix_nI {q : Int32} (h : ¬ q < 0) : q = nI (ix q) ∧ ix q < 2 ^ 31 := by
  obtain ⟨j, h1, h2⟩ := nI_of h
  subst h2
  unfold ix
  rw [nI_clamp h1]
  exact ⟨rfl, h1⟩
theorem out_nn {a b c : Int32} (hb : 0 ≤ b) (h : t_X6_isOutside_0 a b c = 0) : ¬ a < 0 := by
  unfold t_X6_isOutside_0 at h
  intro z
  rw [if_pos (Int32.lt_of_lt_of_le z hb)] at h
  exact absurd h (by decide)
theorem fore_nn {a b c d : Int32} (h : t_X6_isNoForecast_0 a b c d = 0) : ¬ a < 0 := by
  unfold t_X6_isNoForecast_0 at h
  by_cases z : t_X6_isOutside_0 a 1 48 = 0
  · exact out_nn (by decide) z
  · exfalso
    simp [z] at h
def kc_X6_pass (N : Nat → Nat) (T : Tb) (tr now price money : Int32) (p0 p1 p2 p3 : Int32) : Nat := if (t_X6_isNoForecast_0 p0 p1 p2 p3) = 0 then (if (now + p0) ≤ (2400 : Int32) then 0 else 3) else 2
set_option maxHeartbeats 4000000 in
set_option maxRecDepth 100000 in
theorem c_X6_pass (l : Launch) (hst : l.stackTraces = false) (G : GG) (M : HM) (xa rx h2 h3 : Nat) (t h0 : Nat) (Y : LY) (N : Nat → Nat) (T : Tb) (tr now price money : Int32) (p0 p1 p2 p3 : Int32) (ho : M xa = some (rx, .inr (7, [.ref h0, .ref h2, .ref h3]))) (hrx : rx ≠ t) (hL : LdR G M t h0 Y N T tr now price money) (hN4 : kc_X6_pass N T tr now price money p0 p1 p2 p3 = 0 → (hrsP (N 0) (N 1) (N 2) (N 3) tr now price p1 p2 p3 (ix p0) (T, N 4, money)).2.1 < 600): Xi l yX6_pass (.code yX6_pass cX6_pass 7 (some .int) :: AL) 11 265 (2 * ((hrsP (N 0) (N 1) (N 2) (N 3) tr now price p1 p2 p3 (ix p0) (T, N 4, money)).2.1 - N 4) + 1) (1000 * ((hrsP (N 0) (N 1) (N 2) (N 3) tr now price p1 p2 p3 (ix p0) (T, N 4, money)).2.1 - N 4) + 6) [.ref xa, .int p0, .int p1, .int p2, .int p3] G M (fun r M' => kc_X6_pass N T tr now price money p0 p1 p2 p3 = 0 ∧ r = (nI (hrsP (N 0) (N 1) (N 2) (N 3) tr now price p1 p2 p3 (ix p0) (T, N 4, money)).2.1 - nI (N 4)) ∧ ∃ Y', LdR G M' t h0 Y' (nu N 4 (hrsP (N 0) (N 1) (N 2) (N 3) tr now price p1 p2 p3 (ix p0) (T, N 4, money)).2.1) (hrsP (N 0) (N 1) (N 2) (N 3) tr now price p1 p2 p3 (ix p0) (T, N 4, money)).1 tr (now + p0) price (hrsP (N 0) (N 1) (N 2) (N 3) tr now price p1 p2 p3 (ix p0) (T, N 4, money)).2.2 ∧ Fr t M M') (EX (kc_X6_pass N T tr now price money p0 p1 p2 p3)) := by
  refine Xi.go (by decide) (Nat.le_of_ble_eq_true rfl) ?_
  intro p e s m below meth c ls hx hb hr hml hown hlocks ht hts hK hX hM hl
  have hown : s.vm.findClass RX6 = some m.cls := hown
  have hl : lv_has ls 7 [(0, .ref xa), (1, .int p0), (2, .int p1), (3, .int p2), (4, .int p3)] := hl
  obtain ⟨mc, emc⟩ : ∃ z, z = (2 * ((hrsP (N 0) (N 1) (N 2) (N 3) tr now price p1 p2 p3 (ix p0) (T, N 4, money)).2.1 - N 4) + 1) := ⟨_, rfl⟩
  obtain ⟨ms, ems⟩ : ∃ z, z = (1000 * ((hrsP (N 0) (N 1) (N 2) (N 3) tr now price p1 p2 p3 (ix p0) (T, N 4, money)).2.1 - N 4) + 6) := ⟨_, rfl⟩
  rw [← emc, ← ems]
  refine lv_iload_n hx hb dX6_pass_0 rfl (lv_at hl 1 rfl) ?_
  refine lv_iload_n hx hb dX6_pass_1 rfl (lv_at hl 2 rfl) ?_
  refine lv_iload_n hx hb dX6_pass_2 rfl (lv_at hl 3 rfl) ?_
  refine lv_iload hx hb dX6_pass_3 (lv_at hl 4 rfl) ?_
  refine g_callSi (n9 := 4) (As := [.int p0, .int p1, .int p2, .int p3]) (rest := []) hx hb hml hl.1 hown hts hK hM (c_X6_isNoForecast l G _ p0 p1 p2 p3 ) wm_X6_190 wt_X6_isNoForecast wn_X6 wc_X6_isNoForecast (by decide +kernel) ⟨Nat.le_of_ble_eq_true rfl, Nat.le_of_ble_eq_true rfl⟩ ⟨Nat.le_of_ble_eq_true rfl, Nat.le_of_ble_eq_true rfl⟩ rfl (Nat.le_of_ble_eq_true rfl) rfl dX6_pass_5 (fun r_5 M1 H locs hq hM => ?_)
  have hq1 := hq.1.symm
  have hq2 := hq.2.symm
  subst hq1 hq2
  refine lv_if_eq (tgt := 21) hx hb dX6_pass_8 (by decide) (fun c1 => ?_) (fun c1 => ?_)
  · refine lv_aload_n hx hb dX6_pass_21 rfl (lv_at hl 0 rfl) ?_
    refine fg_X6_12 hx hb hts hown hK hM ho dX6_pass_22 ?_
    refine fg_X6_196 hx hb hts hown hK hM hL.1 dX6_pass_25 ?_
    refine lv_iload_n hx hb dX6_pass_28 rfl (lv_at hl 1 rfl) ?_
    refine lv_iadd hx hb dX6_pass_29 ?_
    refine lv_sipush (v := (2400 : Int32)) hx hb dX6_pass_30 (by decide) ?_
    refine lv_icmp_le (tgt := 46) hx hb dX6_pass_33 (by decide) (fun c2 => ?_) (fun c2 => ?_)
    · refine lv_aload_n hx hb dX6_pass_46 rfl (lv_at hl 0 rfl) ?_
      refine fg_X6_12 hx hb hts hown hK hM ho dX6_pass_47 ?_
      refine fg_X6_201 hx hb hts hown hK hM hL.1 dX6_pass_50 ?_
      refine g_callVi (n9 := 0) (As := []) (rest := []) hx hb hml hl.1 hown hts hK hM (c_Jx4a65c_size_8abf5 l G _ (Y.1 4) t _ _ _ ((hL.2.1 4 (by decide)).1)) wm_X6_50 wi_Jx4a65c_size_8abf5 wl_Jx4a65c_size_8abf5 wn_Jx4a65c wc_Jx4a65c_size_8abf5 (by decide +kernel) (hM.recv hK (ci := 0) rfl ((hL.2.1 4 (by decide)).1)) ⟨Nat.le_of_ble_eq_true rfl, Nat.le_of_ble_eq_true rfl⟩ ⟨by show _ ≤ mc; omega, by show _ ≤ ms; omega⟩ rfl (Nat.le_of_ble_eq_true rfl) rfl dX6_pass_53 (fun r_53 Mz H locs hq hM => ?_)
      have hq1 := hq.1.symm
      have hq2 := hq.2.symm
      subst hq1 hq2
      refine lv_istore (lv' := [(5, .int (nI (N 4))), (0, .ref xa), (1, .int p0), (2, .int p1), (3, .int p2), (4, .int p3)]) hx hb dX6_pass_56 hl (by decide) rfl (fun ls hl => ?_)
      refine lv_iconst (v := (0 : Int32)) hx hb dX6_pass_58 (by decide) ?_
      refine lv_istore (lv' := [(6, .int (0 : Int32)), (5, .int (nI (N 4))), (0, .ref xa), (1, .int p0), (2, .int p1), (3, .int p2), (4, .int p3)]) hx hb dX6_pass_59 hl (by decide) rfl (fun ls hl => ?_)
      obtain ⟨hh, hh31⟩ := ix_nI (fore_nn c1)
      obtain ⟨n9, en9⟩ : ∃ z, z = ix p0 := ⟨_, rfl⟩
      rw [← en9] at hh hh31
      rw [← en9] at emc ems
      have hk9 : kc_X6_pass N T tr now price money p0 p1 p2 p3 = 0 := (by unfold kc_X6_pass; rw [if_pos c1, if_pos c2])
      have hN9 : (hrsP (N 0) (N 1) (N 2) (N 3) tr now price p1 p2 p3 n9 (T, N 4, money)).2.1 < 600 := by rw [en9]; exact hN4 hk9
      have L61 : ∀ (n i : Nat), i ≤ n9 → n9 - i < n → ∀ (M1 : HM) (H : Heap) (locs : List Loc) (ls : Array Slot) (Y1 : LY) (S1 : TS), S1 = (hrsP (N 0) (N 1) (N 2) (N 3) tr now price p1 p2 p3 i (T, N 4, money)) → LdR G M1 t h0 Y1 (nu N 4 S1.2.1) S1.1 tr (now + nI i) price S1.2.2 → Fr t M M1 → Wd G M1 s H locs → lv_has ls 7 [(6, .int (nI i)), (5, .int (nI (N 4))), (0, .ref xa), (1, .int p0), (2, .int p1), (3, .int p2), (4, .int p3)] → W p l e ({ frames := 11, cells := mc, slots := ms, locals := 265 } : Room) s m [.ref xa, .int p0, .int p1, .int p2, .int p3].toArray below meth c H locs (2 * (S1.2.1 - N 4)) (1000 * (S1.2.1 - N 4)) (vx_MQ below (va_Qi (fun r M' => kc_X6_pass N T tr now price money p0 p1 p2 p3 = 0 ∧ r = (nI (hrsP (N 0) (N 1) (N 2) (N 3) tr now price p1 p2 p3 (ix p0) (T, N 4, money)).2.1 - nI (N 4)) ∧ ∃ Y', LdR G M' t h0 Y' (nu N 4 (hrsP (N 0) (N 1) (N 2) (N 3) tr now price p1 p2 p3 (ix p0) (T, N 4, money)).2.1) (hrsP (N 0) (N 1) (N 2) (N 3) tr now price p1 p2 p3 (ix p0) (T, N 4, money)).1 tr (now + p0) price (hrsP (N 0) (N 1) (N 2) (N 3) tr now price p1 p2 p3 (ix p0) (T, N 4, money)).2.2 ∧ Fr t M M') (gB G) (gA G)) (gX G M (EX (kc_X6_pass N T tr now price money p0 p1 p2 p3))) [.ref xa, .int p0, .int p1, .int p2, .int p3].toArray s mc ms (gA G)) (F0 m 61 ls []) := by
        intro n
        induction n with
        | zero => intro i h1 h2; omega
        | succ n ih =>
          intro i h1 h2 M1 H locs ls Y1 S1 eS hL1 hF1 hM hl
          have hle : S1.2.1 ≤ (hrsP (N 0) (N 1) (N 2) (N 3) tr now price p1 p2 p3 n9 (T, N 4, money)).2.1 := by rw [eS]; exact hrsP_mono h1
          have hge : N 4 ≤ S1.2.1 := by rw [eS]; exact hrsP_ge (S := (T, N 4, money))
          refine lv_iload hx hb dX6_pass_61 (lv_at hl 0 rfl) ?_
          refine lv_iload_n hx hb dX6_pass_63 rfl (lv_at hl 3 rfl) ?_
          refine lv_icmp_ge (tgt := 84) hx hb dX6_pass_64 (by decide) (fun c3 => ?_) (fun c3 => ?_)
          · rw [hh] at c3
            have hi : i = n9 := by
              have := (nI_leI (a := n9) (b := i) (by omega) (by omega)).mp c3
              omega
            subst hi
            refine lv_aload_n hx hb dX6_pass_84 rfl (lv_at hl 2 rfl) ?_
            refine fg_X6_12 hx hb hts hown hK hM (hF1 _ _ _ hrx ho) dX6_pass_85 ?_
            refine fg_X6_201 hx hb hts hown hK hM hL1.1 dX6_pass_88 ?_
            refine g_callVi (n9 := 0) (As := []) (rest := []) hx hb hml hl.1 hown hts hK hM (c_Jx4a65c_size_8abf5 l G _ (Y1.1 4) t _ _ _ ((hL1.2.1 4 (by decide)).1)) wm_X6_50 wi_Jx4a65c_size_8abf5 wl_Jx4a65c_size_8abf5 wn_Jx4a65c wc_Jx4a65c_size_8abf5 (by decide +kernel) (hM.recv hK (ci := 0) rfl ((hL1.2.1 4 (by decide)).1)) ⟨Nat.le_of_ble_eq_true rfl, Nat.le_of_ble_eq_true rfl⟩ ⟨by show _ ≤ mc; omega, by show _ ≤ ms; omega⟩ rfl (Nat.le_of_ble_eq_true rfl) rfl dX6_pass_91 (fun r_91 Mz H locs hq hM => ?_)
            have hq1 := hq.1.symm
            have hq2 := hq.2.symm
            subst hq1 hq2
            refine lv_iload hx hb dX6_pass_94 (lv_at hl 1 rfl) ?_
            refine lv_isub hx hb dX6_pass_96 ?_
            refine vx_ret ?_
            refine g_iret hx hb hr hlocks hM (by omega) (by omega) ⟨hk9, ?_, Y1, ?_, hF1⟩ dX6_pass_97
            · rw [← en9, ← eS]; rfl
            · rw [← en9, ← eS, hh]; exact hL1
          · rw [hh] at c3
            have hi : i < n9 := by
              rcases Nat.lt_or_ge i n9 with z | z
              · exact z
              · exact absurd (nI_le z (by omega)) c3
            refine lv_aload_n hx hb dX6_pass_67 rfl (lv_at hl 2 rfl) ?_
            refine fg_X6_12 hx hb hts hown hK hM (hF1 _ _ _ hrx ho) dX6_pass_68 ?_
            refine lv_iload_n hx hb dX6_pass_71 rfl (lv_at hl 4 rfl) ?_
            refine lv_iload_n hx hb dX6_pass_72 rfl (lv_at hl 5 rfl) ?_
            refine lv_iload hx hb dX6_pass_73 (lv_at hl 6 rfl) ?_
            have en : (hrP (N 0) (N 1) (N 2) (N 3) tr (now + nI i) price p1 p2 p3 S1) = hrsP (N 0) (N 1) (N 2) (N 3) tr now price p1 p2 p3 (i + 1) (T, N 4, money) := by rw [eS]; rfl
            have hle2 : (hrP (N 0) (N 1) (N 2) (N 3) tr (now + nI i) price p1 p2 p3 S1).2.1 ≤ (hrsP (N 0) (N 1) (N 2) (N 3) tr now price p1 p2 p3 n9 (T, N 4, money)).2.1 := by rw [en]; exact hrsP_mono hi
            have hge2 : S1.2.1 ≤ (hrP (N 0) (N 1) (N 2) (N 3) tr (now + nI i) price p1 p2 p3 S1).2.1 := hrP_ge
            refine g_callVv (n9 := 3) (As := [.int p1, .int p2, .int p3]) (rest := []) hx hb hml hl.1 hown hts hK hM (c_X3_passHour l G _ t h0 Y1 (nu N 4 S1.2.1) S1.1 tr (now + nI i) price S1.2.2 p1 p2 p3 hL1 (by show (hrP (N 0) (N 1) (N 2) (N 3) tr (now + nI i) price p1 p2 p3 S1).2.1 < 600; omega)) wm_X6_204 wi_X3_passHour wl_X3_passHour wn_X3 wc_X3_passHour (by decide +kernel) (hM.recv hK (ci := 4) rfl hL1.1) ⟨Nat.le_of_ble_eq_true rfl, Nat.le_of_ble_eq_true rfl⟩ ⟨by show 2 * (S1.2.1 - N 4) + 2 * ((hrP (N 0) (N 1) (N 2) (N 3) tr (now + nI i) price p1 p2 p3 S1).2.1 - S1.2.1) ≤ mc; omega, by show 1000 * (S1.2.1 - N 4) + 1000 * ((hrP (N 0) (N 1) (N 2) (N 3) tr (now + nI i) price p1 p2 p3 S1).2.1 - S1.2.1) ≤ ms; omega⟩ rfl (Nat.le_of_ble_eq_true rfl) rfl dX6_pass_75 (fun M9 H locs hq hM => ?_)
            obtain ⟨Y9, g1, g2, g3, g4⟩ := hq
            replace g1 : LdR G M9 t h0 Y9 (nu N 4 (hrP (N 0) (N 1) (N 2) (N 3) tr (now + nI i) price p1 p2 p3 S1).2.1) (hrP (N 0) (N 1) (N 2) (N 3) tr (now + nI i) price p1 p2 p3 S1).1 tr (now + nI (i + 1)) price (hrP (N 0) (N 1) (N 2) (N 3) tr (now + nI i) price p1 p2 p3 S1).2.2 := by rw [nu_nu, now_s] at g1; exact g1
            refine W.cst (cells' := 2 * ((hrP (N 0) (N 1) (N 2) (N 3) tr (now + nI i) price p1 p2 p3 S1).2.1 - N 4)) (slots' := 1000 * ((hrP (N 0) (N 1) (N 2) (N 3) tr (now + nI i) price p1 p2 p3 S1).2.1 - N 4)) (by show 2 * (S1.2.1 - N 4) + 2 * ((hrP (N 0) (N 1) (N 2) (N 3) tr (now + nI i) price p1 p2 p3 S1).2.1 - S1.2.1) = _; omega) (by show 1000 * (S1.2.1 - N 4) + 1000 * ((hrP (N 0) (N 1) (N 2) (N 3) tr (now + nI i) price p1 p2 p3 S1).2.1 - S1.2.1) = _; omega) ?_
            refine lv_iinc (v := (nI (i + 1))) (lv' := [(6, .int (nI (i + 1))), (5, .int (nI (N 4))), (0, .ref xa), (1, .int p0), (2, .int p1), (3, .int p2), (4, .int p3)]) hx hb dX6_pass_78 hl (k := 0) rfl (nI_1 i) (by decide) rfl (fun ls hl => ?_)
            refine lv_goto (tgt := 61) hx hb dX6_pass_81 (by decide) ?_
            exact ih (i + 1) (by omega) (by omega) M9 _ _ _ Y9 _ en g1 (Fr.tr hF1 g2) hM (lv_sub hl [0, 1, 2, 3, 4, 5, 6] rfl)
      refine W.cst (cells' := 2 * (N 4 - N 4)) (slots' := 1000 * (N 4 - N 4)) (by omega) (by omega) ?_
      exact L61 (n9 + 1) 0 (Nat.zero_le _) (by omega) M _ _ _ Y (T, N 4, money) rfl (by show LdR G M t h0 Y (nu N 4 (N 4)) T tr (now + 0) price money; rw [nu_i, Int32.add_zero]; exact hL) Fr.rf hM (lv_sub hl [0, 1, 2, 3, 4, 5, 6] rfl)
    · exact g_thrS hx hb hst hts hown hX hM hml hl.1 hlocks ht (Or.inr (Or.inr ⟨(by unfold kc_X6_pass; rw [if_pos c1, if_neg c2]), rfl⟩)) tx_199 dX6_pass_36 dX6_pass_39 dX6_pass_40 dX6_pass_42 dX6_pass_45 ⟨Nat.le_of_ble_eq_true rfl, Nat.le_of_ble_eq_true rfl⟩ (Nat.le_of_ble_eq_true rfl) ⟨by show _ ≤ mc; omega, by show _ ≤ ms; omega⟩ ⟨by omega, by omega⟩
  · exact g_thrA hx hb hst hts hown hX hM hml hl.1 hlocks ht (Or.inr (Or.inl ⟨(by unfold kc_X6_pass; rw [if_neg c1]), rfl⟩)) tx_194 dX6_pass_11 dX6_pass_14 dX6_pass_15 dX6_pass_17 dX6_pass_20 ⟨Nat.le_of_ble_eq_true rfl, Nat.le_of_ble_eq_true rfl⟩ (Nat.le_of_ble_eq_true rfl) ⟨by show _ ≤ mc; omega, by show _ ≤ ms; omega⟩ ⟨by omega, by omega⟩

theorem eC_neX {r r' k : Nat} {f : Row} {fs : List Value} (h : kc k ≠ 7) : some (r', (.inr (7, fs) : va_E)) ≠ some (r, eC k f) := by
  obtain ⟨a, ha⟩ := eC_c k f
  rw [ha]
  intro z
  injection z with z
  injection z with z1 z2
  injection z2 with z3
  injection z3 with z4 z5
  exact h z4.symm
/-- a field's row behind so many hours -/
def fhP (now w a r : Int32) : Nat → Row → Row
  | 0, f => f
  | k + 1, f => R_X2_passHour_0 (fhP now w a r k f) (clk (now + nI (k + 1))) w a r
/-- in which hour it is fit: n more are looked at -/
def rdP (now w a : Int32) : Nat → Nat → Row → Int32
  | 0, _, _ => -1
  | n + 1, i, f => if t_X2_isFit_0 (R_X2_passHour_0 f (clk (now + nI (i + 1))) w a 0 6) (R_X2_passHour_0 f (clk (now + nI (i + 1))) w a 0 7) (clk (now + nI (i + 1))) = 0 then rdP now w a n (i + 1) (R_X2_passHour_0 f (clk (now + nI (i + 1))) w a 0) else nI (i + 1)
def rdQ (now w a : Int32) (f : Row) : Int32 := if t_X2_isFit_0 (f 6) (f 7) (clk now) = 0 then rdP now w a 96 0 f else 0
theorem out_hi {a b c : Int32} (h : t_X6_isOutside_0 a b c = 0) : a ≤ c := by
  unfold t_X6_isOutside_0 at h
  by_cases z : a < b
  · rw [if_pos z] at h
    exact absurd h (by decide)
  · rw [if_neg z] at h
    by_cases z2 : a ≤ c
    · exact z2
    · rw [if_neg z2] at h
      exact absurd h (by decide)
theorem fore_48 {a b c d : Int32} (h : t_X6_isNoForecast_0 a b c d = 0) : ix a ≤ 48 := by
  have h0 := ix_nI (fore_nn h)
  unfold t_X6_isNoForecast_0 at h
  by_cases z : t_X6_isOutside_0 a 1 48 = 0
  · have h1 := out_hi z
    rw [h0.1] at h1
    exact (nI_leI (a := ix a) (b := 48) h0.2 (by decide)).mp h1
  · exfalso
    simp [z] at h
def kc_X6_waiting (N : Nat → Nat) (T : Tb) (tr now price money : Int32) (p0 p1 p2 p3 p4 : Int32) : Nat := if ixR (N 0) p0 = none then 1 else (if (t_X6_isNoForecast_0 p1 p2 p3 p4) = 0 then 0 else 2)
set_option maxHeartbeats 4000000 in
set_option maxRecDepth 100000 in
theorem c_X6_waiting (l : Launch) (hst : l.stackTraces = false) (G : GG) (M : HM) (xa rx h2 h3 : Nat) (t h0 : Nat) (Y : LY) (N : Nat → Nat) (T : Tb) (tr now price money : Int32) (p0 p1 p2 p3 p4 : Int32) (ho : M xa = some (rx, .inr (7, [.ref h0, .ref h2, .ref h3]))) (hrx : rx ≠ t) (hL : LdR G M t h0 Y N T tr now price money) (r3 : Nat) (ft : Row) (hf : M h3 = some (r3, eC 0 ft)) (hr3 : t ≠ r3): Xi l yX6_waiting (.code yX6_waiting cX6_waiting 8 (some .int) :: AL) 6 90 1 6 [.ref xa, .int p0, .int p1, .int p2, .int p3, .int p4] G M (fun r M' => kc_X6_waiting N T tr now price money p0 p1 p2 p3 p4 = 0 ∧ r = (t_X2_uncut_0 ((T 0 (ix p0)) 2) ((T 0 (ix p0)) 5)) * ((t_X2_brings_0 ((T 0 (ix p0)) 3) ((T 0 (ix p0)) 8)) - (t_X2_brings_0 (fhP now p2 p3 p4 (ix p1) (T 0 (ix p0)) 3) (fhP now p2 p3 p4 (ix p1) (T 0 (ix p0)) 8))) ∧ ∃ f', M' = hu M h3 r3 (eC 0 f')) (EX (kc_X6_waiting N T tr now price money p0 p1 p2 p3 p4)) := by
  refine Xi.go (by decide) (Nat.le_of_ble_eq_true rfl) ?_
  intro p e s m below meth c ls hx hb hr hml hown hlocks ht hts hK hX hM hl
  have hown : s.vm.findClass RX6 = some m.cls := hown
  have hl : lv_has ls 8 [(0, .ref xa), (1, .int p0), (2, .int p1), (3, .int p2), (4, .int p3), (5, .int p4)] := hl
  have hN8 := hL.2.2.2.2.2.2.1
  refine lv_aload_n hx hb dX6_waiting_0 rfl (lv_at hl 0 rfl) ?_
  refine fg_X6_12 hx hb hts hown hK hM ho dX6_waiting_1 ?_
  refine lv_iload_n hx hb dX6_waiting_4 rfl (lv_at hl 1 rfl) ?_
  rcases x1 : ixR (N 0) p0 with _ | j1
  · refine g_callVq (n9 := 1) (As := [.int p0]) (rest := []) hx hb hml hl.1 hown hts hK hM (c_X3_fieldAt l G _ t h0 Y N _ tr now price money p0 hL) wm_X6_65 wi_X3_fieldAt wl_X3_fieldAt wn_X3 wc_X3_fieldAt (by decide +kernel) (hM.recv hK (ci := 4) rfl hL.1) ⟨Nat.le_of_ble_eq_true rfl, Nat.le_of_ble_eq_true rfl⟩ ⟨Nat.le_of_ble_eq_true rfl, Nat.le_of_ble_eq_true rfl⟩ rfl (Nat.le_of_ble_eq_true rfl) rfl dX6_waiting_5 (fun r_5 Mz H locs hq hM => ?_)
    have hq1 := (hq.1.trans (atR_n (N := N) (k := 0) x1)).symm
    have hq2 := hq.2.symm
    subst hq1 hq2
    refine lv_astoreN (lv' := [(6, .null), (0, .ref xa), (1, .int p0), (2, .int p1), (3, .int p2), (4, .int p3), (5, .int p4)]) hx hb dX6_waiting_8 hl (by decide) rfl (fun ls hl => ?_)
    refine lv_aloadN hx hb dX6_waiting_10 (lv_at hl 0 rfl) ?_
    refine lv_ifnonnullN hx hb dX6_waiting_12 ?_
    exact g_thrI hx hb hst hts hown hX hM hml hl.1 hlocks ht (Or.inl ⟨(by unfold kc_X6_waiting; rw [if_pos x1]), rfl⟩) tx_69 dX6_waiting_15 dX6_waiting_18 dX6_waiting_19 dX6_waiting_21 dX6_waiting_24 ⟨Nat.le_of_ble_eq_true rfl, Nat.le_of_ble_eq_true rfl⟩ (Nat.le_of_ble_eq_true rfl) ⟨Nat.le_of_ble_eq_true rfl, Nat.le_of_ble_eq_true rfl⟩ ⟨Nat.le_of_ble_eq_true rfl, Nat.le_of_ble_eq_true rfl⟩
  · obtain rfl : j1 = (ix p0) := ixR_ix x1
    have lx1 : (ix p0) < N 0 := (ixR_lt (hL.2.2.2.2.2.2.1 0) x1).1
    have nx1 : ¬ ixR (N 0) p0 = none := by rw [x1]; exact fun z => nomatch z
    refine g_callVq (n9 := 1) (As := [.int p0]) (rest := []) hx hb hml hl.1 hown hts hK hM (c_X3_fieldAt l G _ t h0 Y N _ tr now price money p0 hL) wm_X6_65 wi_X3_fieldAt wl_X3_fieldAt wn_X3 wc_X3_fieldAt (by decide +kernel) (hM.recv hK (ci := 4) rfl hL.1) ⟨Nat.le_of_ble_eq_true rfl, Nat.le_of_ble_eq_true rfl⟩ ⟨Nat.le_of_ble_eq_true rfl, Nat.le_of_ble_eq_true rfl⟩ rfl (Nat.le_of_ble_eq_true rfl) rfl dX6_waiting_5 (fun r_5 Mz H locs hq hM => ?_)
    have hq1 := (hq.1.trans (atR_s (N := N) (k := 0) x1)).symm
    have hq2 := hq.2.symm
    subst hq1 hq2
    refine lv_astore (lv' := [(6, .ref (Y.2.2.2.2.2 0 (ix p0))), (0, .ref xa), (1, .int p0), (2, .int p1), (3, .int p2), (4, .int p3), (5, .int p4)]) hx hb dX6_waiting_8 hl (by decide) rfl (fun ls hl => ?_)
    refine lv_aload hx hb dX6_waiting_10 (lv_at hl 0 rfl) ?_
    refine lv_ifnonnull (tgt := 25) hx hb dX6_waiting_12 (by decide) ?_
    refine lv_iload_n hx hb dX6_waiting_25 rfl (lv_at hl 3 rfl) ?_
    refine lv_iload_n hx hb dX6_waiting_26 rfl (lv_at hl 4 rfl) ?_
    refine lv_iload hx hb dX6_waiting_27 (lv_at hl 5 rfl) ?_
    refine lv_iload hx hb dX6_waiting_29 (lv_at hl 6 rfl) ?_
    refine g_callSi (n9 := 4) (As := [.int p1, .int p2, .int p3, .int p4]) (rest := []) hx hb hml hl.1 hown hts hK hM (c_X6_isNoForecast l G _ p1 p2 p3 p4 ) wm_X6_190 wt_X6_isNoForecast wn_X6 wc_X6_isNoForecast (by decide +kernel) ⟨Nat.le_of_ble_eq_true rfl, Nat.le_of_ble_eq_true rfl⟩ ⟨Nat.le_of_ble_eq_true rfl, Nat.le_of_ble_eq_true rfl⟩ rfl (Nat.le_of_ble_eq_true rfl) rfl dX6_waiting_31 (fun r_31 M1 H locs hq hM => ?_)
    have hq1 := hq.1.symm
    have hq2 := hq.2.symm
    subst hq1 hq2
    refine lv_if_eq (tgt := 47) hx hb dX6_waiting_34 (by decide) (fun c2 => ?_) (fun c2 => ?_)
    · refine lv_aload_n hx hb dX6_waiting_47 rfl (lv_at hl 1 rfl) ?_
      refine fg_X6_26 hx hb hts hown hK hM ho dX6_waiting_48 ?_
      refine lv_aload hx hb dX6_waiting_51 (lv_at hl 0 rfl) ?_
      have nab : h3 ≠ (Y.2.2.2.2.2 0 (ix p0)) := fun z => by have z2 := (hL.row (k := 0) (i := (ix p0)) (by decide) lx1); rw [← z, hf] at z2; injection z2 with z2; injection z2 with z3 z4; exact hr3 z3.symm
      refine g_callVv (n9 := 1) (As := [.ref (Y.2.2.2.2.2 0 (ix p0))]) (rest := []) hx hb hml hl.1 hown hts hK hM (cr_X2_copyFrom l G _ h3 r3 (Y.2.2.2.2.2 0 (ix p0)) t ft (T 0 (ix p0)) hf (hL.row (k := 0) (i := (ix p0)) (by decide) lx1) nab) wm_X6_323 wi_X2_copyFrom wl_X2_copyFrom wn_X2 wc_X2_copyFrom (by decide +kernel) (hM.recv hK (ci := 3) rfl hf) ⟨Nat.le_of_ble_eq_true rfl, Nat.le_of_ble_eq_true rfl⟩ ⟨Nat.le_of_ble_eq_true rfl, Nat.le_of_ble_eq_true rfl⟩ rfl (Nat.le_of_ble_eq_true rfl) rfl dX6_waiting_53 (fun Mz H locs hq hM => ?_)
      subst hq
      replace hM := hM.eq (show _ = hu M h3 r3 (eC 0 (T 0 (ix p0))) from rfl)
      have nx3 : xa ≠ h3 := hu_ne ho hf (eC_neX (by decide))
      have hLw : ∀ f9 : Row, LdR G (hu M h3 r3 (eC 0 f9)) t h0 Y N T tr now price money := fun f9 => hL.frame hr3 (Fr.up hf)
      refine lv_iconst (v := (1 : Int32)) hx hb dX6_waiting_56 (by decide) ?_
      refine lv_istore (lv' := [(7, .int (1 : Int32)), (6, .ref (Y.2.2.2.2.2 0 (ix p0))), (0, .ref xa), (1, .int p0), (2, .int p1), (3, .int p2), (4, .int p3), (5, .int p4)]) hx hb dX6_waiting_57 hl (by decide) rfl (fun ls hl => ?_)
      obtain ⟨hh, hh31⟩ := ix_nI (fore_nn c2)
      have h48 := fore_48 c2
      obtain ⟨n9, en9⟩ : ∃ z, z = ix p1 := ⟨_, rfl⟩
      rw [← en9] at hh hh31 h48
      have L59 : ∀ (n i : Nat), i ≤ n9 → n9 - i < n → ∀ (H : Heap) (locs : List Loc) (ls : Array Slot) (f1 : Row), f1 = fhP now p2 p3 p4 i (T 0 (ix p0)) → Wd G (hu M h3 r3 (eC 0 f1)) s H locs → lv_has ls 8 [(7, .int (nI (i + 1))), (6, .ref (Y.2.2.2.2.2 0 (ix p0))), (0, .ref xa), (1, .int p0), (2, .int p1), (3, .int p2), (4, .int p3), (5, .int p4)] → W p l e ({ frames := 6, cells := 1, slots := 6, locals := 90 } : Room) s m [.ref xa, .int p0, .int p1, .int p2, .int p3, .int p4].toArray below meth c H locs 0 0 (vx_MQ below (va_Qi (fun r M' => kc_X6_waiting N T tr now price money p0 p1 p2 p3 p4 = 0 ∧ r = (t_X2_uncut_0 ((T 0 (ix p0)) 2) ((T 0 (ix p0)) 5)) * ((t_X2_brings_0 ((T 0 (ix p0)) 3) ((T 0 (ix p0)) 8)) - (t_X2_brings_0 (fhP now p2 p3 p4 (ix p1) (T 0 (ix p0)) 3) (fhP now p2 p3 p4 (ix p1) (T 0 (ix p0)) 8))) ∧ ∃ f', M' = hu M h3 r3 (eC 0 f')) (gB G) (gA G)) (gX G M (EX (kc_X6_waiting N T tr now price money p0 p1 p2 p3 p4))) [.ref xa, .int p0, .int p1, .int p2, .int p3, .int p4].toArray s 1 6 (gA G)) (F0 m 59 ls []) := by
        intro n
        induction n with
        | zero => intro i h1 h2; omega
        | succ n ih =>
          intro i h1 h2 H locs ls f1 ef hM hl
          refine lv_iload hx hb dX6_waiting_59 (lv_at hl 0 rfl) ?_
          refine lv_iload_n hx hb dX6_waiting_61 rfl (lv_at hl 4 rfl) ?_
          refine lv_icmp_gt (tgt := 96) hx hb dX6_waiting_62 (by decide) (fun c3 => ?_) (fun c3 => ?_)
          · rw [hh] at c3
            have hi : i = n9 := by
              have := (nI_ltI (by omega) (by omega)).mp c3
              omega
            refine lv_aload hx hb dX6_waiting_96 (lv_at hl 1 rfl) ?_
            refine g_callVi (n9 := 0) (As := []) (rest := []) hx hb hml hl.1 hown hts hK hM (cr_X2_uncut l G _ (Y.2.2.2.2.2 0 (ix p0)) t (T 0 (ix p0))  ((hLw f1).row (k := 0) (i := (ix p0)) (by decide) lx1) ) wm_X6_315 wi_X2_uncut wl_X2_uncut wn_X2 wc_X2_uncut (by decide +kernel) (hM.recv hK (ci := 3) rfl ((hLw f1).row (k := 0) (i := (ix p0)) (by decide) lx1)) ⟨Nat.le_of_ble_eq_true rfl, Nat.le_of_ble_eq_true rfl⟩ ⟨Nat.le_of_ble_eq_true rfl, Nat.le_of_ble_eq_true rfl⟩ rfl (Nat.le_of_ble_eq_true rfl) rfl dX6_waiting_98 (fun r_98 Mz H locs hq hM => ?_)
            have hq1 := hq.1.symm
            have hq2 := hq.2.symm
            subst hq1 hq2
            refine lv_aload hx hb dX6_waiting_101 (lv_at hl 1 rfl) ?_
            refine g_callVi (n9 := 0) (As := []) (rest := [.int (t_X2_uncut_0 ((T 0 (ix p0)) 2) ((T 0 (ix p0)) 5))]) hx hb hml hl.1 hown hts hK hM (cr_X2_brings l G _ (Y.2.2.2.2.2 0 (ix p0)) t (T 0 (ix p0))  ((hLw f1).row (k := 0) (i := (ix p0)) (by decide) lx1) ) wm_X6_343 wi_X2_brings wl_X2_brings wn_X2 wc_X2_brings (by decide +kernel) (hM.recv hK (ci := 3) rfl ((hLw f1).row (k := 0) (i := (ix p0)) (by decide) lx1)) ⟨Nat.le_of_ble_eq_true rfl, Nat.le_of_ble_eq_true rfl⟩ ⟨Nat.le_of_ble_eq_true rfl, Nat.le_of_ble_eq_true rfl⟩ rfl (Nat.le_of_ble_eq_true rfl) rfl dX6_waiting_103 (fun r_103 Mz H locs hq hM => ?_)
            have hq1 := hq.1.symm
            have hq2 := hq.2.symm
            subst hq1 hq2
            refine lv_aload_n hx hb dX6_waiting_106 rfl (lv_at hl 2 rfl) ?_
            refine fg_X6_26 hx hb hts hown hK hM (hu_n nx3 ho) dX6_waiting_107 ?_
            refine g_callVi (n9 := 0) (As := []) (rest := [.int (t_X2_brings_0 ((T 0 (ix p0)) 3) ((T 0 (ix p0)) 8)), .int (t_X2_uncut_0 ((T 0 (ix p0)) 2) ((T 0 (ix p0)) 5))]) hx hb hml hl.1 hown hts hK hM (cr_X2_brings l G _ h3 r3 f1  hu_s ) wm_X6_343 wi_X2_brings wl_X2_brings wn_X2 wc_X2_brings (by decide +kernel) (hM.recv hK (ci := 3) rfl hu_s) ⟨Nat.le_of_ble_eq_true rfl, Nat.le_of_ble_eq_true rfl⟩ ⟨Nat.le_of_ble_eq_true rfl, Nat.le_of_ble_eq_true rfl⟩ rfl (Nat.le_of_ble_eq_true rfl) rfl dX6_waiting_110 (fun r_110 Mz H locs hq hM => ?_)
            have hq1 := hq.1.symm
            have hq2 := hq.2.symm
            subst hq1 hq2
            refine lv_isub hx hb dX6_waiting_113 ?_
            refine lv_imul hx hb dX6_waiting_114 ?_
            refine vx_ret ?_
            refine g_iret hx hb hr hlocks hM (Nat.le_of_ble_eq_true rfl) (Nat.le_of_ble_eq_true rfl) ⟨(by unfold kc_X6_waiting; rw [if_neg nx1, if_pos c2]), ?_, _, rfl⟩ dX6_waiting_115
            rw [← en9, ← hi, ← ef]
          · rw [hh] at c3
            have hi : i < n9 := by
              rcases Nat.lt_or_ge i n9 with z | z
              · exact z
              · exact absurd (nI_lt (a := n9) (b := i + 1) (by omega) (by omega)) c3
            refine lv_aload_n hx hb dX6_waiting_65 rfl (lv_at hl 2 rfl) ?_
            refine fg_X6_26 hx hb hts hown hK hM (hu_n nx3 ho) dX6_waiting_66 ?_
            refine lv_aload_n hx hb dX6_waiting_69 rfl (lv_at hl 2 rfl) ?_
            refine fg_X6_12 hx hb hts hown hK hM (hu_n nx3 ho) dX6_waiting_70 ?_
            refine fg_X6_196 hx hb hts hown hK hM (hLw f1).1 dX6_waiting_73 ?_
            refine lv_iload hx hb dX6_waiting_76 (lv_at hl 0 rfl) ?_
            refine lv_iadd hx hb dX6_waiting_78 ?_
            refine lv_bipush (v := (24 : Int32)) hx hb dX6_waiting_79 (by decide) ?_
            refine lv_irem hx hb dX6_waiting_81 (by decide) ?_
            refine lv_iload_n hx hb dX6_waiting_82 rfl (lv_at hl 5 rfl) ?_
            refine lv_iload hx hb dX6_waiting_83 (lv_at hl 6 rfl) ?_
            refine lv_iload hx hb dX6_waiting_85 (lv_at hl 7 rfl) ?_
            refine g_callVv (n9 := 4) (As := [.int ((now + (nI (i + 1))) - (now + (nI (i + 1))) / (24 : Int32) * (24 : Int32)), .int p2, .int p3, .int p4]) (rest := []) hx hb hml hl.1 hown hts hK hM (cr_X2_passHour l G _ h3 r3 f1 ((now + (nI (i + 1))) - (now + (nI (i + 1))) / (24 : Int32) * (24 : Int32)) p2 p3 p4 hu_s) wm_X6_334 wi_X2_passHour wl_X2_passHour wn_X2 wc_X2_passHour (by decide +kernel) (hM.recv hK (ci := 3) rfl hu_s) ⟨Nat.le_of_ble_eq_true rfl, Nat.le_of_ble_eq_true rfl⟩ ⟨Nat.le_of_ble_eq_true rfl, Nat.le_of_ble_eq_true rfl⟩ rfl (Nat.le_of_ble_eq_true rfl) rfl dX6_waiting_87 (fun Mz H locs hq hM => ?_)
            subst hq
            replace hM := hM.eq (hu_u _ _ _ _ _ _)
            refine lv_iinc (v := (nI ((i + 1) + 1))) (lv' := [(7, .int (nI ((i + 1) + 1))), (6, .ref (Y.2.2.2.2.2 0 (ix p0))), (0, .ref xa), (1, .int p0), (2, .int p1), (3, .int p2), (4, .int p3), (5, .int p4)]) hx hb dX6_waiting_90 hl (k := 0) rfl (nI_1 (i + 1)) (by decide) rfl (fun ls hl => ?_)
            refine lv_goto (tgt := 59) hx hb dX6_waiting_93 (by decide) ?_
            exact ih (i + 1) (by omega) (by omega) _ _ _ _ (by rw [ef]; rfl) hM (lv_sub hl [0, 1, 2, 3, 4, 5, 6, 7] rfl)
      exact L59 (n9 + 1) 0 (Nat.zero_le _) (by omega) _ _ _ _ rfl hM (lv_sub hl [0, 1, 2, 3, 4, 5, 6, 7] rfl)
    · exact g_thrA hx hb hst hts hown hX hM hml hl.1 hlocks ht (Or.inr (Or.inl ⟨(by unfold kc_X6_waiting; rw [if_neg nx1, if_neg c2]), rfl⟩)) tx_194 dX6_waiting_37 dX6_waiting_40 dX6_waiting_41 dX6_waiting_43 dX6_waiting_46 ⟨Nat.le_of_ble_eq_true rfl, Nat.le_of_ble_eq_true rfl⟩ (Nat.le_of_ble_eq_true rfl) ⟨Nat.le_of_ble_eq_true rfl, Nat.le_of_ble_eq_true rfl⟩ ⟨Nat.le_of_ble_eq_true rfl, Nat.le_of_ble_eq_true rfl⟩
def kc_X6_readyIn (N : Nat → Nat) (T : Tb) (tr now price money : Int32) (p0 p1 p2 : Int32) : Nat := if ixR (N 0) p0 = none then 1 else (if (t_X6_isNoWeather_0 p1 p2 (0 : Int32)) = 0 then 0 else 2)
set_option maxHeartbeats 4000000 in
set_option maxRecDepth 100000 in
theorem c_X6_readyIn (l : Launch) (hst : l.stackTraces = false) (G : GG) (M : HM) (xa rx h2 h3 : Nat) (t h0 : Nat) (Y : LY) (N : Nat → Nat) (T : Tb) (tr now price money : Int32) (p0 p1 p2 : Int32) (ho : M xa = some (rx, .inr (7, [.ref h0, .ref h2, .ref h3]))) (hrx : rx ≠ t) (hL : LdR G M t h0 Y N T tr now price money) (r3 : Nat) (ft : Row) (hf : M h3 = some (r3, eC 0 ft)) (hr3 : t ≠ r3): Xi l yX6_readyIn (.code yX6_readyIn cX6_readyIn 7 (some .int) :: AL) 6 90 1 6 [.ref xa, .int p0, .int p1, .int p2] G M (fun r M' => kc_X6_readyIn N T tr now price money p0 p1 p2 = 0 ∧ r = rdQ now p1 p2 (T 0 (ix p0)) ∧ ∃ f', M' = hu M h3 r3 (eC 0 f')) (EX (kc_X6_readyIn N T tr now price money p0 p1 p2)) := by
  refine Xi.go (by decide) (Nat.le_of_ble_eq_true rfl) ?_
  intro p e s m below meth c ls hx hb hr hml hown hlocks ht hts hK hX hM hl
  have hown : s.vm.findClass RX6 = some m.cls := hown
  have hl : lv_has ls 7 [(0, .ref xa), (1, .int p0), (2, .int p1), (3, .int p2)] := hl
  have hN8 := hL.2.2.2.2.2.2.1
  refine lv_aload_n hx hb dX6_readyIn_0 rfl (lv_at hl 0 rfl) ?_
  refine fg_X6_12 hx hb hts hown hK hM ho dX6_readyIn_1 ?_
  refine lv_iload_n hx hb dX6_readyIn_4 rfl (lv_at hl 1 rfl) ?_
  rcases x1 : ixR (N 0) p0 with _ | j1
  · refine g_callVq (n9 := 1) (As := [.int p0]) (rest := []) hx hb hml hl.1 hown hts hK hM (c_X3_fieldAt l G _ t h0 Y N _ tr now price money p0 hL) wm_X6_65 wi_X3_fieldAt wl_X3_fieldAt wn_X3 wc_X3_fieldAt (by decide +kernel) (hM.recv hK (ci := 4) rfl hL.1) ⟨Nat.le_of_ble_eq_true rfl, Nat.le_of_ble_eq_true rfl⟩ ⟨Nat.le_of_ble_eq_true rfl, Nat.le_of_ble_eq_true rfl⟩ rfl (Nat.le_of_ble_eq_true rfl) rfl dX6_readyIn_5 (fun r_5 Mz H locs hq hM => ?_)
    have hq1 := (hq.1.trans (atR_n (N := N) (k := 0) x1)).symm
    have hq2 := hq.2.symm
    subst hq1 hq2
    refine lv_astoreN (lv' := [(4, .null), (0, .ref xa), (1, .int p0), (2, .int p1), (3, .int p2)]) hx hb dX6_readyIn_8 hl (by decide) rfl (fun ls hl => ?_)
    refine lv_aloadN hx hb dX6_readyIn_10 (lv_at hl 0 rfl) ?_
    refine lv_ifnonnullN hx hb dX6_readyIn_12 ?_
    exact g_thrI hx hb hst hts hown hX hM hml hl.1 hlocks ht (Or.inl ⟨(by unfold kc_X6_readyIn; rw [if_pos x1]), rfl⟩) tx_69 dX6_readyIn_15 dX6_readyIn_18 dX6_readyIn_19 dX6_readyIn_21 dX6_readyIn_24 ⟨Nat.le_of_ble_eq_true rfl, Nat.le_of_ble_eq_true rfl⟩ (Nat.le_of_ble_eq_true rfl) ⟨Nat.le_of_ble_eq_true rfl, Nat.le_of_ble_eq_true rfl⟩ ⟨Nat.le_of_ble_eq_true rfl, Nat.le_of_ble_eq_true rfl⟩
  · obtain rfl : j1 = (ix p0) := ixR_ix x1
    have lx1 : (ix p0) < N 0 := (ixR_lt (hL.2.2.2.2.2.2.1 0) x1).1
    have nx1 : ¬ ixR (N 0) p0 = none := by rw [x1]; exact fun z => nomatch z
    refine g_callVq (n9 := 1) (As := [.int p0]) (rest := []) hx hb hml hl.1 hown hts hK hM (c_X3_fieldAt l G _ t h0 Y N _ tr now price money p0 hL) wm_X6_65 wi_X3_fieldAt wl_X3_fieldAt wn_X3 wc_X3_fieldAt (by decide +kernel) (hM.recv hK (ci := 4) rfl hL.1) ⟨Nat.le_of_ble_eq_true rfl, Nat.le_of_ble_eq_true rfl⟩ ⟨Nat.le_of_ble_eq_true rfl, Nat.le_of_ble_eq_true rfl⟩ rfl (Nat.le_of_ble_eq_true rfl) rfl dX6_readyIn_5 (fun r_5 Mz H locs hq hM => ?_)
    have hq1 := (hq.1.trans (atR_s (N := N) (k := 0) x1)).symm
    have hq2 := hq.2.symm
    subst hq1 hq2
    refine lv_astore (lv' := [(4, .ref (Y.2.2.2.2.2 0 (ix p0))), (0, .ref xa), (1, .int p0), (2, .int p1), (3, .int p2)]) hx hb dX6_readyIn_8 hl (by decide) rfl (fun ls hl => ?_)
    refine lv_aload hx hb dX6_readyIn_10 (lv_at hl 0 rfl) ?_
    refine lv_ifnonnull (tgt := 25) hx hb dX6_readyIn_12 (by decide) ?_
    refine lv_iload_n hx hb dX6_readyIn_25 rfl (lv_at hl 3 rfl) ?_
    refine lv_iload_n hx hb dX6_readyIn_26 rfl (lv_at hl 4 rfl) ?_
    refine lv_iconst (v := (0 : Int32)) hx hb dX6_readyIn_27 (by decide) ?_
    refine g_callSi (n9 := 3) (As := [.int p1, .int p2, .int (0 : Int32)]) (rest := []) hx hb hml hl.1 hown hts hK hM (c_X6_isNoWeather l G _ p1 p2 (0 : Int32) ) wm_X6_318 wt_X6_isNoWeather wn_X6 wc_X6_isNoWeather (by decide +kernel) ⟨Nat.le_of_ble_eq_true rfl, Nat.le_of_ble_eq_true rfl⟩ ⟨Nat.le_of_ble_eq_true rfl, Nat.le_of_ble_eq_true rfl⟩ rfl (Nat.le_of_ble_eq_true rfl) rfl dX6_readyIn_28 (fun r_28 M1 H locs hq hM => ?_)
    have hq1 := hq.1.symm
    have hq2 := hq.2.symm
    subst hq1 hq2
    refine lv_if_eq (tgt := 45) hx hb dX6_readyIn_31 (by decide) (fun c2 => ?_) (fun c2 => ?_)
    · refine lv_aload_n hx hb dX6_readyIn_45 rfl (lv_at hl 1 rfl) ?_
      refine fg_X6_26 hx hb hts hown hK hM ho dX6_readyIn_46 ?_
      refine lv_aload hx hb dX6_readyIn_49 (lv_at hl 0 rfl) ?_
      have nab : h3 ≠ (Y.2.2.2.2.2 0 (ix p0)) := fun z => by have z2 := (hL.row (k := 0) (i := (ix p0)) (by decide) lx1); rw [← z, hf] at z2; injection z2 with z2; injection z2 with z3 z4; exact hr3 z3.symm
      refine g_callVv (n9 := 1) (As := [.ref (Y.2.2.2.2.2 0 (ix p0))]) (rest := []) hx hb hml hl.1 hown hts hK hM (cr_X2_copyFrom l G _ h3 r3 (Y.2.2.2.2.2 0 (ix p0)) t ft (T 0 (ix p0)) hf (hL.row (k := 0) (i := (ix p0)) (by decide) lx1) nab) wm_X6_323 wi_X2_copyFrom wl_X2_copyFrom wn_X2 wc_X2_copyFrom (by decide +kernel) (hM.recv hK (ci := 3) rfl hf) ⟨Nat.le_of_ble_eq_true rfl, Nat.le_of_ble_eq_true rfl⟩ ⟨Nat.le_of_ble_eq_true rfl, Nat.le_of_ble_eq_true rfl⟩ rfl (Nat.le_of_ble_eq_true rfl) rfl dX6_readyIn_51 (fun Mz H locs hq hM => ?_)
      subst hq
      replace hM := hM.eq (show _ = hu M h3 r3 (eC 0 (T 0 (ix p0))) from rfl)
      have nx3 : xa ≠ h3 := hu_ne ho hf (eC_neX (by decide))
      have hLw : ∀ f9 : Row, LdR G (hu M h3 r3 (eC 0 f9)) t h0 Y N T tr now price money := fun f9 => hL.frame hr3 (Fr.up hf)
      refine lv_aload_n hx hb dX6_readyIn_54 rfl (lv_at hl 1 rfl) ?_
      refine fg_X6_26 hx hb hts hown hK hM (hu_n nx3 ho) dX6_readyIn_55 ?_
      refine lv_aload_n hx hb dX6_readyIn_58 rfl (lv_at hl 1 rfl) ?_
      refine fg_X6_12 hx hb hts hown hK hM (hu_n nx3 ho) dX6_readyIn_59 ?_
      refine g_callVi (n9 := 0) (As := []) (rest := [.ref h3]) hx hb hml hl.1 hown hts hK hM (c_X3_clock l G _ t h0 Y N _ tr now price money (hLw (T 0 (ix p0)))) wm_X6_327 wi_X3_clock wl_X3_clock wn_X3 wc_X3_clock (by decide +kernel) (hM.recv hK (ci := 4) rfl (hLw (T 0 (ix p0))).1) ⟨Nat.le_of_ble_eq_true rfl, Nat.le_of_ble_eq_true rfl⟩ ⟨Nat.le_of_ble_eq_true rfl, Nat.le_of_ble_eq_true rfl⟩ rfl (Nat.le_of_ble_eq_true rfl) rfl dX6_readyIn_62 (fun r_62 Mz H locs hq hM => ?_)
      have hq1 := hq.1.symm
      have hq2 := hq.2.symm
      subst hq1 hq2
      refine g_callVi (n9 := 1) (As := [.int (clk now)]) (rest := []) hx hb hml hl.1 hown hts hK hM (cr_X2_isFit l G _ h3 r3 (T 0 (ix p0)) (clk now) hu_s ) wm_X6_330 wi_X2_isFit wl_X2_isFit wn_X2 wc_X2_isFit (by decide +kernel) (hM.recv hK (ci := 3) rfl hu_s) ⟨Nat.le_of_ble_eq_true rfl, Nat.le_of_ble_eq_true rfl⟩ ⟨Nat.le_of_ble_eq_true rfl, Nat.le_of_ble_eq_true rfl⟩ rfl (Nat.le_of_ble_eq_true rfl) rfl dX6_readyIn_65 (fun r_65 Mz H locs hq hM => ?_)
      have hq1 := hq.1.symm
      have hq2 := hq.2.symm
      subst hq1 hq2
      refine lv_if_eq (tgt := 73) hx hb dX6_readyIn_68 (by decide) (fun c3 => ?_) (fun c3 => ?_)
      · refine lv_iconst (v := (1 : Int32)) hx hb dX6_readyIn_73 (by decide) ?_
        refine lv_istore (lv' := [(5, .int (1 : Int32)), (4, .ref (Y.2.2.2.2.2 0 (ix p0))), (0, .ref xa), (1, .int p0), (2, .int p1), (3, .int p2)]) hx hb dX6_readyIn_74 hl (by decide) rfl (fun ls hl => ?_)
        have hR0 : rdP now p1 p2 96 0 (T 0 (ix p0)) = rdQ now p1 p2 (T 0 (ix p0)) := (if_pos c3).symm
        have L76 : ∀ (n i : Nat), i + n = 96 → ∀ (H : Heap) (locs : List Loc) (ls : Array Slot) (f1 : Row), rdP now p1 p2 n i f1 = rdQ now p1 p2 (T 0 (ix p0)) → Wd G (hu M h3 r3 (eC 0 f1)) s H locs → lv_has ls 7 [(5, .int (nI (i + 1))), (4, .ref (Y.2.2.2.2.2 0 (ix p0))), (0, .ref xa), (1, .int p0), (2, .int p1), (3, .int p2)] → W p l e ({ frames := 6, cells := 1, slots := 6, locals := 90 } : Room) s m [.ref xa, .int p0, .int p1, .int p2].toArray below meth c H locs 0 0 (vx_MQ below (va_Qi (fun r M' => kc_X6_readyIn N T tr now price money p0 p1 p2 = 0 ∧ r = rdQ now p1 p2 (T 0 (ix p0)) ∧ ∃ f', M' = hu M h3 r3 (eC 0 f')) (gB G) (gA G)) (gX G M (EX (kc_X6_readyIn N T tr now price money p0 p1 p2))) [.ref xa, .int p0, .int p1, .int p2].toArray s 1 6 (gA G)) (F0 m 76 ls []) := by
          intro n
          induction n with
          | zero =>
            intro i h1 H locs ls f1 hR hM hl
            refine lv_iload hx hb dX6_readyIn_76 (lv_at hl 0 rfl) ?_
            refine lv_bipush (v := (96 : Int32)) hx hb dX6_readyIn_78 (by decide) ?_
            refine lv_icmp_gt (tgt := 131) hx hb dX6_readyIn_80 (by decide) (fun c4 => ?_) (fun c4 => ?_)
            · refine lv_iconst (v := (-1 : Int32)) hx hb dX6_readyIn_131 (by decide) ?_
              refine vx_ret ?_
              exact g_iret hx hb hr hlocks hM (Nat.le_of_ble_eq_true rfl) (Nat.le_of_ble_eq_true rfl) ⟨(by unfold kc_X6_readyIn; rw [if_neg nx1, if_pos c2]), hR, _, rfl⟩ dX6_readyIn_132
            · exact absurd (nI_lt (a := 96) (b := i + 1) (by omega) (by omega)) c4
          | succ n ih =>
            intro i h1 H locs ls f1 hR hM hl
            refine lv_iload hx hb dX6_readyIn_76 (lv_at hl 0 rfl) ?_
            refine lv_bipush (v := (96 : Int32)) hx hb dX6_readyIn_78 (by decide) ?_
            refine lv_icmp_gt (tgt := 131) hx hb dX6_readyIn_80 (by decide) (fun c5 => ?_) (fun c5 => ?_)
            · exact absurd ((nI_ltI (a := 96) (b := i + 1) (by decide) (by omega)).mp c5) (by omega)
            · refine lv_aload_n hx hb dX6_readyIn_83 rfl (lv_at hl 2 rfl) ?_
              refine fg_X6_12 hx hb hts hown hK hM (hu_n nx3 ho) dX6_readyIn_84 ?_
              refine fg_X6_196 hx hb hts hown hK hM (hLw f1).1 dX6_readyIn_87 ?_
              refine lv_iload hx hb dX6_readyIn_90 (lv_at hl 0 rfl) ?_
              refine lv_iadd hx hb dX6_readyIn_92 ?_
              refine lv_bipush (v := (24 : Int32)) hx hb dX6_readyIn_93 (by decide) ?_
              refine lv_irem hx hb dX6_readyIn_95 (by decide) ?_
              refine lv_istore (lv' := [(6, .int ((now + (nI (i + 1))) - (now + (nI (i + 1))) / (24 : Int32) * (24 : Int32))), (5, .int (nI (i + 1))), (4, .ref (Y.2.2.2.2.2 0 (ix p0))), (0, .ref xa), (1, .int p0), (2, .int p1), (3, .int p2)]) hx hb dX6_readyIn_96 hl (by decide) rfl (fun ls hl => ?_)
              refine lv_aload_n hx hb dX6_readyIn_98 rfl (lv_at hl 3 rfl) ?_
              refine fg_X6_26 hx hb hts hown hK hM (hu_n nx3 ho) dX6_readyIn_99 ?_
              refine lv_iload hx hb dX6_readyIn_102 (lv_at hl 0 rfl) ?_
              refine lv_iload_n hx hb dX6_readyIn_104 rfl (lv_at hl 5 rfl) ?_
              refine lv_iload_n hx hb dX6_readyIn_105 rfl (lv_at hl 6 rfl) ?_
              refine lv_iconst (v := (0 : Int32)) hx hb dX6_readyIn_106 (by decide) ?_
              refine g_callVv (n9 := 4) (As := [.int ((now + (nI (i + 1))) - (now + (nI (i + 1))) / (24 : Int32) * (24 : Int32)), .int p1, .int p2, .int (0 : Int32)]) (rest := []) hx hb hml hl.1 hown hts hK hM (cr_X2_passHour l G _ h3 r3 f1 ((now + (nI (i + 1))) - (now + (nI (i + 1))) / (24 : Int32) * (24 : Int32)) p1 p2 (0 : Int32) hu_s) wm_X6_334 wi_X2_passHour wl_X2_passHour wn_X2 wc_X2_passHour (by decide +kernel) (hM.recv hK (ci := 3) rfl hu_s) ⟨Nat.le_of_ble_eq_true rfl, Nat.le_of_ble_eq_true rfl⟩ ⟨Nat.le_of_ble_eq_true rfl, Nat.le_of_ble_eq_true rfl⟩ rfl (Nat.le_of_ble_eq_true rfl) rfl dX6_readyIn_107 (fun Mz H locs hq hM => ?_)
              subst hq
              replace hM := hM.eq (hu_u _ _ _ _ _ _)
              refine lv_aload_n hx hb dX6_readyIn_110 rfl (lv_at hl 3 rfl) ?_
              refine fg_X6_26 hx hb hts hown hK hM (hu_n nx3 ho) dX6_readyIn_111 ?_
              refine lv_iload hx hb dX6_readyIn_114 (lv_at hl 0 rfl) ?_
              refine g_callVi (n9 := 1) (As := [.int ((now + (nI (i + 1))) - (now + (nI (i + 1))) / (24 : Int32) * (24 : Int32))]) (rest := []) hx hb hml hl.1 hown hts hK hM (cr_X2_isFit l G _ h3 r3 (R_X2_passHour_0 f1 ((now + (nI (i + 1))) - (now + (nI (i + 1))) / (24 : Int32) * (24 : Int32)) p1 p2 (0 : Int32)) ((now + (nI (i + 1))) - (now + (nI (i + 1))) / (24 : Int32) * (24 : Int32)) hu_s ) wm_X6_330 wi_X2_isFit wl_X2_isFit wn_X2 wc_X2_isFit (by decide +kernel) (hM.recv hK (ci := 3) rfl hu_s) ⟨Nat.le_of_ble_eq_true rfl, Nat.le_of_ble_eq_true rfl⟩ ⟨Nat.le_of_ble_eq_true rfl, Nat.le_of_ble_eq_true rfl⟩ rfl (Nat.le_of_ble_eq_true rfl) rfl dX6_readyIn_116 (fun r_116 Mz H locs hq hM => ?_)
              have hq1 := hq.1.symm
              have hq2 := hq.2.symm
              subst hq1 hq2
              refine lv_if_eq (tgt := 125) hx hb dX6_readyIn_119 (by decide) (fun c6 => ?_) (fun c6 => ?_)
              · refine lv_iinc (v := (nI ((i + 1) + 1))) (lv' := [(5, .int (nI ((i + 1) + 1))), (6, .int ((now + (nI (i + 1))) - (now + (nI (i + 1))) / (24 : Int32) * (24 : Int32))), (4, .ref (Y.2.2.2.2.2 0 (ix p0))), (0, .ref xa), (1, .int p0), (2, .int p1), (3, .int p2)]) hx hb dX6_readyIn_125 hl (k := 1) rfl (nI_1 (i + 1)) (by decide) rfl (fun ls hl => ?_)
                refine lv_goto (tgt := 76) hx hb dX6_readyIn_128 (by decide) ?_
                exact ih (i + 1) (by omega) _ _ _ _ ((if_pos c6).symm.trans hR) hM (lv_sub hl [0, 2, 3, 4, 5, 6] rfl)
              · refine lv_iload hx hb dX6_readyIn_122 (lv_at hl 1 rfl) ?_
                refine vx_ret ?_
                exact g_iret hx hb hr hlocks hM (Nat.le_of_ble_eq_true rfl) (Nat.le_of_ble_eq_true rfl) ⟨(by unfold kc_X6_readyIn; rw [if_neg nx1, if_pos c2]), (if_neg c6).symm.trans hR, _, rfl⟩ dX6_readyIn_124
        exact L76 96 0 rfl _ _ _ _ hR0 hM (lv_sub hl [0, 1, 2, 3, 4, 5] rfl)
      · refine lv_iconst (v := (0 : Int32)) hx hb dX6_readyIn_71 (by decide) ?_
        refine vx_ret ?_
        exact g_iret hx hb hr hlocks hM (Nat.le_of_ble_eq_true rfl) (Nat.le_of_ble_eq_true rfl) ⟨(by unfold kc_X6_readyIn; rw [if_neg nx1, if_pos c2]), (if_neg c3).symm, ⟨_, rfl⟩⟩ dX6_readyIn_72
    · exact g_thrAW hx hb hst hts hown hX hM hml hl.1 hlocks ht (Or.inr (Or.inl ⟨(by unfold kc_X6_readyIn; rw [if_neg nx1, if_neg c2]), rfl⟩)) tx_321 dX6_readyIn_34 dX6_readyIn_37 dX6_readyIn_38 dX6_readyIn_41 dX6_readyIn_44 ⟨Nat.le_of_ble_eq_true rfl, Nat.le_of_ble_eq_true rfl⟩ (Nat.le_of_ble_eq_true rfl) ⟨Nat.le_of_ble_eq_true rfl, Nat.le_of_ble_eq_true rfl⟩ ⟨Nat.le_of_ble_eq_true rfl, Nat.le_of_ble_eq_true rfl⟩

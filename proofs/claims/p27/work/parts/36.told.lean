def EX (k : Nat) (E0 : String) : Prop := (k = 1 ∧ E0 = exI) ∨ (k = 2 ∧ E0 = exA) ∨ (k = 3 ∧ E0 = exS)
abbrev ix (q : Int32) : Nat := q.toNatClampNeg
theorem ixR_ix {n j : Nat} {q : Int32} (h : ixR n q = some j) : j = ix q := by
  unfold ixR at h
  split at h
  · cases h
  · split at h
    · cases h; rfl
    · cases h
def kc_X6_field (N : Nat → Nat) (T : Tb) (tr now price money : Int32) (p0 p1 p2 p3 p4 : Int32) : Nat := if (t_X6_isOutside_0 p0 (0 : Int32) (3 : Int32)) = 0 then (if (t_X6_isOutside_0 p1 (0 : Int32) (300 : Int32)) = 0 then (if (t_X6_isOutside_0 p2 (1 : Int32) (200 : Int32)) = 0 then (if (t_X6_isOutside_0 p3 (10 : Int32) (90 : Int32)) = 0 then (if (t_X6_isOutside_0 p4 (0 : Int32) (50 : Int32)) = 0 then (if (nI (N 0)) < (8 : Int32) then 0 else 3) else 2) else 2) else 2) else 2) else 1
set_option maxHeartbeats 4000000 in
set_option maxRecDepth 100000 in
theorem c_X6_field (l : Launch) (hst : l.stackTraces = false) (G : GG) (M : HM) (xa rx h2 h3 : Nat) (t h0 : Nat) (Y : LY) (N : Nat → Nat) (T : Tb) (tr now price money : Int32) (p0 p1 p2 p3 p4 : Int32) (ho : M xa = some (rx, .inr (7, [.ref h0, .ref h2, .ref h3]))) (hrx : rx ≠ t) (hL : LdR G M t h0 Y N T tr now price money) : Xi l yX6_field (.code yX6_field cX6_field 6 (some .int) :: AL) 7 171 2 60 [.ref xa, .int p0, .int p1, .int p2, .int p3, .int p4] G M (fun r M' => kc_X6_field N T tr now price money p0 p1 p2 p3 p4 = 0 ∧ r = nI (N 0) ∧ ∃ Y', LdR G M' t h0 Y' (nu N 0 (N 0 + 1)) (tu T 0 (N 0) (R_X2_init_0 (fun _ => 0) p0 p1 p2 p3 p4)) tr now price money ∧ Fr t M M') (EX (kc_X6_field N T tr now price money p0 p1 p2 p3 p4)) := by
  refine Xi.go (by decide) (Nat.le_of_ble_eq_true rfl) ?_
  intro p e s m below meth c ls hx hb hr hml hown hlocks ht hts hK hX hM hl
  have hown : s.vm.findClass RX6 = some m.cls := hown
  have hl : lv_has ls 6 [(0, .ref xa), (1, .int p0), (2, .int p1), (3, .int p2), (4, .int p3), (5, .int p4)] := hl
  refine lv_iload_n hx hb dX6_field_0 rfl (lv_at hl 1 rfl) ?_
  refine lv_iconst (v := (0 : Int32)) hx hb dX6_field_1 (by decide) ?_
  refine lv_iconst (v := (3 : Int32)) hx hb dX6_field_2 (by decide) ?_
  refine g_callSi (n9 := 3) (As := [.int p0, .int (0 : Int32), .int (3 : Int32)]) (rest := []) hx hb hml hl.1 hown hts hK hM (c_X6_isOutside l G _ p0 (0 : Int32) (3 : Int32) ) wm_X6_30 wt_X6_isOutside wn_X6 wc_X6_isOutside (by decide +kernel) ⟨Nat.le_of_ble_eq_true rfl, Nat.le_of_ble_eq_true rfl⟩ ⟨Nat.le_of_ble_eq_true rfl, Nat.le_of_ble_eq_true rfl⟩ rfl (Nat.le_of_ble_eq_true rfl) rfl dX6_field_3 (fun r_3 M1 H locs hq hM => ?_)
  have hq1 := hq.1.symm
  have hq2 := hq.2.symm
  subst hq1 hq2
  refine lv_if_eq (tgt := 19) hx hb dX6_field_6 (by decide) (fun c1 => ?_) (fun c1 => ?_)
  · refine lv_iload_n hx hb dX6_field_19 rfl (lv_at hl 2 rfl) ?_
    refine lv_iconst (v := (0 : Int32)) hx hb dX6_field_20 (by decide) ?_
    refine lv_sipush (v := (300 : Int32)) hx hb dX6_field_21 (by decide) ?_
    refine g_callSi (n9 := 3) (As := [.int p1, .int (0 : Int32), .int (300 : Int32)]) (rest := []) hx hb hml hl.1 hown hts hK hM (c_X6_isOutside l G _ p1 (0 : Int32) (300 : Int32) ) wm_X6_30 wt_X6_isOutside wn_X6 wc_X6_isOutside (by decide +kernel) ⟨Nat.le_of_ble_eq_true rfl, Nat.le_of_ble_eq_true rfl⟩ ⟨Nat.le_of_ble_eq_true rfl, Nat.le_of_ble_eq_true rfl⟩ rfl (Nat.le_of_ble_eq_true rfl) rfl dX6_field_24 (fun r_24 M1 H locs hq hM => ?_)
    have hq1 := hq.1.symm
    have hq2 := hq.2.symm
    subst hq1 hq2
    refine lv_if_ne (tgt := 64) hx hb dX6_field_27 (by decide) (fun c2 => ?_) (fun c2 => ?_)
    · exact g_thrA hx hb hst hts hown hX hM hml hl.1 hlocks ht (Or.inr (Or.inl ⟨(by unfold kc_X6_field; rw [if_pos c1, if_neg c2]), rfl⟩)) tx_43 dX6_field_64 dX6_field_67 dX6_field_68 dX6_field_70 dX6_field_73 ⟨Nat.le_of_ble_eq_true rfl, Nat.le_of_ble_eq_true rfl⟩ (Nat.le_of_ble_eq_true rfl) ⟨Nat.le_of_ble_eq_true rfl, Nat.le_of_ble_eq_true rfl⟩ ⟨Nat.le_of_ble_eq_true rfl, Nat.le_of_ble_eq_true rfl⟩
    · refine lv_iload_n hx hb dX6_field_30 rfl (lv_at hl 3 rfl) ?_
      refine lv_iconst (v := (1 : Int32)) hx hb dX6_field_31 (by decide) ?_
      refine lv_sipush (v := (200 : Int32)) hx hb dX6_field_32 (by decide) ?_
      refine g_callSi (n9 := 3) (As := [.int p2, .int (1 : Int32), .int (200 : Int32)]) (rest := []) hx hb hml hl.1 hown hts hK hM (c_X6_isOutside l G _ p2 (1 : Int32) (200 : Int32) ) wm_X6_30 wt_X6_isOutside wn_X6 wc_X6_isOutside (by decide +kernel) ⟨Nat.le_of_ble_eq_true rfl, Nat.le_of_ble_eq_true rfl⟩ ⟨Nat.le_of_ble_eq_true rfl, Nat.le_of_ble_eq_true rfl⟩ rfl (Nat.le_of_ble_eq_true rfl) rfl dX6_field_35 (fun r_35 M1 H locs hq hM => ?_)
      have hq1 := hq.1.symm
      have hq2 := hq.2.symm
      subst hq1 hq2
      refine lv_if_ne (tgt := 64) hx hb dX6_field_38 (by decide) (fun c3 => ?_) (fun c3 => ?_)
      · exact g_thrA hx hb hst hts hown hX hM hml hl.1 hlocks ht (Or.inr (Or.inl ⟨(by unfold kc_X6_field; rw [if_pos c1, if_pos c2, if_neg c3]), rfl⟩)) tx_43 dX6_field_64 dX6_field_67 dX6_field_68 dX6_field_70 dX6_field_73 ⟨Nat.le_of_ble_eq_true rfl, Nat.le_of_ble_eq_true rfl⟩ (Nat.le_of_ble_eq_true rfl) ⟨Nat.le_of_ble_eq_true rfl, Nat.le_of_ble_eq_true rfl⟩ ⟨Nat.le_of_ble_eq_true rfl, Nat.le_of_ble_eq_true rfl⟩
      · refine lv_iload hx hb dX6_field_41 (lv_at hl 4 rfl) ?_
        refine lv_bipush (v := (10 : Int32)) hx hb dX6_field_43 (by decide) ?_
        refine lv_bipush (v := (90 : Int32)) hx hb dX6_field_45 (by decide) ?_
        refine g_callSi (n9 := 3) (As := [.int p3, .int (10 : Int32), .int (90 : Int32)]) (rest := []) hx hb hml hl.1 hown hts hK hM (c_X6_isOutside l G _ p3 (10 : Int32) (90 : Int32) ) wm_X6_30 wt_X6_isOutside wn_X6 wc_X6_isOutside (by decide +kernel) ⟨Nat.le_of_ble_eq_true rfl, Nat.le_of_ble_eq_true rfl⟩ ⟨Nat.le_of_ble_eq_true rfl, Nat.le_of_ble_eq_true rfl⟩ rfl (Nat.le_of_ble_eq_true rfl) rfl dX6_field_47 (fun r_47 M1 H locs hq hM => ?_)
        have hq1 := hq.1.symm
        have hq2 := hq.2.symm
        subst hq1 hq2
        refine lv_if_ne (tgt := 64) hx hb dX6_field_50 (by decide) (fun c4 => ?_) (fun c4 => ?_)
        · exact g_thrA hx hb hst hts hown hX hM hml hl.1 hlocks ht (Or.inr (Or.inl ⟨(by unfold kc_X6_field; rw [if_pos c1, if_pos c2, if_pos c3, if_neg c4]), rfl⟩)) tx_43 dX6_field_64 dX6_field_67 dX6_field_68 dX6_field_70 dX6_field_73 ⟨Nat.le_of_ble_eq_true rfl, Nat.le_of_ble_eq_true rfl⟩ (Nat.le_of_ble_eq_true rfl) ⟨Nat.le_of_ble_eq_true rfl, Nat.le_of_ble_eq_true rfl⟩ ⟨Nat.le_of_ble_eq_true rfl, Nat.le_of_ble_eq_true rfl⟩
        · refine lv_iload hx hb dX6_field_53 (lv_at hl 5 rfl) ?_
          refine lv_iconst (v := (0 : Int32)) hx hb dX6_field_55 (by decide) ?_
          refine lv_bipush (v := (50 : Int32)) hx hb dX6_field_56 (by decide) ?_
          refine g_callSi (n9 := 3) (As := [.int p4, .int (0 : Int32), .int (50 : Int32)]) (rest := []) hx hb hml hl.1 hown hts hK hM (c_X6_isOutside l G _ p4 (0 : Int32) (50 : Int32) ) wm_X6_30 wt_X6_isOutside wn_X6 wc_X6_isOutside (by decide +kernel) ⟨Nat.le_of_ble_eq_true rfl, Nat.le_of_ble_eq_true rfl⟩ ⟨Nat.le_of_ble_eq_true rfl, Nat.le_of_ble_eq_true rfl⟩ rfl (Nat.le_of_ble_eq_true rfl) rfl dX6_field_58 (fun r_58 M1 H locs hq hM => ?_)
          have hq1 := hq.1.symm
          have hq2 := hq.2.symm
          subst hq1 hq2
          refine lv_if_eq (tgt := 74) hx hb dX6_field_61 (by decide) (fun c5 => ?_) (fun c5 => ?_)
          · refine lv_aload_n hx hb dX6_field_74 rfl (lv_at hl 0 rfl) ?_
            refine fg_X6_12 hx hb hts hown hK hM ho dX6_field_75 ?_
            refine fg_X6_46 hx hb hts hown hK hM hL.1 dX6_field_78 ?_
            refine g_callVi (n9 := 0) (As := []) (rest := []) hx hb hml hl.1 hown hts hK hM (c_Jx4a65c_size_8abf5 l G _ (Y.1 0) t _ _ _ ((hL.2.1 0 (by decide)).1)) wm_X6_50 wi_Jx4a65c_size_8abf5 wl_Jx4a65c_size_8abf5 wn_Jx4a65c wc_Jx4a65c_size_8abf5 (by decide +kernel) (hM.recv hK (ci := 0) rfl ((hL.2.1 0 (by decide)).1)) ⟨Nat.le_of_ble_eq_true rfl, Nat.le_of_ble_eq_true rfl⟩ ⟨Nat.le_of_ble_eq_true rfl, Nat.le_of_ble_eq_true rfl⟩ rfl (Nat.le_of_ble_eq_true rfl) rfl dX6_field_81 (fun r_81 Mz H locs hq hM => ?_)
            have hq1 := hq.1.symm
            have hq2 := hq.2.symm
            subst hq1 hq2
            refine lv_bipush (v := (8 : Int32)) hx hb dX6_field_84 (by decide) ?_
            refine lv_icmp_lt (tgt := 99) hx hb dX6_field_86 (by decide) (fun c6 => ?_) (fun c6 => ?_)
            · refine lv_aload_n hx hb dX6_field_99 rfl (lv_at hl 0 rfl) ?_
              refine fg_X6_12 hx hb hts hown hK hM ho dX6_field_100 ?_
              refine fg_X6_46 hx hb hts hown hK hM hL.1 dX6_field_103 ?_
              have hlt : N 0 < 8 := (nI_ltI (a := N 0) (b := 8) (by have := hL.2.2.2.2.2.2.1 0; omega) (by decide)).mp c6
              refine g_new (ci := 3) (fs := [.int 0, .int 0, .int 0, .int 0, .int 0, .int 0, .int 0, .int 0, .int 0, .int 0, .int 0, .int 0, .int 0]) hx hb hts hown hK hM iaX2 rfl tyX2 tyX2_ok wk_X6_21 wb_X2 wn_X2 nfX2 t (Nat.le_of_ble_eq_true rfl) (Nat.le_of_ble_eq_true rfl) dX6_field_106 (fun q H hq0 hM => ?_)
              have hLq : ∀ e9 : va_E, LdR G (hu M q t e9) t h0 Y N T tr now price money := fun e9 => hL.same (fun z e8 hz => hu_n (hu_ne hz hq0 (by simp)) hz)
              have hoq : ∀ e9 : va_E, hu M q t e9 xa = some (rx, .inr (7, [.ref h0, .ref h2, .ref h3])) := fun e9 => hu_n (hu_ne ho hq0 (by simp)) ho
              refine lv_dup hx hb dX6_field_109 rfl ?_
              refine lv_iload_n hx hb dX6_field_110 rfl (lv_at hl 1 rfl) ?_
              refine lv_iload_n hx hb dX6_field_111 rfl (lv_at hl 2 rfl) ?_
              refine lv_iload_n hx hb dX6_field_112 rfl (lv_at hl 3 rfl) ?_
              refine lv_iload hx hb dX6_field_113 (lv_at hl 4 rfl) ?_
              refine lv_iload hx hb dX6_field_115 (lv_at hl 5 rfl) ?_
              refine g_callIv (n9 := 5) (As := [.int p0, .int p1, .int p2, .int p3, .int p4]) (rest := [.ref q, .ref (Y.1 0)]) hx hb hml hl.1 hown hts hK hM (cr_X2_init l G _ q t (fun _ => 0) p0 p1 p2 p3 p4 hu_s) wm_X6_23 wi_X2_init wn_X2 rfl wc_X2_init (by decide +kernel) ⟨Nat.le_of_ble_eq_true rfl, Nat.le_of_ble_eq_true rfl⟩ ⟨Nat.le_of_ble_eq_true rfl, Nat.le_of_ble_eq_true rfl⟩ rfl (Nat.le_of_ble_eq_true rfl) rfl dX6_field_117 (fun Mz H locs hq hM => ?_)
              subst hq
              replace hM := hM.eq (hu_u _ _ _ _ _ _)
              refine g_callVi (n9 := 1) (As := [.ref q]) (rest := []) hx hb hml hl.1 hown hts hK hM (c_add l G _ (Y.1 0) t q t (N 0) (Y.2.2.1 0) (Y.2.2.2.1 0) (eC 0 (R_X2_init_0 (fun _ => 0) p0 p1 p2 p3 p4)) (Y.2.2.2.2.1 0) (Y.2.1 0) (hL.lsNew (k := 0) (by decide) hq0) hu_s (eC_okv G (by decide) (R_X2_init_0 (fun _ => 0) p0 p1 p2 p3 p4)) (by omega) (hL.elNew (k := 0) (by decide) hq0)) wm_X6_61 wi_Jx4a65c_add_9ea2d wl_Jx4a65c_add_9ea2d wn_Jx4a65c wc_Jx4a65c_add_9ea2d (by decide +kernel) (hM.recv hK (ci := 0) rfl (hL.lsNew (k := 0) (by decide) hq0).1) ⟨Nat.le_of_ble_eq_true rfl, Nat.le_of_ble_eq_true rfl⟩ ⟨Nat.le_of_ble_eq_true rfl, by show 0 + 13 + 0 + (N 0 + N 0 / 2 + 10) ≤ 60; omega⟩ rfl (Nat.le_of_ble_eq_true rfl) rfl dX6_field_120 (fun r_30 M2 H locs hq hM => ?_)
              obtain ⟨hq1, ar1, cap1, g1, b1, b2, b3, b4, b5, b6⟩ := hq
              have hL2 := hL.add (k := 0) (by decide) hq0 rfl (by omega) b1 b2 b3 b4 b5 b6
              have hF2 : Fr t M M2 := hL.addFr (k := 0) (by decide) hq0 b6
              obtain ⟨Y2, eY2⟩ : ∃ z, z = yu Y 0 (N 0) (Y.2.1 0 + 1) ar1 cap1 g1 q := ⟨_, rfl⟩
              rw [← eY2] at hL2
              refine lv_pop hx hb dX6_field_123 rfl ?_
              refine lv_aload_n hx hb dX6_field_124 rfl (lv_at hl 0 rfl) ?_
              refine fg_X6_12 hx hb hts hown hK hM (hF2 _ _ _ hrx ho) dX6_field_125 ?_
              refine fg_X6_46 hx hb hts hown hK hM hL2.1 dX6_field_128 ?_
              refine g_callVi (n9 := 0) (As := []) (rest := []) hx hb hml hl.1 hown hts hK hM (c_Jx4a65c_size_8abf5 l G _ (Y2.1 0) t _ _ _ ((hL2.2.1 0 (by decide)).1)) wm_X6_50 wi_Jx4a65c_size_8abf5 wl_Jx4a65c_size_8abf5 wn_Jx4a65c wc_Jx4a65c_size_8abf5 (by decide +kernel) (hM.recv hK (ci := 0) rfl ((hL2.2.1 0 (by decide)).1)) ⟨Nat.le_of_ble_eq_true rfl, Nat.le_of_ble_eq_true rfl⟩ ⟨Nat.le_of_ble_eq_true rfl, by show 0 + 13 + 0 + (N 0 + N 0 / 2 + 10) + _ ≤ 60; omega⟩ rfl (Nat.le_of_ble_eq_true rfl) rfl dX6_field_131 (fun r_131 Mz H locs hq hM => ?_)
              have hq1 := hq.1.symm
              have hq2 := hq.2.symm
              subst hq1 hq2
              refine lv_iconst (v := (1 : Int32)) hx hb dX6_field_134 (by decide) ?_
              refine lv_isub hx hb dX6_field_135 ?_
              refine vx_ret ?_
              exact g_iret hx hb hr hlocks hM (Nat.le_of_ble_eq_true rfl) (by show 0 + 13 + 0 + (N 0 + N 0 / 2 + 10) + _ ≤ 60; omega) ⟨(by unfold kc_X6_field; rw [if_pos c1, if_pos c2, if_pos c3, if_pos c4, if_pos c5, if_pos c6]), (by rw [nu_s]; exact nI_pred _), ⟨Y2, hL2, hF2⟩⟩ dX6_field_136
            · exact g_thrS hx hb hst hts hown hX hM hml hl.1 hlocks ht (Or.inr (Or.inr ⟨(by unfold kc_X6_field; rw [if_pos c1, if_pos c2, if_pos c3, if_pos c4, if_pos c5, if_neg c6]), rfl⟩)) tx_58 dX6_field_89 dX6_field_92 dX6_field_93 dX6_field_95 dX6_field_98 ⟨Nat.le_of_ble_eq_true rfl, Nat.le_of_ble_eq_true rfl⟩ (Nat.le_of_ble_eq_true rfl) ⟨Nat.le_of_ble_eq_true rfl, Nat.le_of_ble_eq_true rfl⟩ ⟨Nat.le_of_ble_eq_true rfl, Nat.le_of_ble_eq_true rfl⟩
          · exact g_thrA hx hb hst hts hown hX hM hml hl.1 hlocks ht (Or.inr (Or.inl ⟨(by unfold kc_X6_field; rw [if_pos c1, if_pos c2, if_pos c3, if_pos c4, if_neg c5]), rfl⟩)) tx_43 dX6_field_64 dX6_field_67 dX6_field_68 dX6_field_70 dX6_field_73 ⟨Nat.le_of_ble_eq_true rfl, Nat.le_of_ble_eq_true rfl⟩ (Nat.le_of_ble_eq_true rfl) ⟨Nat.le_of_ble_eq_true rfl, Nat.le_of_ble_eq_true rfl⟩ ⟨Nat.le_of_ble_eq_true rfl, Nat.le_of_ble_eq_true rfl⟩
  · exact g_thrI hx hb hst hts hown hX hM hml hl.1 hlocks ht (Or.inl ⟨(by unfold kc_X6_field; rw [if_neg c1]), rfl⟩) tx_36 dX6_field_9 dX6_field_12 dX6_field_13 dX6_field_15 dX6_field_18 ⟨Nat.le_of_ble_eq_true rfl, Nat.le_of_ble_eq_true rfl⟩ (Nat.le_of_ble_eq_true rfl) ⟨Nat.le_of_ble_eq_true rfl, Nat.le_of_ble_eq_true rfl⟩ ⟨Nat.le_of_ble_eq_true rfl, Nat.le_of_ble_eq_true rfl⟩
def kc_X6_combine (N : Nat → Nat) (T : Tb) (tr now price money : Int32) (p0 p1 : Int32) : Nat := if (t_X6_isOutside_0 p0 (0 : Int32) (300 : Int32)) = 0 then (if (t_X6_isOutside_0 p1 (1 : Int32) (20 : Int32)) = 0 then (if (nI (N 1)) < (4 : Int32) then 0 else 3) else 2) else 2
set_option maxHeartbeats 4000000 in
set_option maxRecDepth 100000 in
theorem c_X6_combine (l : Launch) (hst : l.stackTraces = false) (G : GG) (M : HM) (xa rx h2 h3 : Nat) (t h0 : Nat) (Y : LY) (N : Nat → Nat) (T : Tb) (tr now price money : Int32) (p0 p1 : Int32) (ho : M xa = some (rx, .inr (7, [.ref h0, .ref h2, .ref h3]))) (hrx : rx ≠ t) (hL : LdR G M t h0 Y N T tr now price money) : Xi l yX6_combine (.code yX6_combine cX6_combine 3 (some .int) :: AL) 7 171 2 60 [.ref xa, .int p0, .int p1] G M (fun r M' => kc_X6_combine N T tr now price money p0 p1 = 0 ∧ r = nI (N 1) ∧ ∃ Y', LdR G M' t h0 Y' (nu N 1 (N 1 + 1)) (tu T 1 (N 1) (R_X0_init_0 (fun _ => 0) (nI (N 1)) p0 p1)) tr now price money ∧ Fr t M M') (EX (kc_X6_combine N T tr now price money p0 p1)) := by
  refine Xi.go (by decide) (Nat.le_of_ble_eq_true rfl) ?_
  intro p e s m below meth c ls hx hb hr hml hown hlocks ht hts hK hX hM hl
  have hown : s.vm.findClass RX6 = some m.cls := hown
  have hl : lv_has ls 3 [(0, .ref xa), (1, .int p0), (2, .int p1)] := hl
  refine lv_iload_n hx hb dX6_combine_0 rfl (lv_at hl 1 rfl) ?_
  refine lv_iconst (v := (0 : Int32)) hx hb dX6_combine_1 (by decide) ?_
  refine lv_sipush (v := (300 : Int32)) hx hb dX6_combine_2 (by decide) ?_
  refine g_callSi (n9 := 3) (As := [.int p0, .int (0 : Int32), .int (300 : Int32)]) (rest := []) hx hb hml hl.1 hown hts hK hM (c_X6_isOutside l G _ p0 (0 : Int32) (300 : Int32) ) wm_X6_30 wt_X6_isOutside wn_X6 wc_X6_isOutside (by decide +kernel) ⟨Nat.le_of_ble_eq_true rfl, Nat.le_of_ble_eq_true rfl⟩ ⟨Nat.le_of_ble_eq_true rfl, Nat.le_of_ble_eq_true rfl⟩ rfl (Nat.le_of_ble_eq_true rfl) rfl dX6_combine_5 (fun r_5 M1 H locs hq hM => ?_)
  have hq1 := hq.1.symm
  have hq2 := hq.2.symm
  subst hq1 hq2
  refine lv_if_ne (tgt := 21) hx hb dX6_combine_8 (by decide) (fun c1 => ?_) (fun c1 => ?_)
  · exact g_thrA hx hb hst hts hown hX hM hml hl.1 hlocks ht (Or.inr (Or.inl ⟨(by unfold kc_X6_combine; rw [if_neg c1]), rfl⟩)) tx_80 dX6_combine_21 dX6_combine_24 dX6_combine_25 dX6_combine_27 dX6_combine_30 ⟨Nat.le_of_ble_eq_true rfl, Nat.le_of_ble_eq_true rfl⟩ (Nat.le_of_ble_eq_true rfl) ⟨Nat.le_of_ble_eq_true rfl, Nat.le_of_ble_eq_true rfl⟩ ⟨Nat.le_of_ble_eq_true rfl, Nat.le_of_ble_eq_true rfl⟩
  · refine lv_iload_n hx hb dX6_combine_11 rfl (lv_at hl 2 rfl) ?_
    refine lv_iconst (v := (1 : Int32)) hx hb dX6_combine_12 (by decide) ?_
    refine lv_bipush (v := (20 : Int32)) hx hb dX6_combine_13 (by decide) ?_
    refine g_callSi (n9 := 3) (As := [.int p1, .int (1 : Int32), .int (20 : Int32)]) (rest := []) hx hb hml hl.1 hown hts hK hM (c_X6_isOutside l G _ p1 (1 : Int32) (20 : Int32) ) wm_X6_30 wt_X6_isOutside wn_X6 wc_X6_isOutside (by decide +kernel) ⟨Nat.le_of_ble_eq_true rfl, Nat.le_of_ble_eq_true rfl⟩ ⟨Nat.le_of_ble_eq_true rfl, Nat.le_of_ble_eq_true rfl⟩ rfl (Nat.le_of_ble_eq_true rfl) rfl dX6_combine_15 (fun r_15 M1 H locs hq hM => ?_)
    have hq1 := hq.1.symm
    have hq2 := hq.2.symm
    subst hq1 hq2
    refine lv_if_eq (tgt := 31) hx hb dX6_combine_18 (by decide) (fun c2 => ?_) (fun c2 => ?_)
    · refine lv_aload_n hx hb dX6_combine_31 rfl (lv_at hl 0 rfl) ?_
      refine fg_X6_12 hx hb hts hown hK hM ho dX6_combine_32 ?_
      refine fg_X6_82 hx hb hts hown hK hM hL.1 dX6_combine_35 ?_
      refine g_callVi (n9 := 0) (As := []) (rest := []) hx hb hml hl.1 hown hts hK hM (c_Jx4a65c_size_8abf5 l G _ (Y.1 1) t _ _ _ ((hL.2.1 1 (by decide)).1)) wm_X6_50 wi_Jx4a65c_size_8abf5 wl_Jx4a65c_size_8abf5 wn_Jx4a65c wc_Jx4a65c_size_8abf5 (by decide +kernel) (hM.recv hK (ci := 0) rfl ((hL.2.1 1 (by decide)).1)) ⟨Nat.le_of_ble_eq_true rfl, Nat.le_of_ble_eq_true rfl⟩ ⟨Nat.le_of_ble_eq_true rfl, Nat.le_of_ble_eq_true rfl⟩ rfl (Nat.le_of_ble_eq_true rfl) rfl dX6_combine_38 (fun r_38 Mz H locs hq hM => ?_)
      have hq1 := hq.1.symm
      have hq2 := hq.2.symm
      subst hq1 hq2
      refine lv_iconst (v := (4 : Int32)) hx hb dX6_combine_41 (by decide) ?_
      refine lv_icmp_lt (tgt := 55) hx hb dX6_combine_42 (by decide) (fun c3 => ?_) (fun c3 => ?_)
      · refine lv_aload_n hx hb dX6_combine_55 rfl (lv_at hl 0 rfl) ?_
        refine fg_X6_12 hx hb hts hown hK hM ho dX6_combine_56 ?_
        refine fg_X6_82 hx hb hts hown hK hM hL.1 dX6_combine_59 ?_
        have hlt : N 1 < 4 := (nI_ltI (a := N 1) (b := 4) (by have := hL.2.2.2.2.2.2.1 1; omega) (by decide)).mp c3
        refine g_new (ci := 1) (fs := [.int 0, .int 0, .int 0, .int 0, .int 0, .int 0, .int 0, .int 0, .int 0, .int 0, .int 0, .int 0]) hx hb hts hown hK hM iaX0 rfl tyX0 tyX0_ok wk_X6_87 wb_X0 wn_X0 nfX0 t (Nat.le_of_ble_eq_true rfl) (Nat.le_of_ble_eq_true rfl) dX6_combine_62 (fun q H hq0 hM => ?_)
        have hLq : ∀ e9 : va_E, LdR G (hu M q t e9) t h0 Y N T tr now price money := fun e9 => hL.same (fun z e8 hz => hu_n (hu_ne hz hq0 (by simp)) hz)
        have hoq : ∀ e9 : va_E, hu M q t e9 xa = some (rx, .inr (7, [.ref h0, .ref h2, .ref h3])) := fun e9 => hu_n (hu_ne ho hq0 (by simp)) ho
        refine lv_dup hx hb dX6_combine_65 rfl ?_
        refine lv_aload_n hx hb dX6_combine_66 rfl (lv_at hl 0 rfl) ?_
        refine fg_X6_12 hx hb hts hown hK hM (hoq _) dX6_combine_67 ?_
        refine fg_X6_82 hx hb hts hown hK hM (hLq _).1 dX6_combine_70 ?_
        refine g_callVi (n9 := 0) (As := []) (rest := [.ref q, .ref q, .ref (Y.1 1)]) hx hb hml hl.1 hown hts hK hM (c_Jx4a65c_size_8abf5 l G _ (Y.1 1) t _ _ _ (((hLq _).2.1 1 (by decide)).1)) wm_X6_50 wi_Jx4a65c_size_8abf5 wl_Jx4a65c_size_8abf5 wn_Jx4a65c wc_Jx4a65c_size_8abf5 (by decide +kernel) (hM.recv hK (ci := 0) rfl (((hLq _).2.1 1 (by decide)).1)) ⟨Nat.le_of_ble_eq_true rfl, Nat.le_of_ble_eq_true rfl⟩ ⟨Nat.le_of_ble_eq_true rfl, Nat.le_of_ble_eq_true rfl⟩ rfl (Nat.le_of_ble_eq_true rfl) rfl dX6_combine_73 (fun r_73 Mz H locs hq hM => ?_)
        have hq1 := hq.1.symm
        have hq2 := hq.2.symm
        subst hq1 hq2
        refine lv_iload_n hx hb dX6_combine_76 rfl (lv_at hl 1 rfl) ?_
        refine lv_iload_n hx hb dX6_combine_77 rfl (lv_at hl 2 rfl) ?_
        refine g_callIv (n9 := 3) (As := [.int (nI (N 1)), .int p0, .int p1]) (rest := [.ref q, .ref (Y.1 1)]) hx hb hml hl.1 hown hts hK hM (cr_X0_init l G _ q t (fun _ => 0) (nI (N 1)) p0 p1 hu_s) wm_X6_89 wi_X0_init wn_X0 rfl wc_X0_init (by decide +kernel) ⟨Nat.le_of_ble_eq_true rfl, Nat.le_of_ble_eq_true rfl⟩ ⟨Nat.le_of_ble_eq_true rfl, Nat.le_of_ble_eq_true rfl⟩ rfl (Nat.le_of_ble_eq_true rfl) rfl dX6_combine_78 (fun Mz H locs hq hM => ?_)
        subst hq
        replace hM := hM.eq (hu_u _ _ _ _ _ _)
        refine g_callVi (n9 := 1) (As := [.ref q]) (rest := []) hx hb hml hl.1 hown hts hK hM (c_add l G _ (Y.1 1) t q t (N 1) (Y.2.2.1 1) (Y.2.2.2.1 1) (eC 1 (R_X0_init_0 (fun _ => 0) (nI (N 1)) p0 p1)) (Y.2.2.2.2.1 1) (Y.2.1 1) (hL.lsNew (k := 1) (by decide) hq0) hu_s (eC_okv G (by decide) (R_X0_init_0 (fun _ => 0) (nI (N 1)) p0 p1)) (by omega) (hL.elNew (k := 1) (by decide) hq0)) wm_X6_61 wi_Jx4a65c_add_9ea2d wl_Jx4a65c_add_9ea2d wn_Jx4a65c wc_Jx4a65c_add_9ea2d (by decide +kernel) (hM.recv hK (ci := 0) rfl (hL.lsNew (k := 1) (by decide) hq0).1) ⟨Nat.le_of_ble_eq_true rfl, Nat.le_of_ble_eq_true rfl⟩ ⟨Nat.le_of_ble_eq_true rfl, by show 0 + 12 + 0 + (N 1 + N 1 / 2 + 10) ≤ 60; omega⟩ rfl (Nat.le_of_ble_eq_true rfl) rfl dX6_combine_81 (fun r_30 M2 H locs hq hM => ?_)
        obtain ⟨hq1, ar1, cap1, g1, b1, b2, b3, b4, b5, b6⟩ := hq
        have hL2 := hL.add (k := 1) (by decide) hq0 rfl (by omega) b1 b2 b3 b4 b5 b6
        have hF2 : Fr t M M2 := hL.addFr (k := 1) (by decide) hq0 b6
        obtain ⟨Y2, eY2⟩ : ∃ z, z = yu Y 1 (N 1) (Y.2.1 1 + 1) ar1 cap1 g1 q := ⟨_, rfl⟩
        rw [← eY2] at hL2
        refine lv_pop hx hb dX6_combine_84 rfl ?_
        refine lv_aload_n hx hb dX6_combine_85 rfl (lv_at hl 0 rfl) ?_
        refine fg_X6_12 hx hb hts hown hK hM (hF2 _ _ _ hrx ho) dX6_combine_86 ?_
        refine fg_X6_82 hx hb hts hown hK hM hL2.1 dX6_combine_89 ?_
        refine g_callVi (n9 := 0) (As := []) (rest := []) hx hb hml hl.1 hown hts hK hM (c_Jx4a65c_size_8abf5 l G _ (Y2.1 1) t _ _ _ ((hL2.2.1 1 (by decide)).1)) wm_X6_50 wi_Jx4a65c_size_8abf5 wl_Jx4a65c_size_8abf5 wn_Jx4a65c wc_Jx4a65c_size_8abf5 (by decide +kernel) (hM.recv hK (ci := 0) rfl ((hL2.2.1 1 (by decide)).1)) ⟨Nat.le_of_ble_eq_true rfl, Nat.le_of_ble_eq_true rfl⟩ ⟨Nat.le_of_ble_eq_true rfl, by show 0 + 12 + 0 + (N 1 + N 1 / 2 + 10) + _ ≤ 60; omega⟩ rfl (Nat.le_of_ble_eq_true rfl) rfl dX6_combine_92 (fun r_92 Mz H locs hq hM => ?_)
        have hq1 := hq.1.symm
        have hq2 := hq.2.symm
        subst hq1 hq2
        refine lv_iconst (v := (1 : Int32)) hx hb dX6_combine_95 (by decide) ?_
        refine lv_isub hx hb dX6_combine_96 ?_
        refine vx_ret ?_
        exact g_iret hx hb hr hlocks hM (Nat.le_of_ble_eq_true rfl) (by show 0 + 12 + 0 + (N 1 + N 1 / 2 + 10) + _ ≤ 60; omega) ⟨(by unfold kc_X6_combine; rw [if_pos c1, if_pos c2, if_pos c3]), (by rw [nu_s]; exact nI_pred _), ⟨Y2, hL2, hF2⟩⟩ dX6_combine_97
      · exact g_thrS hx hb hst hts hown hX hM hml hl.1 hlocks ht (Or.inr (Or.inr ⟨(by unfold kc_X6_combine; rw [if_pos c1, if_pos c2, if_neg c3]), rfl⟩)) tx_85 dX6_combine_45 dX6_combine_48 dX6_combine_49 dX6_combine_51 dX6_combine_54 ⟨Nat.le_of_ble_eq_true rfl, Nat.le_of_ble_eq_true rfl⟩ (Nat.le_of_ble_eq_true rfl) ⟨Nat.le_of_ble_eq_true rfl, Nat.le_of_ble_eq_true rfl⟩ ⟨Nat.le_of_ble_eq_true rfl, Nat.le_of_ble_eq_true rfl⟩
    · exact g_thrA hx hb hst hts hown hX hM hml hl.1 hlocks ht (Or.inr (Or.inl ⟨(by unfold kc_X6_combine; rw [if_pos c1, if_neg c2]), rfl⟩)) tx_80 dX6_combine_21 dX6_combine_24 dX6_combine_25 dX6_combine_27 dX6_combine_30 ⟨Nat.le_of_ble_eq_true rfl, Nat.le_of_ble_eq_true rfl⟩ (Nat.le_of_ble_eq_true rfl) ⟨Nat.le_of_ble_eq_true rfl, Nat.le_of_ble_eq_true rfl⟩ ⟨Nat.le_of_ble_eq_true rfl, Nat.le_of_ble_eq_true rfl⟩
def kc_X6_truck (N : Nat → Nat) (T : Tb) (tr now price money : Int32) (p0 : Int32) : Nat := if (t_X6_isOutside_0 p0 (0 : Int32) (300 : Int32)) = 0 then (if (nI (N 2)) < (4 : Int32) then 0 else 3) else 2
set_option maxHeartbeats 4000000 in
set_option maxRecDepth 100000 in
theorem c_X6_truck (l : Launch) (hst : l.stackTraces = false) (G : GG) (M : HM) (xa rx h2 h3 : Nat) (t h0 : Nat) (Y : LY) (N : Nat → Nat) (T : Tb) (tr now price money : Int32) (p0 : Int32) (ho : M xa = some (rx, .inr (7, [.ref h0, .ref h2, .ref h3]))) (hrx : rx ≠ t) (hL : LdR G M t h0 Y N T tr now price money) : Xi l yX6_truck (.code yX6_truck cX6_truck 2 (some .int) :: AL) 7 171 2 60 [.ref xa, .int p0] G M (fun r M' => kc_X6_truck N T tr now price money p0 = 0 ∧ r = nI (N 2) ∧ ∃ Y', LdR G M' t h0 Y' (nu N 2 (N 2 + 1)) (tu T 2 (N 2) (R_X5_init_0 (fun _ => 0) p0)) tr now price money ∧ Fr t M M') (EX (kc_X6_truck N T tr now price money p0)) := by
  refine Xi.go (by decide) (Nat.le_of_ble_eq_true rfl) ?_
  intro p e s m below meth c ls hx hb hr hml hown hlocks ht hts hK hX hM hl
  have hown : s.vm.findClass RX6 = some m.cls := hown
  have hl : lv_has ls 2 [(0, .ref xa), (1, .int p0)] := hl
  refine lv_iload_n hx hb dX6_truck_0 rfl (lv_at hl 1 rfl) ?_
  refine lv_iconst (v := (0 : Int32)) hx hb dX6_truck_1 (by decide) ?_
  refine lv_sipush (v := (300 : Int32)) hx hb dX6_truck_2 (by decide) ?_
  refine g_callSi (n9 := 3) (As := [.int p0, .int (0 : Int32), .int (300 : Int32)]) (rest := []) hx hb hml hl.1 hown hts hK hM (c_X6_isOutside l G _ p0 (0 : Int32) (300 : Int32) ) wm_X6_30 wt_X6_isOutside wn_X6 wc_X6_isOutside (by decide +kernel) ⟨Nat.le_of_ble_eq_true rfl, Nat.le_of_ble_eq_true rfl⟩ ⟨Nat.le_of_ble_eq_true rfl, Nat.le_of_ble_eq_true rfl⟩ rfl (Nat.le_of_ble_eq_true rfl) rfl dX6_truck_5 (fun r_5 M1 H locs hq hM => ?_)
  have hq1 := hq.1.symm
  have hq2 := hq.2.symm
  subst hq1 hq2
  refine lv_if_eq (tgt := 21) hx hb dX6_truck_8 (by decide) (fun c1 => ?_) (fun c1 => ?_)
  · refine lv_aload_n hx hb dX6_truck_21 rfl (lv_at hl 0 rfl) ?_
    refine fg_X6_12 hx hb hts hown hK hM ho dX6_truck_22 ?_
    refine fg_X6_94 hx hb hts hown hK hM hL.1 dX6_truck_25 ?_
    refine g_callVi (n9 := 0) (As := []) (rest := []) hx hb hml hl.1 hown hts hK hM (c_Jx4a65c_size_8abf5 l G _ (Y.1 2) t _ _ _ ((hL.2.1 2 (by decide)).1)) wm_X6_50 wi_Jx4a65c_size_8abf5 wl_Jx4a65c_size_8abf5 wn_Jx4a65c wc_Jx4a65c_size_8abf5 (by decide +kernel) (hM.recv hK (ci := 0) rfl ((hL.2.1 2 (by decide)).1)) ⟨Nat.le_of_ble_eq_true rfl, Nat.le_of_ble_eq_true rfl⟩ ⟨Nat.le_of_ble_eq_true rfl, Nat.le_of_ble_eq_true rfl⟩ rfl (Nat.le_of_ble_eq_true rfl) rfl dX6_truck_28 (fun r_28 Mz H locs hq hM => ?_)
    have hq1 := hq.1.symm
    have hq2 := hq.2.symm
    subst hq1 hq2
    refine lv_iconst (v := (4 : Int32)) hx hb dX6_truck_31 (by decide) ?_
    refine lv_icmp_lt (tgt := 45) hx hb dX6_truck_32 (by decide) (fun c2 => ?_) (fun c2 => ?_)
    · refine lv_aload_n hx hb dX6_truck_45 rfl (lv_at hl 0 rfl) ?_
      refine fg_X6_12 hx hb hts hown hK hM ho dX6_truck_46 ?_
      refine fg_X6_94 hx hb hts hown hK hM hL.1 dX6_truck_49 ?_
      have hlt : N 2 < 4 := (nI_ltI (a := N 2) (b := 4) (by have := hL.2.2.2.2.2.2.1 2; omega) (by decide)).mp c2
      refine g_new (ci := 6) (fs := [.int 0, .int 0, .int 0, .int 0, .int 0, .int 0, .int 0, .int 0, .int 0, .int 0]) hx hb hts hown hK hM iaX5 rfl tyX5 tyX5_ok wk_X6_99 wb_X5 wn_X5 nfX5 t (Nat.le_of_ble_eq_true rfl) (Nat.le_of_ble_eq_true rfl) dX6_truck_52 (fun q H hq0 hM => ?_)
      have hLq : ∀ e9 : va_E, LdR G (hu M q t e9) t h0 Y N T tr now price money := fun e9 => hL.same (fun z e8 hz => hu_n (hu_ne hz hq0 (by simp)) hz)
      have hoq : ∀ e9 : va_E, hu M q t e9 xa = some (rx, .inr (7, [.ref h0, .ref h2, .ref h3])) := fun e9 => hu_n (hu_ne ho hq0 (by simp)) ho
      refine lv_dup hx hb dX6_truck_55 rfl ?_
      refine lv_iload_n hx hb dX6_truck_56 rfl (lv_at hl 1 rfl) ?_
      refine g_callIv (n9 := 1) (As := [.int p0]) (rest := [.ref q, .ref (Y.1 2)]) hx hb hml hl.1 hown hts hK hM (cr_X5_init l G _ q t (fun _ => 0) p0 hu_s) wm_X6_101 wi_X5_init wn_X5 rfl wc_X5_init (by decide +kernel) ⟨Nat.le_of_ble_eq_true rfl, Nat.le_of_ble_eq_true rfl⟩ ⟨Nat.le_of_ble_eq_true rfl, Nat.le_of_ble_eq_true rfl⟩ rfl (Nat.le_of_ble_eq_true rfl) rfl dX6_truck_57 (fun Mz H locs hq hM => ?_)
      subst hq
      replace hM := hM.eq (hu_u _ _ _ _ _ _)
      refine g_callVi (n9 := 1) (As := [.ref q]) (rest := []) hx hb hml hl.1 hown hts hK hM (c_add l G _ (Y.1 2) t q t (N 2) (Y.2.2.1 2) (Y.2.2.2.1 2) (eC 2 (R_X5_init_0 (fun _ => 0) p0)) (Y.2.2.2.2.1 2) (Y.2.1 2) (hL.lsNew (k := 2) (by decide) hq0) hu_s (eC_okv G (by decide) (R_X5_init_0 (fun _ => 0) p0)) (by omega) (hL.elNew (k := 2) (by decide) hq0)) wm_X6_61 wi_Jx4a65c_add_9ea2d wl_Jx4a65c_add_9ea2d wn_Jx4a65c wc_Jx4a65c_add_9ea2d (by decide +kernel) (hM.recv hK (ci := 0) rfl (hL.lsNew (k := 2) (by decide) hq0).1) ⟨Nat.le_of_ble_eq_true rfl, Nat.le_of_ble_eq_true rfl⟩ ⟨Nat.le_of_ble_eq_true rfl, by show 0 + 10 + 0 + (N 2 + N 2 / 2 + 10) ≤ 60; omega⟩ rfl (Nat.le_of_ble_eq_true rfl) rfl dX6_truck_60 (fun r_30 M2 H locs hq hM => ?_)
      obtain ⟨hq1, ar1, cap1, g1, b1, b2, b3, b4, b5, b6⟩ := hq
      have hL2 := hL.add (k := 2) (by decide) hq0 rfl (by omega) b1 b2 b3 b4 b5 b6
      have hF2 : Fr t M M2 := hL.addFr (k := 2) (by decide) hq0 b6
      obtain ⟨Y2, eY2⟩ : ∃ z, z = yu Y 2 (N 2) (Y.2.1 2 + 1) ar1 cap1 g1 q := ⟨_, rfl⟩
      rw [← eY2] at hL2
      refine lv_pop hx hb dX6_truck_63 rfl ?_
      refine lv_aload_n hx hb dX6_truck_64 rfl (lv_at hl 0 rfl) ?_
      refine fg_X6_12 hx hb hts hown hK hM (hF2 _ _ _ hrx ho) dX6_truck_65 ?_
      refine fg_X6_94 hx hb hts hown hK hM hL2.1 dX6_truck_68 ?_
      refine g_callVi (n9 := 0) (As := []) (rest := []) hx hb hml hl.1 hown hts hK hM (c_Jx4a65c_size_8abf5 l G _ (Y2.1 2) t _ _ _ ((hL2.2.1 2 (by decide)).1)) wm_X6_50 wi_Jx4a65c_size_8abf5 wl_Jx4a65c_size_8abf5 wn_Jx4a65c wc_Jx4a65c_size_8abf5 (by decide +kernel) (hM.recv hK (ci := 0) rfl ((hL2.2.1 2 (by decide)).1)) ⟨Nat.le_of_ble_eq_true rfl, Nat.le_of_ble_eq_true rfl⟩ ⟨Nat.le_of_ble_eq_true rfl, by show 0 + 10 + 0 + (N 2 + N 2 / 2 + 10) + _ ≤ 60; omega⟩ rfl (Nat.le_of_ble_eq_true rfl) rfl dX6_truck_71 (fun r_71 Mz H locs hq hM => ?_)
      have hq1 := hq.1.symm
      have hq2 := hq.2.symm
      subst hq1 hq2
      refine lv_iconst (v := (1 : Int32)) hx hb dX6_truck_74 (by decide) ?_
      refine lv_isub hx hb dX6_truck_75 ?_
      refine vx_ret ?_
      exact g_iret hx hb hr hlocks hM (Nat.le_of_ble_eq_true rfl) (by show 0 + 10 + 0 + (N 2 + N 2 / 2 + 10) + _ ≤ 60; omega) ⟨(by unfold kc_X6_truck; rw [if_pos c1, if_pos c2]), (by rw [nu_s]; exact nI_pred _), ⟨Y2, hL2, hF2⟩⟩ dX6_truck_76
    · exact g_thrS hx hb hst hts hown hX hM hml hl.1 hlocks ht (Or.inr (Or.inr ⟨(by unfold kc_X6_truck; rw [if_pos c1, if_neg c2]), rfl⟩)) tx_97 dX6_truck_35 dX6_truck_38 dX6_truck_39 dX6_truck_41 dX6_truck_44 ⟨Nat.le_of_ble_eq_true rfl, Nat.le_of_ble_eq_true rfl⟩ (Nat.le_of_ble_eq_true rfl) ⟨Nat.le_of_ble_eq_true rfl, Nat.le_of_ble_eq_true rfl⟩ ⟨Nat.le_of_ble_eq_true rfl, Nat.le_of_ble_eq_true rfl⟩
  · exact g_thrA hx hb hst hts hown hX hM hml hl.1 hlocks ht (Or.inr (Or.inl ⟨(by unfold kc_X6_truck; rw [if_neg c1]), rfl⟩)) tx_92 dX6_truck_11 dX6_truck_14 dX6_truck_15 dX6_truck_17 dX6_truck_20 ⟨Nat.le_of_ble_eq_true rfl, Nat.le_of_ble_eq_true rfl⟩ (Nat.le_of_ble_eq_true rfl) ⟨Nat.le_of_ble_eq_true rfl, Nat.le_of_ble_eq_true rfl⟩ ⟨Nat.le_of_ble_eq_true rfl, Nat.le_of_ble_eq_true rfl⟩
def kc_X6_elevator (N : Nat → Nat) (T : Tb) (tr now price money : Int32) (p0 p1 p2 p3 p4 p5 : Int32) : Nat := if (t_X6_isOutside_0 p0 (0 : Int32) (300 : Int32)) = 0 then (if (t_X6_isOutside_0 p1 (0 : Int32) (9999 : Int32)) = 0 then (if (t_X6_isOutside_0 p2 (0 : Int32) (23 : Int32)) = 0 then (if (t_X6_isOutside_0 p3 (0 : Int32) (23 : Int32)) = 0 then (if p2 = p3 then 2 else (if (t_X6_isOutside_0 p4 (5 : Int32) (40 : Int32)) = 0 then (if (t_X6_isOutside_0 p5 p4 (40 : Int32)) = 0 then (if (nI (N 3)) < (3 : Int32) then 0 else 3) else 2) else 2)) else 2) else 2) else 2) else 2
set_option maxHeartbeats 4000000 in
set_option maxRecDepth 100000 in
theorem c_X6_elevator (l : Launch) (hst : l.stackTraces = false) (G : GG) (M : HM) (xa rx h2 h3 : Nat) (t h0 : Nat) (Y : LY) (N : Nat → Nat) (T : Tb) (tr now price money : Int32) (p0 p1 p2 p3 p4 p5 : Int32) (ho : M xa = some (rx, .inr (7, [.ref h0, .ref h2, .ref h3]))) (hrx : rx ≠ t) (hL : LdR G M t h0 Y N T tr now price money) : Xi l yX6_elevator (.code yX6_elevator cX6_elevator 7 (some .int) :: AL) 7 171 2 60 [.ref xa, .int p0, .int p1, .int p2, .int p3, .int p4, .int p5] G M (fun r M' => kc_X6_elevator N T tr now price money p0 p1 p2 p3 p4 p5 = 0 ∧ r = nI (N 3) ∧ ∃ Y', LdR G M' t h0 Y' (nu N 3 (N 3 + 1)) (tu T 3 (N 3) (R_X1_init_0 (fun _ => 0) p0 p1 p2 p3 p4 p5)) tr now price money ∧ Fr t M M') (EX (kc_X6_elevator N T tr now price money p0 p1 p2 p3 p4 p5)) := by
  refine Xi.go (by decide) (Nat.le_of_ble_eq_true rfl) ?_
  intro p e s m below meth c ls hx hb hr hml hown hlocks ht hts hK hX hM hl
  have hown : s.vm.findClass RX6 = some m.cls := hown
  have hl : lv_has ls 7 [(0, .ref xa), (1, .int p0), (2, .int p1), (3, .int p2), (4, .int p3), (5, .int p4), (6, .int p5)] := hl
  refine lv_iload_n hx hb dX6_elevator_0 rfl (lv_at hl 1 rfl) ?_
  refine lv_iconst (v := (0 : Int32)) hx hb dX6_elevator_1 (by decide) ?_
  refine lv_sipush (v := (300 : Int32)) hx hb dX6_elevator_2 (by decide) ?_
  refine g_callSi (n9 := 3) (As := [.int p0, .int (0 : Int32), .int (300 : Int32)]) (rest := []) hx hb hml hl.1 hown hts hK hM (c_X6_isOutside l G _ p0 (0 : Int32) (300 : Int32) ) wm_X6_30 wt_X6_isOutside wn_X6 wc_X6_isOutside (by decide +kernel) ⟨Nat.le_of_ble_eq_true rfl, Nat.le_of_ble_eq_true rfl⟩ ⟨Nat.le_of_ble_eq_true rfl, Nat.le_of_ble_eq_true rfl⟩ rfl (Nat.le_of_ble_eq_true rfl) rfl dX6_elevator_5 (fun r_5 M1 H locs hq hM => ?_)
  have hq1 := hq.1.symm
  have hq2 := hq.2.symm
  subst hq1 hq2
  refine lv_if_ne (tgt := 22) hx hb dX6_elevator_8 (by decide) (fun c1 => ?_) (fun c1 => ?_)
  · exact g_thrA hx hb hst hts hown hX hM hml hl.1 hlocks ht (Or.inr (Or.inl ⟨(by unfold kc_X6_elevator; rw [if_neg c1]), rfl⟩)) tx_104 dX6_elevator_22 dX6_elevator_25 dX6_elevator_26 dX6_elevator_28 dX6_elevator_31 ⟨Nat.le_of_ble_eq_true rfl, Nat.le_of_ble_eq_true rfl⟩ (Nat.le_of_ble_eq_true rfl) ⟨Nat.le_of_ble_eq_true rfl, Nat.le_of_ble_eq_true rfl⟩ ⟨Nat.le_of_ble_eq_true rfl, Nat.le_of_ble_eq_true rfl⟩
  · refine lv_iload_n hx hb dX6_elevator_11 rfl (lv_at hl 2 rfl) ?_
    refine lv_iconst (v := (0 : Int32)) hx hb dX6_elevator_12 (by decide) ?_
    refine lv_sipush (v := (9999 : Int32)) hx hb dX6_elevator_13 (by decide) ?_
    refine g_callSi (n9 := 3) (As := [.int p1, .int (0 : Int32), .int (9999 : Int32)]) (rest := []) hx hb hml hl.1 hown hts hK hM (c_X6_isOutside l G _ p1 (0 : Int32) (9999 : Int32) ) wm_X6_30 wt_X6_isOutside wn_X6 wc_X6_isOutside (by decide +kernel) ⟨Nat.le_of_ble_eq_true rfl, Nat.le_of_ble_eq_true rfl⟩ ⟨Nat.le_of_ble_eq_true rfl, Nat.le_of_ble_eq_true rfl⟩ rfl (Nat.le_of_ble_eq_true rfl) rfl dX6_elevator_16 (fun r_16 M1 H locs hq hM => ?_)
    have hq1 := hq.1.symm
    have hq2 := hq.2.symm
    subst hq1 hq2
    refine lv_if_eq (tgt := 32) hx hb dX6_elevator_19 (by decide) (fun c2 => ?_) (fun c2 => ?_)
    · refine lv_iload_n hx hb dX6_elevator_32 rfl (lv_at hl 3 rfl) ?_
      refine lv_iconst (v := (0 : Int32)) hx hb dX6_elevator_33 (by decide) ?_
      refine lv_bipush (v := (23 : Int32)) hx hb dX6_elevator_34 (by decide) ?_
      refine g_callSi (n9 := 3) (As := [.int p2, .int (0 : Int32), .int (23 : Int32)]) (rest := []) hx hb hml hl.1 hown hts hK hM (c_X6_isOutside l G _ p2 (0 : Int32) (23 : Int32) ) wm_X6_30 wt_X6_isOutside wn_X6 wc_X6_isOutside (by decide +kernel) ⟨Nat.le_of_ble_eq_true rfl, Nat.le_of_ble_eq_true rfl⟩ ⟨Nat.le_of_ble_eq_true rfl, Nat.le_of_ble_eq_true rfl⟩ rfl (Nat.le_of_ble_eq_true rfl) rfl dX6_elevator_36 (fun r_36 M1 H locs hq hM => ?_)
      have hq1 := hq.1.symm
      have hq2 := hq.2.symm
      subst hq1 hq2
      refine lv_if_ne (tgt := 59) hx hb dX6_elevator_39 (by decide) (fun c3 => ?_) (fun c3 => ?_)
      · exact g_thrA hx hb hst hts hown hX hM hml hl.1 hlocks ht (Or.inr (Or.inl ⟨(by unfold kc_X6_elevator; rw [if_pos c1, if_pos c2, if_neg c3]), rfl⟩)) tx_106 dX6_elevator_59 dX6_elevator_62 dX6_elevator_63 dX6_elevator_65 dX6_elevator_68 ⟨Nat.le_of_ble_eq_true rfl, Nat.le_of_ble_eq_true rfl⟩ (Nat.le_of_ble_eq_true rfl) ⟨Nat.le_of_ble_eq_true rfl, Nat.le_of_ble_eq_true rfl⟩ ⟨Nat.le_of_ble_eq_true rfl, Nat.le_of_ble_eq_true rfl⟩
      · refine lv_iload hx hb dX6_elevator_42 (lv_at hl 4 rfl) ?_
        refine lv_iconst (v := (0 : Int32)) hx hb dX6_elevator_44 (by decide) ?_
        refine lv_bipush (v := (23 : Int32)) hx hb dX6_elevator_45 (by decide) ?_
        refine g_callSi (n9 := 3) (As := [.int p3, .int (0 : Int32), .int (23 : Int32)]) (rest := []) hx hb hml hl.1 hown hts hK hM (c_X6_isOutside l G _ p3 (0 : Int32) (23 : Int32) ) wm_X6_30 wt_X6_isOutside wn_X6 wc_X6_isOutside (by decide +kernel) ⟨Nat.le_of_ble_eq_true rfl, Nat.le_of_ble_eq_true rfl⟩ ⟨Nat.le_of_ble_eq_true rfl, Nat.le_of_ble_eq_true rfl⟩ rfl (Nat.le_of_ble_eq_true rfl) rfl dX6_elevator_47 (fun r_47 M1 H locs hq hM => ?_)
        have hq1 := hq.1.symm
        have hq2 := hq.2.symm
        subst hq1 hq2
        refine lv_if_ne (tgt := 59) hx hb dX6_elevator_50 (by decide) (fun c4 => ?_) (fun c4 => ?_)
        · exact g_thrA hx hb hst hts hown hX hM hml hl.1 hlocks ht (Or.inr (Or.inl ⟨(by unfold kc_X6_elevator; rw [if_pos c1, if_pos c2, if_pos c3, if_neg c4]), rfl⟩)) tx_106 dX6_elevator_59 dX6_elevator_62 dX6_elevator_63 dX6_elevator_65 dX6_elevator_68 ⟨Nat.le_of_ble_eq_true rfl, Nat.le_of_ble_eq_true rfl⟩ (Nat.le_of_ble_eq_true rfl) ⟨Nat.le_of_ble_eq_true rfl, Nat.le_of_ble_eq_true rfl⟩ ⟨Nat.le_of_ble_eq_true rfl, Nat.le_of_ble_eq_true rfl⟩
        · refine lv_iload_n hx hb dX6_elevator_53 rfl (lv_at hl 3 rfl) ?_
          refine lv_iload hx hb dX6_elevator_54 (lv_at hl 4 rfl) ?_
          refine lv_icmp_ne (tgt := 69) hx hb dX6_elevator_56 (by decide) (fun c5 => ?_) (fun c5 => ?_)
          · refine lv_iload hx hb dX6_elevator_69 (lv_at hl 5 rfl) ?_
            refine lv_iconst (v := (5 : Int32)) hx hb dX6_elevator_71 (by decide) ?_
            refine lv_bipush (v := (40 : Int32)) hx hb dX6_elevator_72 (by decide) ?_
            refine g_callSi (n9 := 3) (As := [.int p4, .int (5 : Int32), .int (40 : Int32)]) (rest := []) hx hb hml hl.1 hown hts hK hM (c_X6_isOutside l G _ p4 (5 : Int32) (40 : Int32) ) wm_X6_30 wt_X6_isOutside wn_X6 wc_X6_isOutside (by decide +kernel) ⟨Nat.le_of_ble_eq_true rfl, Nat.le_of_ble_eq_true rfl⟩ ⟨Nat.le_of_ble_eq_true rfl, Nat.le_of_ble_eq_true rfl⟩ rfl (Nat.le_of_ble_eq_true rfl) rfl dX6_elevator_74 (fun r_74 M1 H locs hq hM => ?_)
            have hq1 := hq.1.symm
            have hq2 := hq.2.symm
            subst hq1 hq2
            refine lv_if_ne (tgt := 92) hx hb dX6_elevator_77 (by decide) (fun c6 => ?_) (fun c6 => ?_)
            · exact g_thrA hx hb hst hts hown hX hM hml hl.1 hlocks ht (Or.inr (Or.inl ⟨(by unfold kc_X6_elevator; rw [if_pos c1, if_pos c2, if_pos c3, if_pos c4, if_neg c5, if_neg c6]), rfl⟩)) tx_108 dX6_elevator_92 dX6_elevator_95 dX6_elevator_96 dX6_elevator_98 dX6_elevator_101 ⟨Nat.le_of_ble_eq_true rfl, Nat.le_of_ble_eq_true rfl⟩ (Nat.le_of_ble_eq_true rfl) ⟨Nat.le_of_ble_eq_true rfl, Nat.le_of_ble_eq_true rfl⟩ ⟨Nat.le_of_ble_eq_true rfl, Nat.le_of_ble_eq_true rfl⟩
            · refine lv_iload hx hb dX6_elevator_80 (lv_at hl 6 rfl) ?_
              refine lv_iload hx hb dX6_elevator_82 (lv_at hl 5 rfl) ?_
              refine lv_bipush (v := (40 : Int32)) hx hb dX6_elevator_84 (by decide) ?_
              refine g_callSi (n9 := 3) (As := [.int p5, .int p4, .int (40 : Int32)]) (rest := []) hx hb hml hl.1 hown hts hK hM (c_X6_isOutside l G _ p5 p4 (40 : Int32) ) wm_X6_30 wt_X6_isOutside wn_X6 wc_X6_isOutside (by decide +kernel) ⟨Nat.le_of_ble_eq_true rfl, Nat.le_of_ble_eq_true rfl⟩ ⟨Nat.le_of_ble_eq_true rfl, Nat.le_of_ble_eq_true rfl⟩ rfl (Nat.le_of_ble_eq_true rfl) rfl dX6_elevator_86 (fun r_86 M1 H locs hq hM => ?_)
              have hq1 := hq.1.symm
              have hq2 := hq.2.symm
              subst hq1 hq2
              refine lv_if_eq (tgt := 102) hx hb dX6_elevator_89 (by decide) (fun c7 => ?_) (fun c7 => ?_)
              · refine lv_aload_n hx hb dX6_elevator_102 rfl (lv_at hl 0 rfl) ?_
                refine fg_X6_12 hx hb hts hown hK hM ho dX6_elevator_103 ?_
                refine fg_X6_110 hx hb hts hown hK hM hL.1 dX6_elevator_106 ?_
                refine g_callVi (n9 := 0) (As := []) (rest := []) hx hb hml hl.1 hown hts hK hM (c_Jx4a65c_size_8abf5 l G _ (Y.1 3) t _ _ _ ((hL.2.1 3 (by decide)).1)) wm_X6_50 wi_Jx4a65c_size_8abf5 wl_Jx4a65c_size_8abf5 wn_Jx4a65c wc_Jx4a65c_size_8abf5 (by decide +kernel) (hM.recv hK (ci := 0) rfl ((hL.2.1 3 (by decide)).1)) ⟨Nat.le_of_ble_eq_true rfl, Nat.le_of_ble_eq_true rfl⟩ ⟨Nat.le_of_ble_eq_true rfl, Nat.le_of_ble_eq_true rfl⟩ rfl (Nat.le_of_ble_eq_true rfl) rfl dX6_elevator_109 (fun r_109 Mz H locs hq hM => ?_)
                have hq1 := hq.1.symm
                have hq2 := hq.2.symm
                subst hq1 hq2
                refine lv_iconst (v := (3 : Int32)) hx hb dX6_elevator_112 (by decide) ?_
                refine lv_icmp_lt (tgt := 126) hx hb dX6_elevator_113 (by decide) (fun c8 => ?_) (fun c8 => ?_)
                · refine lv_aload_n hx hb dX6_elevator_126 rfl (lv_at hl 0 rfl) ?_
                  refine fg_X6_12 hx hb hts hown hK hM ho dX6_elevator_127 ?_
                  refine fg_X6_110 hx hb hts hown hK hM hL.1 dX6_elevator_130 ?_
                  have hlt : N 3 < 3 := (nI_ltI (a := N 3) (b := 3) (by have := hL.2.2.2.2.2.2.1 3; omega) (by decide)).mp c8
                  refine g_new (ci := 2) (fs := [.int 0, .int 0, .int 0, .int 0, .int 0, .int 0]) hx hb hts hown hK hM iaX1 rfl tyX1 tyX1_ok wk_X6_115 wb_X1 wn_X1 nfX1 t (Nat.le_of_ble_eq_true rfl) (Nat.le_of_ble_eq_true rfl) dX6_elevator_133 (fun q H hq0 hM => ?_)
                  have hLq : ∀ e9 : va_E, LdR G (hu M q t e9) t h0 Y N T tr now price money := fun e9 => hL.same (fun z e8 hz => hu_n (hu_ne hz hq0 (by simp)) hz)
                  have hoq : ∀ e9 : va_E, hu M q t e9 xa = some (rx, .inr (7, [.ref h0, .ref h2, .ref h3])) := fun e9 => hu_n (hu_ne ho hq0 (by simp)) ho
                  refine lv_dup hx hb dX6_elevator_136 rfl ?_
                  refine lv_iload_n hx hb dX6_elevator_137 rfl (lv_at hl 1 rfl) ?_
                  refine lv_iload_n hx hb dX6_elevator_138 rfl (lv_at hl 2 rfl) ?_
                  refine lv_iload_n hx hb dX6_elevator_139 rfl (lv_at hl 3 rfl) ?_
                  refine lv_iload hx hb dX6_elevator_140 (lv_at hl 4 rfl) ?_
                  refine lv_iload hx hb dX6_elevator_142 (lv_at hl 5 rfl) ?_
                  refine lv_iload hx hb dX6_elevator_144 (lv_at hl 6 rfl) ?_
                  refine g_callIv (n9 := 6) (As := [.int p0, .int p1, .int p2, .int p3, .int p4, .int p5]) (rest := [.ref q, .ref (Y.1 3)]) hx hb hml hl.1 hown hts hK hM (cr_X1_init l G _ q t (fun _ => 0) p0 p1 p2 p3 p4 p5 hu_s) wm_X6_117 wi_X1_init wn_X1 rfl wc_X1_init (by decide +kernel) ⟨Nat.le_of_ble_eq_true rfl, Nat.le_of_ble_eq_true rfl⟩ ⟨Nat.le_of_ble_eq_true rfl, Nat.le_of_ble_eq_true rfl⟩ rfl (Nat.le_of_ble_eq_true rfl) rfl dX6_elevator_146 (fun Mz H locs hq hM => ?_)
                  subst hq
                  replace hM := hM.eq (hu_u _ _ _ _ _ _)
                  refine g_callVi (n9 := 1) (As := [.ref q]) (rest := []) hx hb hml hl.1 hown hts hK hM (c_add l G _ (Y.1 3) t q t (N 3) (Y.2.2.1 3) (Y.2.2.2.1 3) (eC 3 (R_X1_init_0 (fun _ => 0) p0 p1 p2 p3 p4 p5)) (Y.2.2.2.2.1 3) (Y.2.1 3) (hL.lsNew (k := 3) (by decide) hq0) hu_s (eC_okv G (by decide) (R_X1_init_0 (fun _ => 0) p0 p1 p2 p3 p4 p5)) (by omega) (hL.elNew (k := 3) (by decide) hq0)) wm_X6_61 wi_Jx4a65c_add_9ea2d wl_Jx4a65c_add_9ea2d wn_Jx4a65c wc_Jx4a65c_add_9ea2d (by decide +kernel) (hM.recv hK (ci := 0) rfl (hL.lsNew (k := 3) (by decide) hq0).1) ⟨Nat.le_of_ble_eq_true rfl, Nat.le_of_ble_eq_true rfl⟩ ⟨Nat.le_of_ble_eq_true rfl, by show 0 + 6 + 0 + (N 3 + N 3 / 2 + 10) ≤ 60; omega⟩ rfl (Nat.le_of_ble_eq_true rfl) rfl dX6_elevator_149 (fun r_30 M2 H locs hq hM => ?_)
                  obtain ⟨hq1, ar1, cap1, g1, b1, b2, b3, b4, b5, b6⟩ := hq
                  have hL2 := hL.add (k := 3) (by decide) hq0 rfl (by omega) b1 b2 b3 b4 b5 b6
                  have hF2 : Fr t M M2 := hL.addFr (k := 3) (by decide) hq0 b6
                  obtain ⟨Y2, eY2⟩ : ∃ z, z = yu Y 3 (N 3) (Y.2.1 3 + 1) ar1 cap1 g1 q := ⟨_, rfl⟩
                  rw [← eY2] at hL2
                  refine lv_pop hx hb dX6_elevator_152 rfl ?_
                  refine lv_aload_n hx hb dX6_elevator_153 rfl (lv_at hl 0 rfl) ?_
                  refine fg_X6_12 hx hb hts hown hK hM (hF2 _ _ _ hrx ho) dX6_elevator_154 ?_
                  refine fg_X6_110 hx hb hts hown hK hM hL2.1 dX6_elevator_157 ?_
                  refine g_callVi (n9 := 0) (As := []) (rest := []) hx hb hml hl.1 hown hts hK hM (c_Jx4a65c_size_8abf5 l G _ (Y2.1 3) t _ _ _ ((hL2.2.1 3 (by decide)).1)) wm_X6_50 wi_Jx4a65c_size_8abf5 wl_Jx4a65c_size_8abf5 wn_Jx4a65c wc_Jx4a65c_size_8abf5 (by decide +kernel) (hM.recv hK (ci := 0) rfl ((hL2.2.1 3 (by decide)).1)) ⟨Nat.le_of_ble_eq_true rfl, Nat.le_of_ble_eq_true rfl⟩ ⟨Nat.le_of_ble_eq_true rfl, by show 0 + 6 + 0 + (N 3 + N 3 / 2 + 10) + _ ≤ 60; omega⟩ rfl (Nat.le_of_ble_eq_true rfl) rfl dX6_elevator_160 (fun r_160 Mz H locs hq hM => ?_)
                  have hq1 := hq.1.symm
                  have hq2 := hq.2.symm
                  subst hq1 hq2
                  refine lv_iconst (v := (1 : Int32)) hx hb dX6_elevator_163 (by decide) ?_
                  refine lv_isub hx hb dX6_elevator_164 ?_
                  refine vx_ret ?_
                  exact g_iret hx hb hr hlocks hM (Nat.le_of_ble_eq_true rfl) (by show 0 + 6 + 0 + (N 3 + N 3 / 2 + 10) + _ ≤ 60; omega) ⟨(by unfold kc_X6_elevator; rw [if_pos c1, if_pos c2, if_pos c3, if_pos c4, if_neg c5, if_pos c6, if_pos c7, if_pos c8]), (by rw [nu_s]; exact nI_pred _), ⟨Y2, hL2, hF2⟩⟩ dX6_elevator_165
                · exact g_thrS hx hb hst hts hown hX hM hml hl.1 hlocks ht (Or.inr (Or.inr ⟨(by unfold kc_X6_elevator; rw [if_pos c1, if_pos c2, if_pos c3, if_pos c4, if_neg c5, if_pos c6, if_pos c7, if_neg c8]), rfl⟩)) tx_113 dX6_elevator_116 dX6_elevator_119 dX6_elevator_120 dX6_elevator_122 dX6_elevator_125 ⟨Nat.le_of_ble_eq_true rfl, Nat.le_of_ble_eq_true rfl⟩ (Nat.le_of_ble_eq_true rfl) ⟨Nat.le_of_ble_eq_true rfl, Nat.le_of_ble_eq_true rfl⟩ ⟨Nat.le_of_ble_eq_true rfl, Nat.le_of_ble_eq_true rfl⟩
              · exact g_thrA hx hb hst hts hown hX hM hml hl.1 hlocks ht (Or.inr (Or.inl ⟨(by unfold kc_X6_elevator; rw [if_pos c1, if_pos c2, if_pos c3, if_pos c4, if_neg c5, if_pos c6, if_neg c7]), rfl⟩)) tx_108 dX6_elevator_92 dX6_elevator_95 dX6_elevator_96 dX6_elevator_98 dX6_elevator_101 ⟨Nat.le_of_ble_eq_true rfl, Nat.le_of_ble_eq_true rfl⟩ (Nat.le_of_ble_eq_true rfl) ⟨Nat.le_of_ble_eq_true rfl, Nat.le_of_ble_eq_true rfl⟩ ⟨Nat.le_of_ble_eq_true rfl, Nat.le_of_ble_eq_true rfl⟩
          · exact g_thrA hx hb hst hts hown hX hM hml hl.1 hlocks ht (Or.inr (Or.inl ⟨(by unfold kc_X6_elevator; rw [if_pos c1, if_pos c2, if_pos c3, if_pos c4, if_pos c5]), rfl⟩)) tx_106 dX6_elevator_59 dX6_elevator_62 dX6_elevator_63 dX6_elevator_65 dX6_elevator_68 ⟨Nat.le_of_ble_eq_true rfl, Nat.le_of_ble_eq_true rfl⟩ (Nat.le_of_ble_eq_true rfl) ⟨Nat.le_of_ble_eq_true rfl, Nat.le_of_ble_eq_true rfl⟩ ⟨Nat.le_of_ble_eq_true rfl, Nat.le_of_ble_eq_true rfl⟩
    · exact g_thrA hx hb hst hts hown hX hM hml hl.1 hlocks ht (Or.inr (Or.inl ⟨(by unfold kc_X6_elevator; rw [if_pos c1, if_neg c2]), rfl⟩)) tx_104 dX6_elevator_22 dX6_elevator_25 dX6_elevator_26 dX6_elevator_28 dX6_elevator_31 ⟨Nat.le_of_ble_eq_true rfl, Nat.le_of_ble_eq_true rfl⟩ (Nat.le_of_ble_eq_true rfl) ⟨Nat.le_of_ble_eq_true rfl, Nat.le_of_ble_eq_true rfl⟩ ⟨Nat.le_of_ble_eq_true rfl, Nat.le_of_ble_eq_true rfl⟩
def kc_X6_crop (N : Nat → Nat) (T : Tb) (tr now price money : Int32) (p0 p1 p2 : Int32) : Nat := if ixR (N 0) p0 = none then 1 else (if (t_X6_isOutside_0 p1 (0 : Int32) (100 : Int32)) = 0 then (if (t_X6_isOutside_0 p2 (5 : Int32) (40 : Int32)) = 0 then 0 else 2) else 2)
def qv_X6_crop (N : Nat → Nat) (T : Tb) (tr now price money : Int32) (p0 p1 p2 : Int32) : Int32 := ((T 0 (ix p0)) 6)
set_option maxHeartbeats 4000000 in
set_option maxRecDepth 100000 in
theorem c_X6_crop (l : Launch) (hst : l.stackTraces = false) (G : GG) (M : HM) (xa rx h2 h3 : Nat) (t h0 : Nat) (Y : LY) (N : Nat → Nat) (T : Tb) (tr now price money : Int32) (p0 p1 p2 : Int32) (ho : M xa = some (rx, .inr (7, [.ref h0, .ref h2, .ref h3]))) (hrx : rx ≠ t) (hL : LdR G M t h0 Y N T tr now price money) : Xi l yX6_crop (.code yX6_crop cX6_crop 6 (some .int) :: AL) 6 90 1 6 [.ref xa, .int p0, .int p1, .int p2] G M (fun r M' => kc_X6_crop N T tr now price money p0 p1 p2 = 0 ∧ r = (qv_X6_crop N T tr now price money p0 p1 p2) ∧ ∃ Y', LdR G M' t h0 Y' N (tu (tu T 0 (ix p0) (upd (T 0 (ix p0)) 6 p1)) 0 (ix p0) (upd (upd (T 0 (ix p0)) 6 p1) 7 p2)) tr now price money ∧ Fr t M M') (EX (kc_X6_crop N T tr now price money p0 p1 p2)) := by
  refine Xi.go (by decide) (Nat.le_of_ble_eq_true rfl) ?_
  intro p e s m below meth c ls hx hb hr hml hown hlocks ht hts hK hX hM hl
  have hown : s.vm.findClass RX6 = some m.cls := hown
  have hl : lv_has ls 6 [(0, .ref xa), (1, .int p0), (2, .int p1), (3, .int p2)] := hl
  refine lv_aload_n hx hb dX6_crop_0 rfl (lv_at hl 0 rfl) ?_
  refine fg_X6_12 hx hb hts hown hK hM ho dX6_crop_1 ?_
  refine lv_iload_n hx hb dX6_crop_4 rfl (lv_at hl 1 rfl) ?_
  rcases x1 : ixR (N 0) p0 with _ | j1
  · refine g_callVq (n9 := 1) (As := [.int p0]) (rest := []) hx hb hml hl.1 hown hts hK hM (c_X3_fieldAt l G _ t h0 Y N _ tr now price money p0 hL) wm_X6_65 wi_X3_fieldAt wl_X3_fieldAt wn_X3 wc_X3_fieldAt (by decide +kernel) (hM.recv hK (ci := 4) rfl hL.1) ⟨Nat.le_of_ble_eq_true rfl, Nat.le_of_ble_eq_true rfl⟩ ⟨Nat.le_of_ble_eq_true rfl, Nat.le_of_ble_eq_true rfl⟩ rfl (Nat.le_of_ble_eq_true rfl) rfl dX6_crop_5 (fun r_5 Mz H locs hq hM => ?_)
    have hq1 := (hq.1.trans (atR_n (N := N) (k := 0) x1)).symm
    have hq2 := hq.2.symm
    subst hq1 hq2
    refine lv_astoreN (lv' := [(4, .null), (0, .ref xa), (1, .int p0), (2, .int p1), (3, .int p2)]) hx hb dX6_crop_8 hl (by decide) rfl (fun ls hl => ?_)
    refine lv_aloadN hx hb dX6_crop_10 (lv_at hl 0 rfl) ?_
    refine lv_ifnonnullN hx hb dX6_crop_12 ?_
    exact g_thrI hx hb hst hts hown hX hM hml hl.1 hlocks ht (Or.inl ⟨(by unfold kc_X6_crop; rw [if_pos x1]), rfl⟩) tx_69 dX6_crop_15 dX6_crop_18 dX6_crop_19 dX6_crop_21 dX6_crop_24 ⟨Nat.le_of_ble_eq_true rfl, Nat.le_of_ble_eq_true rfl⟩ (Nat.le_of_ble_eq_true rfl) ⟨Nat.le_of_ble_eq_true rfl, Nat.le_of_ble_eq_true rfl⟩ ⟨Nat.le_of_ble_eq_true rfl, Nat.le_of_ble_eq_true rfl⟩
  · obtain rfl : j1 = (ix p0) := ixR_ix x1
    have lx1 : (ix p0) < N 0 := (ixR_lt (hL.2.2.2.2.2.2.1 0) x1).1
    have nx1 : ¬ ixR (N 0) p0 = none := by rw [x1]; exact fun z => nomatch z
    refine g_callVq (n9 := 1) (As := [.int p0]) (rest := []) hx hb hml hl.1 hown hts hK hM (c_X3_fieldAt l G _ t h0 Y N _ tr now price money p0 hL) wm_X6_65 wi_X3_fieldAt wl_X3_fieldAt wn_X3 wc_X3_fieldAt (by decide +kernel) (hM.recv hK (ci := 4) rfl hL.1) ⟨Nat.le_of_ble_eq_true rfl, Nat.le_of_ble_eq_true rfl⟩ ⟨Nat.le_of_ble_eq_true rfl, Nat.le_of_ble_eq_true rfl⟩ rfl (Nat.le_of_ble_eq_true rfl) rfl dX6_crop_5 (fun r_5 Mz H locs hq hM => ?_)
    have hq1 := (hq.1.trans (atR_s (N := N) (k := 0) x1)).symm
    have hq2 := hq.2.symm
    subst hq1 hq2
    refine lv_astore (lv' := [(4, .ref (Y.2.2.2.2.2 0 (ix p0))), (0, .ref xa), (1, .int p0), (2, .int p1), (3, .int p2)]) hx hb dX6_crop_8 hl (by decide) rfl (fun ls hl => ?_)
    refine lv_aload hx hb dX6_crop_10 (lv_at hl 0 rfl) ?_
    refine lv_ifnonnull (tgt := 25) hx hb dX6_crop_12 (by decide) ?_
    refine lv_iload_n hx hb dX6_crop_25 rfl (lv_at hl 3 rfl) ?_
    refine lv_iconst (v := (0 : Int32)) hx hb dX6_crop_26 (by decide) ?_
    refine lv_bipush (v := (100 : Int32)) hx hb dX6_crop_27 (by decide) ?_
    refine g_callSi (n9 := 3) (As := [.int p1, .int (0 : Int32), .int (100 : Int32)]) (rest := []) hx hb hml hl.1 hown hts hK hM (c_X6_isOutside l G _ p1 (0 : Int32) (100 : Int32) ) wm_X6_30 wt_X6_isOutside wn_X6 wc_X6_isOutside (by decide +kernel) ⟨Nat.le_of_ble_eq_true rfl, Nat.le_of_ble_eq_true rfl⟩ ⟨Nat.le_of_ble_eq_true rfl, Nat.le_of_ble_eq_true rfl⟩ rfl (Nat.le_of_ble_eq_true rfl) rfl dX6_crop_29 (fun r_29 M1 H locs hq hM => ?_)
    have hq1 := hq.1.symm
    have hq2 := hq.2.symm
    subst hq1 hq2
    refine lv_if_ne (tgt := 45) hx hb dX6_crop_32 (by decide) (fun c2 => ?_) (fun c2 => ?_)
    · exact g_thrA hx hb hst hts hown hX hM hml hl.1 hlocks ht (Or.inr (Or.inl ⟨(by unfold kc_X6_crop; rw [if_neg nx1, if_neg c2]), rfl⟩)) tx_71 dX6_crop_45 dX6_crop_48 dX6_crop_49 dX6_crop_51 dX6_crop_54 ⟨Nat.le_of_ble_eq_true rfl, Nat.le_of_ble_eq_true rfl⟩ (Nat.le_of_ble_eq_true rfl) ⟨Nat.le_of_ble_eq_true rfl, Nat.le_of_ble_eq_true rfl⟩ ⟨Nat.le_of_ble_eq_true rfl, Nat.le_of_ble_eq_true rfl⟩
    · refine lv_iload_n hx hb dX6_crop_35 rfl (lv_at hl 4 rfl) ?_
      refine lv_iconst (v := (5 : Int32)) hx hb dX6_crop_36 (by decide) ?_
      refine lv_bipush (v := (40 : Int32)) hx hb dX6_crop_37 (by decide) ?_
      refine g_callSi (n9 := 3) (As := [.int p2, .int (5 : Int32), .int (40 : Int32)]) (rest := []) hx hb hml hl.1 hown hts hK hM (c_X6_isOutside l G _ p2 (5 : Int32) (40 : Int32) ) wm_X6_30 wt_X6_isOutside wn_X6 wc_X6_isOutside (by decide +kernel) ⟨Nat.le_of_ble_eq_true rfl, Nat.le_of_ble_eq_true rfl⟩ ⟨Nat.le_of_ble_eq_true rfl, Nat.le_of_ble_eq_true rfl⟩ rfl (Nat.le_of_ble_eq_true rfl) rfl dX6_crop_39 (fun r_39 M1 H locs hq hM => ?_)
      have hq1 := hq.1.symm
      have hq2 := hq.2.symm
      subst hq1 hq2
      refine lv_if_eq (tgt := 55) hx hb dX6_crop_42 (by decide) (fun c3 => ?_) (fun c3 => ?_)
      · refine lv_aload hx hb dX6_crop_55 (lv_at hl 0 rfl) ?_
        refine fg_X6_73 hx hb hts hown hK hM (hL.row (k := 0) (i := (ix p0)) (by decide) lx1) dX6_crop_57 ?_
        refine lv_istore (lv' := [(5, .int ((T 0 (ix p0)) 6)), (4, .ref (Y.2.2.2.2.2 0 (ix p0))), (0, .ref xa), (1, .int p0), (2, .int p1), (3, .int p2)]) hx hb dX6_crop_60 hl (by decide) rfl (fun ls hl => ?_)
        refine lv_aload hx hb dX6_crop_62 (lv_at hl 1 rfl) ?_
        refine lv_iload_n hx hb dX6_crop_64 rfl (lv_at hl 4 rfl) ?_
        refine fp_X6_73 hx hb hts hown hK hM (hL.row (k := 0) (i := (ix p0)) (by decide) lx1) dX6_crop_65 (fun H locs hM => ?_)
        obtain ⟨M1, eM1⟩ : ∃ z, z = hu M (Y.2.2.2.2.2 0 (ix p0)) t (eC 0 (upd (T 0 (ix p0)) 6 p1)) := ⟨_, rfl⟩
        replace hM := hM.eq eM1.symm
        have hL1 : LdR G M1 t h0 Y N (tu T 0 (ix p0) (upd (T 0 (ix p0)) 6 p1)) tr now price money := by rw [eM1]; exact hL.setRow (k := 0) (by decide) lx1 (upd (T 0 (ix p0)) 6 p1)
        have hF1 : Fr t M M1 := by rw [eM1]; exact Fr.tr Fr.rf (Fr.up (hL.row (k := 0) (i := (ix p0)) (by decide) lx1))
        have hr1_0 : M1 (Y.2.2.2.2.2 0 (ix p0)) = some (t, eC 0 (upd (T 0 (ix p0)) 6 p1)) := by rw [eM1]; exact hu_s
        refine lv_aload hx hb dX6_crop_68 (lv_at hl 1 rfl) ?_
        refine lv_iload_n hx hb dX6_crop_70 rfl (lv_at hl 5 rfl) ?_
        refine fp_X6_77 hx hb hts hown hK hM hr1_0 dX6_crop_71 (fun H locs hM => ?_)
        obtain ⟨M2, eM2⟩ : ∃ z, z = hu M1 (Y.2.2.2.2.2 0 (ix p0)) t (eC 0 (upd (upd (T 0 (ix p0)) 6 p1) 7 p2)) := ⟨_, rfl⟩
        replace hM := hM.eq eM2.symm
        have hL2 : LdR G M2 t h0 Y N (tu (tu T 0 (ix p0) (upd (T 0 (ix p0)) 6 p1)) 0 (ix p0) (upd (upd (T 0 (ix p0)) 6 p1) 7 p2)) tr now price money := by rw [eM2]; exact hL1.setRow (k := 0) (by decide) lx1 (upd (upd (T 0 (ix p0)) 6 p1) 7 p2)
        have hF2 : Fr t M M2 := by rw [eM2]; exact Fr.tr hF1 (Fr.up hr1_0)
        have hr2_0 : M2 (Y.2.2.2.2.2 0 (ix p0)) = some (t, eC 0 (upd (upd (T 0 (ix p0)) 6 p1) 7 p2)) := by rw [eM2]; exact hu_s
        refine lv_iload hx hb dX6_crop_74 (lv_at hl 0 rfl) ?_
        refine vx_ret ?_
        exact g_iret hx hb hr hlocks hM (Nat.le_of_ble_eq_true rfl) (Nat.le_of_ble_eq_true rfl) ⟨(by unfold kc_X6_crop; rw [if_neg nx1, if_pos c2, if_pos c3]), rfl, ⟨Y, hL2, hF2⟩⟩ dX6_crop_76
      · exact g_thrA hx hb hst hts hown hX hM hml hl.1 hlocks ht (Or.inr (Or.inl ⟨(by unfold kc_X6_crop; rw [if_neg nx1, if_pos c2, if_neg c3]), rfl⟩)) tx_71 dX6_crop_45 dX6_crop_48 dX6_crop_49 dX6_crop_51 dX6_crop_54 ⟨Nat.le_of_ble_eq_true rfl, Nat.le_of_ble_eq_true rfl⟩ (Nat.le_of_ble_eq_true rfl) ⟨Nat.le_of_ble_eq_true rfl, Nat.le_of_ble_eq_true rfl⟩ ⟨Nat.le_of_ble_eq_true rfl, Nat.le_of_ble_eq_true rfl⟩
def kc_X6_fetch (N : Nat → Nat) (T : Tb) (tr now price money : Int32) (p0 p1 : Int32) : Nat := if ixR (N 2) p0 = none then 1 else (if ixR (N 1) p1 = none then 1 else 0)
def qv_X6_fetch (N : Nat → Nat) (T : Tb) (tr now price money : Int32) (p0 p1 : Int32) : Int32 := (ab (((T 1 (ix p1)) 1) - ((upd (upd (T 2 (ix p0)) 7 p1) 8 (-1 : Int32)) 0)))
set_option maxHeartbeats 4000000 in
set_option maxRecDepth 100000 in
theorem c_X6_fetch (l : Launch) (hst : l.stackTraces = false) (G : GG) (M : HM) (xa rx h2 h3 : Nat) (t h0 : Nat) (Y : LY) (N : Nat → Nat) (T : Tb) (tr now price money : Int32) (p0 p1 : Int32) (ho : M xa = some (rx, .inr (7, [.ref h0, .ref h2, .ref h3]))) (hrx : rx ≠ t) (hL : LdR G M t h0 Y N T tr now price money) : Xi l yX6_fetch (.code yX6_fetch cX6_fetch 5 (some .int) :: AL) 6 90 1 6 [.ref xa, .int p0, .int p1] G M (fun r M' => kc_X6_fetch N T tr now price money p0 p1 = 0 ∧ r = (qv_X6_fetch N T tr now price money p0 p1) ∧ ∃ Y', LdR G M' t h0 Y' N (tu (tu T 2 (ix p0) (upd (T 2 (ix p0)) 7 p1)) 2 (ix p0) (upd (upd (T 2 (ix p0)) 7 p1) 8 (-1 : Int32))) tr now price money ∧ Fr t M M') (EX (kc_X6_fetch N T tr now price money p0 p1)) := by
  refine Xi.go (by decide) (Nat.le_of_ble_eq_true rfl) ?_
  intro p e s m below meth c ls hx hb hr hml hown hlocks ht hts hK hX hM hl
  have hown : s.vm.findClass RX6 = some m.cls := hown
  have hl : lv_has ls 5 [(0, .ref xa), (1, .int p0), (2, .int p1)] := hl
  refine lv_aload_n hx hb dX6_fetch_0 rfl (lv_at hl 0 rfl) ?_
  refine fg_X6_12 hx hb hts hown hK hM ho dX6_fetch_1 ?_
  refine lv_iload_n hx hb dX6_fetch_4 rfl (lv_at hl 1 rfl) ?_
  rcases x1 : ixR (N 2) p0 with _ | j1
  · refine g_callVq (n9 := 1) (As := [.int p0]) (rest := []) hx hb hml hl.1 hown hts hK hM (c_X3_truckAt l G _ t h0 Y N _ tr now price money p0 hL) wm_X6_138 wi_X3_truckAt wl_X3_truckAt wn_X3 wc_X3_truckAt (by decide +kernel) (hM.recv hK (ci := 4) rfl hL.1) ⟨Nat.le_of_ble_eq_true rfl, Nat.le_of_ble_eq_true rfl⟩ ⟨Nat.le_of_ble_eq_true rfl, Nat.le_of_ble_eq_true rfl⟩ rfl (Nat.le_of_ble_eq_true rfl) rfl dX6_fetch_5 (fun r_5 Mz H locs hq hM => ?_)
    have hq1 := (hq.1.trans (atR_n (N := N) (k := 2) x1)).symm
    have hq2 := hq.2.symm
    subst hq1 hq2
    refine lv_astore_nN (lv' := [(3, .null), (0, .ref xa), (1, .int p0), (2, .int p1)]) hx hb dX6_fetch_8 rfl hl (by decide) rfl (fun ls hl => ?_)
    refine lv_aload_nN hx hb dX6_fetch_9 rfl (lv_at hl 0 rfl) ?_
    refine lv_ifnonnullN hx hb dX6_fetch_10 ?_
    exact g_thrI hx hb hst hts hown hX hM hml hl.1 hlocks ht (Or.inl ⟨(by unfold kc_X6_fetch; rw [if_pos x1]), rfl⟩) tx_142 dX6_fetch_13 dX6_fetch_16 dX6_fetch_17 dX6_fetch_19 dX6_fetch_22 ⟨Nat.le_of_ble_eq_true rfl, Nat.le_of_ble_eq_true rfl⟩ (Nat.le_of_ble_eq_true rfl) ⟨Nat.le_of_ble_eq_true rfl, Nat.le_of_ble_eq_true rfl⟩ ⟨Nat.le_of_ble_eq_true rfl, Nat.le_of_ble_eq_true rfl⟩
  · obtain rfl : j1 = (ix p0) := ixR_ix x1
    have lx1 : (ix p0) < N 2 := (ixR_lt (hL.2.2.2.2.2.2.1 2) x1).1
    have nx1 : ¬ ixR (N 2) p0 = none := by rw [x1]; exact fun z => nomatch z
    refine g_callVq (n9 := 1) (As := [.int p0]) (rest := []) hx hb hml hl.1 hown hts hK hM (c_X3_truckAt l G _ t h0 Y N _ tr now price money p0 hL) wm_X6_138 wi_X3_truckAt wl_X3_truckAt wn_X3 wc_X3_truckAt (by decide +kernel) (hM.recv hK (ci := 4) rfl hL.1) ⟨Nat.le_of_ble_eq_true rfl, Nat.le_of_ble_eq_true rfl⟩ ⟨Nat.le_of_ble_eq_true rfl, Nat.le_of_ble_eq_true rfl⟩ rfl (Nat.le_of_ble_eq_true rfl) rfl dX6_fetch_5 (fun r_5 Mz H locs hq hM => ?_)
    have hq1 := (hq.1.trans (atR_s (N := N) (k := 2) x1)).symm
    have hq2 := hq.2.symm
    subst hq1 hq2
    refine lv_astore_n (lv' := [(3, .ref (Y.2.2.2.2.2 2 (ix p0))), (0, .ref xa), (1, .int p0), (2, .int p1)]) hx hb dX6_fetch_8 rfl hl (by decide) rfl (fun ls hl => ?_)
    refine lv_aload_n hx hb dX6_fetch_9 rfl (lv_at hl 0 rfl) ?_
    refine lv_ifnonnull (tgt := 23) hx hb dX6_fetch_10 (by decide) ?_
    refine lv_aload_n hx hb dX6_fetch_23 rfl (lv_at hl 1 rfl) ?_
    refine fg_X6_12 hx hb hts hown hK hM ho dX6_fetch_24 ?_
    refine lv_iload_n hx hb dX6_fetch_27 rfl (lv_at hl 3 rfl) ?_
    rcases x2 : ixR (N 1) p1 with _ | j2
    · refine g_callVq (n9 := 1) (As := [.int p1]) (rest := []) hx hb hml hl.1 hown hts hK hM (c_X3_combineAt l G _ t h0 Y N _ tr now price money p1 hL) wm_X6_125 wi_X3_combineAt wl_X3_combineAt wn_X3 wc_X3_combineAt (by decide +kernel) (hM.recv hK (ci := 4) rfl hL.1) ⟨Nat.le_of_ble_eq_true rfl, Nat.le_of_ble_eq_true rfl⟩ ⟨Nat.le_of_ble_eq_true rfl, Nat.le_of_ble_eq_true rfl⟩ rfl (Nat.le_of_ble_eq_true rfl) rfl dX6_fetch_28 (fun r_28 Mz H locs hq hM => ?_)
      have hq1 := (hq.1.trans (atR_n (N := N) (k := 1) x2)).symm
      have hq2 := hq.2.symm
      subst hq1 hq2
      refine lv_astoreN (lv' := [(4, .null), (3, .ref (Y.2.2.2.2.2 2 (ix p0))), (0, .ref xa), (1, .int p0), (2, .int p1)]) hx hb dX6_fetch_31 hl (by decide) rfl (fun ls hl => ?_)
      refine lv_aloadN hx hb dX6_fetch_33 (lv_at hl 0 rfl) ?_
      refine lv_ifnonnullN hx hb dX6_fetch_35 ?_
      exact g_thrI hx hb hst hts hown hX hM hml hl.1 hlocks ht (Or.inl ⟨(by unfold kc_X6_fetch; rw [if_neg nx1, if_pos x2]), rfl⟩) tx_129 dX6_fetch_38 dX6_fetch_41 dX6_fetch_42 dX6_fetch_44 dX6_fetch_47 ⟨Nat.le_of_ble_eq_true rfl, Nat.le_of_ble_eq_true rfl⟩ (Nat.le_of_ble_eq_true rfl) ⟨Nat.le_of_ble_eq_true rfl, Nat.le_of_ble_eq_true rfl⟩ ⟨Nat.le_of_ble_eq_true rfl, Nat.le_of_ble_eq_true rfl⟩
    · obtain rfl : j2 = (ix p1) := ixR_ix x2
      have lx2 : (ix p1) < N 1 := (ixR_lt (hL.2.2.2.2.2.2.1 1) x2).1
      have nx2 : ¬ ixR (N 1) p1 = none := by rw [x2]; exact fun z => nomatch z
      refine g_callVq (n9 := 1) (As := [.int p1]) (rest := []) hx hb hml hl.1 hown hts hK hM (c_X3_combineAt l G _ t h0 Y N _ tr now price money p1 hL) wm_X6_125 wi_X3_combineAt wl_X3_combineAt wn_X3 wc_X3_combineAt (by decide +kernel) (hM.recv hK (ci := 4) rfl hL.1) ⟨Nat.le_of_ble_eq_true rfl, Nat.le_of_ble_eq_true rfl⟩ ⟨Nat.le_of_ble_eq_true rfl, Nat.le_of_ble_eq_true rfl⟩ rfl (Nat.le_of_ble_eq_true rfl) rfl dX6_fetch_28 (fun r_28 Mz H locs hq hM => ?_)
      have hq1 := (hq.1.trans (atR_s (N := N) (k := 1) x2)).symm
      have hq2 := hq.2.symm
      subst hq1 hq2
      refine lv_astore (lv' := [(4, .ref (Y.2.2.2.2.2 1 (ix p1))), (3, .ref (Y.2.2.2.2.2 2 (ix p0))), (0, .ref xa), (1, .int p0), (2, .int p1)]) hx hb dX6_fetch_31 hl (by decide) rfl (fun ls hl => ?_)
      refine lv_aload hx hb dX6_fetch_33 (lv_at hl 0 rfl) ?_
      refine lv_ifnonnull (tgt := 48) hx hb dX6_fetch_35 (by decide) ?_
      refine lv_aload_n hx hb dX6_fetch_48 rfl (lv_at hl 1 rfl) ?_
      refine lv_iload_n hx hb dX6_fetch_49 rfl (lv_at hl 4 rfl) ?_
      refine fp_X6_144 hx hb hts hown hK hM (hL.row (k := 2) (i := (ix p0)) (by decide) lx1) dX6_fetch_50 (fun H locs hM => ?_)
      obtain ⟨M1, eM1⟩ : ∃ z, z = hu M (Y.2.2.2.2.2 2 (ix p0)) t (eC 2 (upd (T 2 (ix p0)) 7 p1)) := ⟨_, rfl⟩
      replace hM := hM.eq eM1.symm
      have hL1 : LdR G M1 t h0 Y N (tu T 2 (ix p0) (upd (T 2 (ix p0)) 7 p1)) tr now price money := by rw [eM1]; exact hL.setRow (k := 2) (by decide) lx1 (upd (T 2 (ix p0)) 7 p1)
      have hF1 : Fr t M M1 := by rw [eM1]; exact Fr.tr Fr.rf (Fr.up (hL.row (k := 2) (i := (ix p0)) (by decide) lx1))
      have hr1_2 : M1 (Y.2.2.2.2.2 2 (ix p0)) = some (t, eC 2 (upd (T 2 (ix p0)) 7 p1)) := by rw [eM1]; exact hu_s
      have hr1_1 : M1 (Y.2.2.2.2.2 1 (ix p1)) = some (t, eC 1 (T 1 (ix p1))) := by rw [eM1]; exact hu_n (hu_ne (hL.row (k := 1) (i := (ix p1)) (by decide) lx2) (hL.row (k := 2) (i := (ix p0)) (by decide) lx1) (eC_ne (by decide))) (hL.row (k := 1) (i := (ix p1)) (by decide) lx2)
      refine lv_aload_n hx hb dX6_fetch_53 rfl (lv_at hl 1 rfl) ?_
      refine lv_iconst (v := (-1 : Int32)) hx hb dX6_fetch_54 (by decide) ?_
      refine fp_X6_147 hx hb hts hown hK hM hr1_2 dX6_fetch_55 (fun H locs hM => ?_)
      obtain ⟨M2, eM2⟩ : ∃ z, z = hu M1 (Y.2.2.2.2.2 2 (ix p0)) t (eC 2 (upd (upd (T 2 (ix p0)) 7 p1) 8 (-1 : Int32))) := ⟨_, rfl⟩
      replace hM := hM.eq eM2.symm
      have hL2 : LdR G M2 t h0 Y N (tu (tu T 2 (ix p0) (upd (T 2 (ix p0)) 7 p1)) 2 (ix p0) (upd (upd (T 2 (ix p0)) 7 p1) 8 (-1 : Int32))) tr now price money := by rw [eM2]; exact hL1.setRow (k := 2) (by decide) lx1 (upd (upd (T 2 (ix p0)) 7 p1) 8 (-1 : Int32))
      have hF2 : Fr t M M2 := by rw [eM2]; exact Fr.tr hF1 (Fr.up hr1_2)
      have hr2_2 : M2 (Y.2.2.2.2.2 2 (ix p0)) = some (t, eC 2 (upd (upd (T 2 (ix p0)) 7 p1) 8 (-1 : Int32))) := by rw [eM2]; exact hu_s
      have hr2_1 : M2 (Y.2.2.2.2.2 1 (ix p1)) = some (t, eC 1 (T 1 (ix p1))) := by rw [eM2]; exact hu_n (hu_ne hr1_1 hr1_2 (eC_ne (by decide))) hr1_1
      refine lv_aload hx hb dX6_fetch_58 (lv_at hl 0 rfl) ?_
      refine fg_X6_150 hx hb hts hown hK hM hr2_1 dX6_fetch_60 ?_
      refine lv_aload_n hx hb dX6_fetch_63 rfl (lv_at hl 1 rfl) ?_
      refine fg_X6_153 hx hb hts hown hK hM hr2_2 dX6_fetch_64 ?_
      refine lv_isub hx hb dX6_fetch_67 ?_
      refine va_mabs hx hb (hml.trans hl.1.symm) hown (hts _ wm_X6_154) (hts _ wt_mabs) (hts _ wn_java_lang_Math) (hts _ wc_mabs) (Nat.le_of_ble_eq_true rfl) (Nat.le_of_ble_eq_true rfl) (Nat.zero_le _) (Nat.zero_le _) dX6_fetch_68 ?_
      refine vx_ret ?_
      exact g_iret hx hb hr hlocks hM (Nat.le_of_ble_eq_true rfl) (Nat.le_of_ble_eq_true rfl) ⟨(by unfold kc_X6_fetch; rw [if_neg nx1, if_neg nx2]), rfl, ⟨Y, hL2, hF2⟩⟩ dX6_fetch_71
def kc_X6_haul (N : Nat → Nat) (T : Tb) (tr now price money : Int32) (p0 p1 : Int32) : Nat := if ixR (N 2) p0 = none then 1 else (if ixR (N 3) p1 = none then 1 else 0)
def qv_X6_haul (N : Nat → Nat) (T : Tb) (tr now price money : Int32) (p0 p1 : Int32) : Int32 := (ab (((T 3 (ix p1)) 0) - ((upd (upd (T 2 (ix p0)) 7 (-1 : Int32)) 8 p1) 0)))
set_option maxHeartbeats 4000000 in
set_option maxRecDepth 100000 in
theorem c_X6_haul (l : Launch) (hst : l.stackTraces = false) (G : GG) (M : HM) (xa rx h2 h3 : Nat) (t h0 : Nat) (Y : LY) (N : Nat → Nat) (T : Tb) (tr now price money : Int32) (p0 p1 : Int32) (ho : M xa = some (rx, .inr (7, [.ref h0, .ref h2, .ref h3]))) (hrx : rx ≠ t) (hL : LdR G M t h0 Y N T tr now price money) : Xi l yX6_haul (.code yX6_haul cX6_haul 5 (some .int) :: AL) 6 90 1 6 [.ref xa, .int p0, .int p1] G M (fun r M' => kc_X6_haul N T tr now price money p0 p1 = 0 ∧ r = (qv_X6_haul N T tr now price money p0 p1) ∧ ∃ Y', LdR G M' t h0 Y' N (tu (tu T 2 (ix p0) (upd (T 2 (ix p0)) 7 (-1 : Int32))) 2 (ix p0) (upd (upd (T 2 (ix p0)) 7 (-1 : Int32)) 8 p1)) tr now price money ∧ Fr t M M') (EX (kc_X6_haul N T tr now price money p0 p1)) := by
  refine Xi.go (by decide) (Nat.le_of_ble_eq_true rfl) ?_
  intro p e s m below meth c ls hx hb hr hml hown hlocks ht hts hK hX hM hl
  have hown : s.vm.findClass RX6 = some m.cls := hown
  have hl : lv_has ls 5 [(0, .ref xa), (1, .int p0), (2, .int p1)] := hl
  refine lv_aload_n hx hb dX6_haul_0 rfl (lv_at hl 0 rfl) ?_
  refine fg_X6_12 hx hb hts hown hK hM ho dX6_haul_1 ?_
  refine lv_iload_n hx hb dX6_haul_4 rfl (lv_at hl 1 rfl) ?_
  rcases x1 : ixR (N 2) p0 with _ | j1
  · refine g_callVq (n9 := 1) (As := [.int p0]) (rest := []) hx hb hml hl.1 hown hts hK hM (c_X3_truckAt l G _ t h0 Y N _ tr now price money p0 hL) wm_X6_138 wi_X3_truckAt wl_X3_truckAt wn_X3 wc_X3_truckAt (by decide +kernel) (hM.recv hK (ci := 4) rfl hL.1) ⟨Nat.le_of_ble_eq_true rfl, Nat.le_of_ble_eq_true rfl⟩ ⟨Nat.le_of_ble_eq_true rfl, Nat.le_of_ble_eq_true rfl⟩ rfl (Nat.le_of_ble_eq_true rfl) rfl dX6_haul_5 (fun r_5 Mz H locs hq hM => ?_)
    have hq1 := (hq.1.trans (atR_n (N := N) (k := 2) x1)).symm
    have hq2 := hq.2.symm
    subst hq1 hq2
    refine lv_astore_nN (lv' := [(3, .null), (0, .ref xa), (1, .int p0), (2, .int p1)]) hx hb dX6_haul_8 rfl hl (by decide) rfl (fun ls hl => ?_)
    refine lv_aload_nN hx hb dX6_haul_9 rfl (lv_at hl 0 rfl) ?_
    refine lv_ifnonnullN hx hb dX6_haul_10 ?_
    exact g_thrI hx hb hst hts hown hX hM hml hl.1 hlocks ht (Or.inl ⟨(by unfold kc_X6_haul; rw [if_pos x1]), rfl⟩) tx_142 dX6_haul_13 dX6_haul_16 dX6_haul_17 dX6_haul_19 dX6_haul_22 ⟨Nat.le_of_ble_eq_true rfl, Nat.le_of_ble_eq_true rfl⟩ (Nat.le_of_ble_eq_true rfl) ⟨Nat.le_of_ble_eq_true rfl, Nat.le_of_ble_eq_true rfl⟩ ⟨Nat.le_of_ble_eq_true rfl, Nat.le_of_ble_eq_true rfl⟩
  · obtain rfl : j1 = (ix p0) := ixR_ix x1
    have lx1 : (ix p0) < N 2 := (ixR_lt (hL.2.2.2.2.2.2.1 2) x1).1
    have nx1 : ¬ ixR (N 2) p0 = none := by rw [x1]; exact fun z => nomatch z
    refine g_callVq (n9 := 1) (As := [.int p0]) (rest := []) hx hb hml hl.1 hown hts hK hM (c_X3_truckAt l G _ t h0 Y N _ tr now price money p0 hL) wm_X6_138 wi_X3_truckAt wl_X3_truckAt wn_X3 wc_X3_truckAt (by decide +kernel) (hM.recv hK (ci := 4) rfl hL.1) ⟨Nat.le_of_ble_eq_true rfl, Nat.le_of_ble_eq_true rfl⟩ ⟨Nat.le_of_ble_eq_true rfl, Nat.le_of_ble_eq_true rfl⟩ rfl (Nat.le_of_ble_eq_true rfl) rfl dX6_haul_5 (fun r_5 Mz H locs hq hM => ?_)
    have hq1 := (hq.1.trans (atR_s (N := N) (k := 2) x1)).symm
    have hq2 := hq.2.symm
    subst hq1 hq2
    refine lv_astore_n (lv' := [(3, .ref (Y.2.2.2.2.2 2 (ix p0))), (0, .ref xa), (1, .int p0), (2, .int p1)]) hx hb dX6_haul_8 rfl hl (by decide) rfl (fun ls hl => ?_)
    refine lv_aload_n hx hb dX6_haul_9 rfl (lv_at hl 0 rfl) ?_
    refine lv_ifnonnull (tgt := 23) hx hb dX6_haul_10 (by decide) ?_
    refine lv_aload_n hx hb dX6_haul_23 rfl (lv_at hl 1 rfl) ?_
    refine fg_X6_12 hx hb hts hown hK hM ho dX6_haul_24 ?_
    refine lv_iload_n hx hb dX6_haul_27 rfl (lv_at hl 3 rfl) ?_
    rcases x2 : ixR (N 3) p1 with _ | j2
    · refine g_callVq (n9 := 1) (As := [.int p1]) (rest := []) hx hb hml hl.1 hown hts hK hM (c_X3_elevatorAt l G _ t h0 Y N _ tr now price money p1 hL) wm_X6_159 wi_X3_elevatorAt wl_X3_elevatorAt wn_X3 wc_X3_elevatorAt (by decide +kernel) (hM.recv hK (ci := 4) rfl hL.1) ⟨Nat.le_of_ble_eq_true rfl, Nat.le_of_ble_eq_true rfl⟩ ⟨Nat.le_of_ble_eq_true rfl, Nat.le_of_ble_eq_true rfl⟩ rfl (Nat.le_of_ble_eq_true rfl) rfl dX6_haul_28 (fun r_28 Mz H locs hq hM => ?_)
      have hq1 := (hq.1.trans (atR_n (N := N) (k := 3) x2)).symm
      have hq2 := hq.2.symm
      subst hq1 hq2
      refine lv_astoreN (lv' := [(4, .null), (3, .ref (Y.2.2.2.2.2 2 (ix p0))), (0, .ref xa), (1, .int p0), (2, .int p1)]) hx hb dX6_haul_31 hl (by decide) rfl (fun ls hl => ?_)
      refine lv_aloadN hx hb dX6_haul_33 (lv_at hl 0 rfl) ?_
      refine lv_ifnonnullN hx hb dX6_haul_35 ?_
      exact g_thrI hx hb hst hts hown hX hM hml hl.1 hlocks ht (Or.inl ⟨(by unfold kc_X6_haul; rw [if_neg nx1, if_pos x2]), rfl⟩) tx_163 dX6_haul_38 dX6_haul_41 dX6_haul_42 dX6_haul_44 dX6_haul_47 ⟨Nat.le_of_ble_eq_true rfl, Nat.le_of_ble_eq_true rfl⟩ (Nat.le_of_ble_eq_true rfl) ⟨Nat.le_of_ble_eq_true rfl, Nat.le_of_ble_eq_true rfl⟩ ⟨Nat.le_of_ble_eq_true rfl, Nat.le_of_ble_eq_true rfl⟩
    · obtain rfl : j2 = (ix p1) := ixR_ix x2
      have lx2 : (ix p1) < N 3 := (ixR_lt (hL.2.2.2.2.2.2.1 3) x2).1
      have nx2 : ¬ ixR (N 3) p1 = none := by rw [x2]; exact fun z => nomatch z
      refine g_callVq (n9 := 1) (As := [.int p1]) (rest := []) hx hb hml hl.1 hown hts hK hM (c_X3_elevatorAt l G _ t h0 Y N _ tr now price money p1 hL) wm_X6_159 wi_X3_elevatorAt wl_X3_elevatorAt wn_X3 wc_X3_elevatorAt (by decide +kernel) (hM.recv hK (ci := 4) rfl hL.1) ⟨Nat.le_of_ble_eq_true rfl, Nat.le_of_ble_eq_true rfl⟩ ⟨Nat.le_of_ble_eq_true rfl, Nat.le_of_ble_eq_true rfl⟩ rfl (Nat.le_of_ble_eq_true rfl) rfl dX6_haul_28 (fun r_28 Mz H locs hq hM => ?_)
      have hq1 := (hq.1.trans (atR_s (N := N) (k := 3) x2)).symm
      have hq2 := hq.2.symm
      subst hq1 hq2
      refine lv_astore (lv' := [(4, .ref (Y.2.2.2.2.2 3 (ix p1))), (3, .ref (Y.2.2.2.2.2 2 (ix p0))), (0, .ref xa), (1, .int p0), (2, .int p1)]) hx hb dX6_haul_31 hl (by decide) rfl (fun ls hl => ?_)
      refine lv_aload hx hb dX6_haul_33 (lv_at hl 0 rfl) ?_
      refine lv_ifnonnull (tgt := 48) hx hb dX6_haul_35 (by decide) ?_
      refine lv_aload_n hx hb dX6_haul_48 rfl (lv_at hl 1 rfl) ?_
      refine lv_iconst (v := (-1 : Int32)) hx hb dX6_haul_49 (by decide) ?_
      refine fp_X6_144 hx hb hts hown hK hM (hL.row (k := 2) (i := (ix p0)) (by decide) lx1) dX6_haul_50 (fun H locs hM => ?_)
      obtain ⟨M1, eM1⟩ : ∃ z, z = hu M (Y.2.2.2.2.2 2 (ix p0)) t (eC 2 (upd (T 2 (ix p0)) 7 (-1 : Int32))) := ⟨_, rfl⟩
      replace hM := hM.eq eM1.symm
      have hL1 : LdR G M1 t h0 Y N (tu T 2 (ix p0) (upd (T 2 (ix p0)) 7 (-1 : Int32))) tr now price money := by rw [eM1]; exact hL.setRow (k := 2) (by decide) lx1 (upd (T 2 (ix p0)) 7 (-1 : Int32))
      have hF1 : Fr t M M1 := by rw [eM1]; exact Fr.tr Fr.rf (Fr.up (hL.row (k := 2) (i := (ix p0)) (by decide) lx1))
      have hr1_2 : M1 (Y.2.2.2.2.2 2 (ix p0)) = some (t, eC 2 (upd (T 2 (ix p0)) 7 (-1 : Int32))) := by rw [eM1]; exact hu_s
      have hr1_3 : M1 (Y.2.2.2.2.2 3 (ix p1)) = some (t, eC 3 (T 3 (ix p1))) := by rw [eM1]; exact hu_n (hu_ne (hL.row (k := 3) (i := (ix p1)) (by decide) lx2) (hL.row (k := 2) (i := (ix p0)) (by decide) lx1) (eC_ne (by decide))) (hL.row (k := 3) (i := (ix p1)) (by decide) lx2)
      refine lv_aload_n hx hb dX6_haul_53 rfl (lv_at hl 1 rfl) ?_
      refine lv_iload_n hx hb dX6_haul_54 rfl (lv_at hl 4 rfl) ?_
      refine fp_X6_147 hx hb hts hown hK hM hr1_2 dX6_haul_55 (fun H locs hM => ?_)
      obtain ⟨M2, eM2⟩ : ∃ z, z = hu M1 (Y.2.2.2.2.2 2 (ix p0)) t (eC 2 (upd (upd (T 2 (ix p0)) 7 (-1 : Int32)) 8 p1)) := ⟨_, rfl⟩
      replace hM := hM.eq eM2.symm
      have hL2 : LdR G M2 t h0 Y N (tu (tu T 2 (ix p0) (upd (T 2 (ix p0)) 7 (-1 : Int32))) 2 (ix p0) (upd (upd (T 2 (ix p0)) 7 (-1 : Int32)) 8 p1)) tr now price money := by rw [eM2]; exact hL1.setRow (k := 2) (by decide) lx1 (upd (upd (T 2 (ix p0)) 7 (-1 : Int32)) 8 p1)
      have hF2 : Fr t M M2 := by rw [eM2]; exact Fr.tr hF1 (Fr.up hr1_2)
      have hr2_2 : M2 (Y.2.2.2.2.2 2 (ix p0)) = some (t, eC 2 (upd (upd (T 2 (ix p0)) 7 (-1 : Int32)) 8 p1)) := by rw [eM2]; exact hu_s
      have hr2_3 : M2 (Y.2.2.2.2.2 3 (ix p1)) = some (t, eC 3 (T 3 (ix p1))) := by rw [eM2]; exact hu_n (hu_ne hr1_3 hr1_2 (eC_ne (by decide))) hr1_3
      refine lv_aload hx hb dX6_haul_58 (lv_at hl 0 rfl) ?_
      refine fg_X6_165 hx hb hts hown hK hM hr2_3 dX6_haul_60 ?_
      refine lv_aload_n hx hb dX6_haul_63 rfl (lv_at hl 1 rfl) ?_
      refine fg_X6_153 hx hb hts hown hK hM hr2_2 dX6_haul_64 ?_
      refine lv_isub hx hb dX6_haul_67 ?_
      refine va_mabs hx hb (hml.trans hl.1.symm) hown (hts _ wm_X6_154) (hts _ wt_mabs) (hts _ wn_java_lang_Math) (hts _ wc_mabs) (Nat.le_of_ble_eq_true rfl) (Nat.le_of_ble_eq_true rfl) (Nat.zero_le _) (Nat.zero_le _) dX6_haul_68 ?_
      refine vx_ret ?_
      exact g_iret hx hb hr hlocks hM (Nat.le_of_ble_eq_true rfl) (Nat.le_of_ble_eq_true rfl) ⟨(by unfold kc_X6_haul; rw [if_neg nx1, if_neg nx2]), rfl, ⟨Y, hL2, hF2⟩⟩ dX6_haul_71
def kc_X6_cut (N : Nat → Nat) (T : Tb) (tr now price money : Int32) (p0 p1 : Int32) : Nat := if ixR (N 1) p0 = none then 1 else (if p1 = (-1 : Int32) then 0 else (if ixR (N 0) p1 = none then 1 else 0))
def qv_X6_cut (N : Nat → Nat) (T : Tb) (tr now price money : Int32) (p0 p1 : Int32) : Int32 := if p1 = (-1 : Int32) then (0 : Int32) else (sa 0 (fun j => if (tu T 1 (ix p0) (upd (T 1 (ix p0)) 9 p1)) 1 j 9 = p1 then 1 else 0) (N 1))
set_option maxHeartbeats 4000000 in
set_option maxRecDepth 100000 in
theorem c_X6_cut (l : Launch) (hst : l.stackTraces = false) (G : GG) (M : HM) (xa rx h2 h3 : Nat) (t h0 : Nat) (Y : LY) (N : Nat → Nat) (T : Tb) (tr now price money : Int32) (p0 p1 : Int32) (ho : M xa = some (rx, .inr (7, [.ref h0, .ref h2, .ref h3]))) (hrx : rx ≠ t) (hL : LdR G M t h0 Y N T tr now price money) : Xi l yX6_cut (.code yX6_cut cX6_cut 4 (some .int) :: AL) 6 90 1 6 [.ref xa, .int p0, .int p1] G M (fun r M' => kc_X6_cut N T tr now price money p0 p1 = 0 ∧ r = (qv_X6_cut N T tr now price money p0 p1) ∧ ∃ Y', LdR G M' t h0 Y' N (tu T 1 (ix p0) (upd (T 1 (ix p0)) 9 p1)) tr now price money ∧ Fr t M M') (EX (kc_X6_cut N T tr now price money p0 p1)) := by
  refine Xi.go (by decide) (Nat.le_of_ble_eq_true rfl) ?_
  intro p e s m below meth c ls hx hb hr hml hown hlocks ht hts hK hX hM hl
  have hown : s.vm.findClass RX6 = some m.cls := hown
  have hl : lv_has ls 4 [(0, .ref xa), (1, .int p0), (2, .int p1)] := hl
  refine lv_aload_n hx hb dX6_cut_0 rfl (lv_at hl 0 rfl) ?_
  refine fg_X6_12 hx hb hts hown hK hM ho dX6_cut_1 ?_
  refine lv_iload_n hx hb dX6_cut_4 rfl (lv_at hl 1 rfl) ?_
  rcases x1 : ixR (N 1) p0 with _ | j1
  · refine g_callVq (n9 := 1) (As := [.int p0]) (rest := []) hx hb hml hl.1 hown hts hK hM (c_X3_combineAt l G _ t h0 Y N _ tr now price money p0 hL) wm_X6_125 wi_X3_combineAt wl_X3_combineAt wn_X3 wc_X3_combineAt (by decide +kernel) (hM.recv hK (ci := 4) rfl hL.1) ⟨Nat.le_of_ble_eq_true rfl, Nat.le_of_ble_eq_true rfl⟩ ⟨Nat.le_of_ble_eq_true rfl, Nat.le_of_ble_eq_true rfl⟩ rfl (Nat.le_of_ble_eq_true rfl) rfl dX6_cut_5 (fun r_5 Mz H locs hq hM => ?_)
    have hq1 := (hq.1.trans (atR_n (N := N) (k := 1) x1)).symm
    have hq2 := hq.2.symm
    subst hq1 hq2
    refine lv_astore_nN (lv' := [(3, .null), (0, .ref xa), (1, .int p0), (2, .int p1)]) hx hb dX6_cut_8 rfl hl (by decide) rfl (fun ls hl => ?_)
    refine lv_aload_nN hx hb dX6_cut_9 rfl (lv_at hl 0 rfl) ?_
    refine lv_ifnonnullN hx hb dX6_cut_10 ?_
    exact g_thrI hx hb hst hts hown hX hM hml hl.1 hlocks ht (Or.inl ⟨(by unfold kc_X6_cut; rw [if_pos x1]), rfl⟩) tx_129 dX6_cut_13 dX6_cut_16 dX6_cut_17 dX6_cut_19 dX6_cut_22 ⟨Nat.le_of_ble_eq_true rfl, Nat.le_of_ble_eq_true rfl⟩ (Nat.le_of_ble_eq_true rfl) ⟨Nat.le_of_ble_eq_true rfl, Nat.le_of_ble_eq_true rfl⟩ ⟨Nat.le_of_ble_eq_true rfl, Nat.le_of_ble_eq_true rfl⟩
  · obtain rfl : j1 = (ix p0) := ixR_ix x1
    have lx1 : (ix p0) < N 1 := (ixR_lt (hL.2.2.2.2.2.2.1 1) x1).1
    have nx1 : ¬ ixR (N 1) p0 = none := by rw [x1]; exact fun z => nomatch z
    refine g_callVq (n9 := 1) (As := [.int p0]) (rest := []) hx hb hml hl.1 hown hts hK hM (c_X3_combineAt l G _ t h0 Y N _ tr now price money p0 hL) wm_X6_125 wi_X3_combineAt wl_X3_combineAt wn_X3 wc_X3_combineAt (by decide +kernel) (hM.recv hK (ci := 4) rfl hL.1) ⟨Nat.le_of_ble_eq_true rfl, Nat.le_of_ble_eq_true rfl⟩ ⟨Nat.le_of_ble_eq_true rfl, Nat.le_of_ble_eq_true rfl⟩ rfl (Nat.le_of_ble_eq_true rfl) rfl dX6_cut_5 (fun r_5 Mz H locs hq hM => ?_)
    have hq1 := (hq.1.trans (atR_s (N := N) (k := 1) x1)).symm
    have hq2 := hq.2.symm
    subst hq1 hq2
    refine lv_astore_n (lv' := [(3, .ref (Y.2.2.2.2.2 1 (ix p0))), (0, .ref xa), (1, .int p0), (2, .int p1)]) hx hb dX6_cut_8 rfl hl (by decide) rfl (fun ls hl => ?_)
    refine lv_aload_n hx hb dX6_cut_9 rfl (lv_at hl 0 rfl) ?_
    refine lv_ifnonnull (tgt := 23) hx hb dX6_cut_10 (by decide) ?_
    refine lv_iload_n hx hb dX6_cut_23 rfl (lv_at hl 3 rfl) ?_
    refine lv_iconst (v := (-1 : Int32)) hx hb dX6_cut_24 (by decide) ?_
    refine lv_icmp_eq (tgt := 49) hx hb dX6_cut_25 (by decide) (fun c2 => ?_) (fun c2 => ?_)
    · refine lv_aload_n hx hb dX6_cut_49 rfl (lv_at hl 0 rfl) ?_
      refine lv_iload_n hx hb dX6_cut_50 rfl (lv_at hl 3 rfl) ?_
      refine fp_X6_131 hx hb hts hown hK hM (hL.row (k := 1) (i := (ix p0)) (by decide) lx1) dX6_cut_51 (fun H locs hM => ?_)
      obtain ⟨M1, eM1⟩ : ∃ z, z = hu M (Y.2.2.2.2.2 1 (ix p0)) t (eC 1 (upd (T 1 (ix p0)) 9 p1)) := ⟨_, rfl⟩
      replace hM := hM.eq eM1.symm
      have hL1 : LdR G M1 t h0 Y N (tu T 1 (ix p0) (upd (T 1 (ix p0)) 9 p1)) tr now price money := by rw [eM1]; exact hL.setRow (k := 1) (by decide) lx1 (upd (T 1 (ix p0)) 9 p1)
      have hF1 : Fr t M M1 := by rw [eM1]; exact Fr.tr Fr.rf (Fr.up (hL.row (k := 1) (i := (ix p0)) (by decide) lx1))
      have hr1_1 : M1 (Y.2.2.2.2.2 1 (ix p0)) = some (t, eC 1 (upd (T 1 (ix p0)) 9 p1)) := by rw [eM1]; exact hu_s
      refine lv_iload_n hx hb dX6_cut_54 rfl (lv_at hl 3 rfl) ?_
      refine lv_iconst (v := (-1 : Int32)) hx hb dX6_cut_55 (by decide) ?_
      refine lv_icmp_ne (tgt := 63) hx hb dX6_cut_56 (by decide) (fun c3 => ?_) (fun c3 => ?_)
      · exact absurd c2 c3
      · refine lv_iconst (v := (0 : Int32)) hx hb dX6_cut_59 (by decide) ?_
        refine lv_goto (tgt := 71) hx hb dX6_cut_60 (by decide) ?_
        refine vx_ret ?_
        exact g_iret hx hb hr hlocks hM (Nat.le_of_ble_eq_true rfl) (Nat.le_of_ble_eq_true rfl) ⟨(by unfold kc_X6_cut; rw [if_neg nx1, if_pos c2]), (by unfold qv_X6_cut; rw [if_pos c2]), ⟨Y, hL1, hF1⟩⟩ dX6_cut_71
    · refine lv_aload_n hx hb dX6_cut_28 rfl (lv_at hl 1 rfl) ?_
      refine fg_X6_12 hx hb hts hown hK hM ho dX6_cut_29 ?_
      refine lv_iload_n hx hb dX6_cut_32 rfl (lv_at hl 3 rfl) ?_
      rcases x4 : ixR (N 0) p1 with _ | j4
      · refine g_callVq (n9 := 1) (As := [.int p1]) (rest := []) hx hb hml hl.1 hown hts hK hM (c_X3_fieldAt l G _ t h0 Y N _ tr now price money p1 hL) wm_X6_65 wi_X3_fieldAt wl_X3_fieldAt wn_X3 wc_X3_fieldAt (by decide +kernel) (hM.recv hK (ci := 4) rfl hL.1) ⟨Nat.le_of_ble_eq_true rfl, Nat.le_of_ble_eq_true rfl⟩ ⟨Nat.le_of_ble_eq_true rfl, Nat.le_of_ble_eq_true rfl⟩ rfl (Nat.le_of_ble_eq_true rfl) rfl dX6_cut_33 (fun r_33 Mz H locs hq hM => ?_)
        have hq1 := (hq.1.trans (atR_n (N := N) (k := 0) x4)).symm
        have hq2 := hq.2.symm
        subst hq1 hq2
        refine lv_ifnonnullN hx hb dX6_cut_36 ?_
        exact g_thrI hx hb hst hts hown hX hM hml hl.1 hlocks ht (Or.inl ⟨(by unfold kc_X6_cut; rw [if_neg nx1, if_neg c2, if_pos x4]), rfl⟩) tx_69 dX6_cut_39 dX6_cut_42 dX6_cut_43 dX6_cut_45 dX6_cut_48 ⟨Nat.le_of_ble_eq_true rfl, Nat.le_of_ble_eq_true rfl⟩ (Nat.le_of_ble_eq_true rfl) ⟨Nat.le_of_ble_eq_true rfl, Nat.le_of_ble_eq_true rfl⟩ ⟨Nat.le_of_ble_eq_true rfl, Nat.le_of_ble_eq_true rfl⟩
      · obtain rfl : j4 = (ix p1) := ixR_ix x4
        have lx4 : (ix p1) < N 0 := (ixR_lt (hL.2.2.2.2.2.2.1 0) x4).1
        have nx4 : ¬ ixR (N 0) p1 = none := by rw [x4]; exact fun z => nomatch z
        refine g_callVq (n9 := 1) (As := [.int p1]) (rest := []) hx hb hml hl.1 hown hts hK hM (c_X3_fieldAt l G _ t h0 Y N _ tr now price money p1 hL) wm_X6_65 wi_X3_fieldAt wl_X3_fieldAt wn_X3 wc_X3_fieldAt (by decide +kernel) (hM.recv hK (ci := 4) rfl hL.1) ⟨Nat.le_of_ble_eq_true rfl, Nat.le_of_ble_eq_true rfl⟩ ⟨Nat.le_of_ble_eq_true rfl, Nat.le_of_ble_eq_true rfl⟩ rfl (Nat.le_of_ble_eq_true rfl) rfl dX6_cut_33 (fun r_33 Mz H locs hq hM => ?_)
        have hq1 := (hq.1.trans (atR_s (N := N) (k := 0) x4)).symm
        have hq2 := hq.2.symm
        subst hq1 hq2
        refine lv_ifnonnull (tgt := 49) hx hb dX6_cut_36 (by decide) ?_
        refine lv_aload_n hx hb dX6_cut_49 rfl (lv_at hl 0 rfl) ?_
        refine lv_iload_n hx hb dX6_cut_50 rfl (lv_at hl 3 rfl) ?_
        refine fp_X6_131 hx hb hts hown hK hM (hL.row (k := 1) (i := (ix p0)) (by decide) lx1) dX6_cut_51 (fun H locs hM => ?_)
        obtain ⟨M1, eM1⟩ : ∃ z, z = hu M (Y.2.2.2.2.2 1 (ix p0)) t (eC 1 (upd (T 1 (ix p0)) 9 p1)) := ⟨_, rfl⟩
        replace hM := hM.eq eM1.symm
        have hL1 : LdR G M1 t h0 Y N (tu T 1 (ix p0) (upd (T 1 (ix p0)) 9 p1)) tr now price money := by rw [eM1]; exact hL.setRow (k := 1) (by decide) lx1 (upd (T 1 (ix p0)) 9 p1)
        have hF1 : Fr t M M1 := by rw [eM1]; exact Fr.tr Fr.rf (Fr.up (hL.row (k := 1) (i := (ix p0)) (by decide) lx1))
        have hr1_1 : M1 (Y.2.2.2.2.2 1 (ix p0)) = some (t, eC 1 (upd (T 1 (ix p0)) 9 p1)) := by rw [eM1]; exact hu_s
        have hr1_0 : M1 (Y.2.2.2.2.2 0 (ix p1)) = some (t, eC 0 (T 0 (ix p1))) := by rw [eM1]; exact hu_n (hu_ne (hL.row (k := 0) (i := (ix p1)) (by decide) lx4) (hL.row (k := 1) (i := (ix p0)) (by decide) lx1) (eC_ne (by decide))) (hL.row (k := 0) (i := (ix p1)) (by decide) lx4)
        refine lv_iload_n hx hb dX6_cut_54 rfl (lv_at hl 3 rfl) ?_
        refine lv_iconst (v := (-1 : Int32)) hx hb dX6_cut_55 (by decide) ?_
        refine lv_icmp_ne (tgt := 63) hx hb dX6_cut_56 (by decide) (fun c5 => ?_) (fun c5 => ?_)
        · refine lv_aload_n hx hb dX6_cut_63 rfl (lv_at hl 1 rfl) ?_
          refine fg_X6_12 hx hb hts hown hK hM (hF1 _ _ _ hrx ho) dX6_cut_64 ?_
          refine lv_iload_n hx hb dX6_cut_67 rfl (lv_at hl 3 rfl) ?_
          refine g_callVi (n9 := 1) (As := [.int p1]) (rest := []) hx hb hml hl.1 hown hts hK hM (c_X3_combinesSentTo l G _ t h0 Y N _ tr now price money p1 hL1) wm_X6_134 wi_X3_combinesSentTo wl_X3_combinesSentTo wn_X3 wc_X3_combinesSentTo (by decide +kernel) (hM.recv hK (ci := 4) rfl hL1.1) ⟨Nat.le_of_ble_eq_true rfl, Nat.le_of_ble_eq_true rfl⟩ ⟨Nat.le_of_ble_eq_true rfl, Nat.le_of_ble_eq_true rfl⟩ rfl (Nat.le_of_ble_eq_true rfl) rfl dX6_cut_68 (fun r_68 Mz H locs hq hM => ?_)
          have hq1 := hq.1.symm
          have hq2 := hq.2.symm
          subst hq1 hq2
          refine vx_ret ?_
          exact g_iret hx hb hr hlocks hM (Nat.le_of_ble_eq_true rfl) (Nat.le_of_ble_eq_true rfl) ⟨(by unfold kc_X6_cut; rw [if_neg nx1, if_neg c2, if_neg nx4]), (by unfold qv_X6_cut; rw [if_neg c2]), ⟨Y, hL1, hF1⟩⟩ dX6_cut_71
        · exact absurd c5 c2
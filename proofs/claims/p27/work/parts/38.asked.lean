/-- what a call makes: nothing, or the exception -/
def xc : Nat → Nat
  | 0 => 0
  | _ + 1 => 1
theorem tab_out {x : Int32} (hi : Nat) (h : ∀ k : Nat, k ≤ hi → ¬ x = nI k) : x.toInt < 0 ∨ (hi : Int) < x.toInt := by
  by_cases z : x < 0
  · exact Or.inl (Int32.lt_iff_toInt_lt.mp z)
  · obtain ⟨j, h1, h2⟩ := nI_of z
    rw [h2, nI_toInt h1]
    rcases Nat.lt_or_ge hi j with g | g
    · exact Or.inr (by omega)
    · exact absurd h2 (h j g)
def kc_X6_ofField (N : Nat → Nat) (T : Tb) (tr now price money : Int32) (p0 p1 : Int32) : Nat := if ixR (N 0) p0 = none then 1 else (if (t_X6_isOutside_0 p1 (0 : Int32) (11 : Int32)) = 0 then 0 else 2)
def qv_X6_ofField (N : Nat → Nat) (T : Tb) (tr now price money : Int32) (p0 p1 : Int32) : Int32 := if p1 = (0 : Int32) then ((T 0 (ix p0)) 0) else (if p1 = (1 : Int32) then ((T 0 (ix p0)) 1) else (if p1 = (2 : Int32) then ((T 0 (ix p0)) 2) else (if p1 = (3 : Int32) then ((T 0 (ix p0)) 5) else (if p1 = (4 : Int32) then ((T 0 (ix p0)) 6) else (if p1 = (5 : Int32) then ((T 0 (ix p0)) 7) else (if p1 = (6 : Int32) then ((T 0 (ix p0)) 8) else (if p1 = (7 : Int32) then ((T 0 (ix p0)) 9) else (if p1 = (8 : Int32) then ((T 0 (ix p0)) 10) else (if p1 = (9 : Int32) then (sa (sa 0 (fun j => if T 1 j 4 = p0 then T 1 j 3 else 0) (N 1)) (fun j => if T 2 j 3 = p0 then T 2 j 2 else 0) (N 2)) else (if p1 = (10 : Int32) then (t_X2_correction_0 ((T 0 (ix p0)) 9) ((T 0 (ix p0)) 10) (sa (sa 0 (fun j => if T 1 j 4 = p0 then T 1 j 3 else 0) (N 1)) (fun j => if T 2 j 3 = p0 then T 2 j 2 else 0) (N 2))) else (sa 0 (fun j => if T 1 j 9 = p0 then 1 else 0) (N 1))))))))))))
set_option maxHeartbeats 4000000 in
set_option maxRecDepth 100000 in
theorem c_X6_ofField (l : Launch) (hst : l.stackTraces = false) (G : GG) (M : HM) (xa rx h2 h3 : Nat) (t h0 : Nat) (Y : LY) (N : Nat → Nat) (T : Tb) (tr now price money : Int32) (p0 p1 : Int32) (ho : M xa = some (rx, .inr (7, [.ref h0, .ref h2, .ref h3]))) (hrx : rx ≠ t) (hL : LdR G M t h0 Y N T tr now price money) : Xi l yX6_ofField (.code yX6_ofField cX6_ofField 4 (some .int) :: AL) 6 90 (xc (kc_X6_ofField N T tr now price money p0 p1)) (6 * xc (kc_X6_ofField N T tr now price money p0 p1)) [.ref xa, .int p0, .int p1] G M (fun r M' => kc_X6_ofField N T tr now price money p0 p1 = 0 ∧ r = (qv_X6_ofField N T tr now price money p0 p1) ∧ M' = M) (EX (kc_X6_ofField N T tr now price money p0 p1)) := by
  refine Xi.go (by decide) (Nat.le_of_ble_eq_true rfl) ?_
  intro p e s m below meth c ls hx hb hr hml hown hlocks ht hts hK hX hM hl
  have hown : s.vm.findClass RX6 = some m.cls := hown
  have hl : lv_has ls 4 [(0, .ref xa), (1, .int p0), (2, .int p1)] := hl
  have hN8 := hL.2.2.2.2.2.2.1
  have hn0 := hN8 0
  have hn1 := hN8 1
  have hn2 := hN8 2
  have hn3 := hN8 3
  have hn4 := hN8 4
  refine lv_aload_n hx hb dX6_ofField_0 rfl (lv_at hl 0 rfl) ?_
  refine fg_X6_12 hx hb hts hown hK hM ho dX6_ofField_1 ?_
  refine lv_iload_n hx hb dX6_ofField_4 rfl (lv_at hl 1 rfl) ?_
  rcases x1 : ixR (N 0) p0 with _ | j1
  · refine g_callVq (n9 := 1) (As := [.int p0]) (rest := []) hx hb hml hl.1 hown hts hK hM (c_X3_fieldAt l G _ t h0 Y N _ tr now price money p0 hL) wm_X6_65 wi_X3_fieldAt wl_X3_fieldAt wn_X3 wc_X3_fieldAt (by decide +kernel) (hM.recv hK (ci := 4) rfl hL.1) ⟨Nat.le_of_ble_eq_true rfl, Nat.le_of_ble_eq_true rfl⟩ ⟨Nat.zero_le _, Nat.zero_le _⟩ rfl (Nat.le_of_ble_eq_true rfl) rfl dX6_ofField_5 (fun r_5 Mz H locs hq hM => ?_)
    have hq1 := (hq.1.trans (atR_n (N := N) (k := 0) x1)).symm
    have hq2 := hq.2.symm
    subst hq1 hq2
    refine lv_astore_nN (lv' := [(3, .null), (0, .ref xa), (1, .int p0), (2, .int p1)]) hx hb dX6_ofField_8 rfl hl (by decide) rfl (fun ls hl => ?_)
    refine lv_aload_nN hx hb dX6_ofField_9 rfl (lv_at hl 0 rfl) ?_
    refine lv_ifnonnullN hx hb dX6_ofField_10 ?_
    exact g_thrI hx hb hst hts hown hX hM hml hl.1 hlocks ht (Or.inl ⟨(by unfold kc_X6_ofField; rw [if_pos x1]), rfl⟩) tx_69 dX6_ofField_13 dX6_ofField_16 dX6_ofField_17 dX6_ofField_19 dX6_ofField_22 ⟨Nat.le_of_ble_eq_true rfl, Nat.le_of_ble_eq_true rfl⟩ (Nat.le_of_ble_eq_true rfl) ⟨by show _ ≤ xc (kc_X6_ofField N T tr now price money p0 p1); rw [show kc_X6_ofField N T tr now price money p0 p1 = 1 from (by unfold kc_X6_ofField; rw [if_pos x1])]; decide, by show _ ≤ 6 * xc (kc_X6_ofField N T tr now price money p0 p1); rw [show kc_X6_ofField N T tr now price money p0 p1 = 1 from (by unfold kc_X6_ofField; rw [if_pos x1])]; decide⟩ ⟨by show _ ≤ xc (kc_X6_ofField N T tr now price money p0 p1); rw [show kc_X6_ofField N T tr now price money p0 p1 = 1 from (by unfold kc_X6_ofField; rw [if_pos x1])]; decide, by show _ ≤ 6 * xc (kc_X6_ofField N T tr now price money p0 p1); rw [show kc_X6_ofField N T tr now price money p0 p1 = 1 from (by unfold kc_X6_ofField; rw [if_pos x1])]; decide⟩
  · obtain rfl : j1 = (ix p0) := ixR_ix x1
    have lx1 : (ix p0) < N 0 := (ixR_lt (hL.2.2.2.2.2.2.1 0) x1).1
    have nx1 : ¬ ixR (N 0) p0 = none := by rw [x1]; exact fun z => nomatch z
    refine g_callVq (n9 := 1) (As := [.int p0]) (rest := []) hx hb hml hl.1 hown hts hK hM (c_X3_fieldAt l G _ t h0 Y N _ tr now price money p0 hL) wm_X6_65 wi_X3_fieldAt wl_X3_fieldAt wn_X3 wc_X3_fieldAt (by decide +kernel) (hM.recv hK (ci := 4) rfl hL.1) ⟨Nat.le_of_ble_eq_true rfl, Nat.le_of_ble_eq_true rfl⟩ ⟨Nat.zero_le _, Nat.zero_le _⟩ rfl (Nat.le_of_ble_eq_true rfl) rfl dX6_ofField_5 (fun r_5 Mz H locs hq hM => ?_)
    have hq1 := (hq.1.trans (atR_s (N := N) (k := 0) x1)).symm
    have hq2 := hq.2.symm
    subst hq1 hq2
    refine lv_astore_n (lv' := [(3, .ref (Y.2.2.2.2.2 0 (ix p0))), (0, .ref xa), (1, .int p0), (2, .int p1)]) hx hb dX6_ofField_8 rfl hl (by decide) rfl (fun ls hl => ?_)
    refine lv_aload_n hx hb dX6_ofField_9 rfl (lv_at hl 0 rfl) ?_
    refine lv_ifnonnull (tgt := 23) hx hb dX6_ofField_10 (by decide) ?_
    refine lv_iload_n hx hb dX6_ofField_23 rfl (lv_at hl 3 rfl) ?_
    refine lv_iconst (v := (0 : Int32)) hx hb dX6_ofField_24 (by decide) ?_
    refine lv_bipush (v := (11 : Int32)) hx hb dX6_ofField_25 (by decide) ?_
    refine g_callSi (n9 := 3) (As := [.int p1, .int (0 : Int32), .int (11 : Int32)]) (rest := []) hx hb hml hl.1 hown hts hK hM (c_X6_isOutside l G _ p1 (0 : Int32) (11 : Int32) ) wm_X6_30 wt_X6_isOutside wn_X6 wc_X6_isOutside (by decide +kernel) ⟨Nat.le_of_ble_eq_true rfl, Nat.le_of_ble_eq_true rfl⟩ ⟨Nat.le_of_ble_eq_true rfl, Nat.le_of_ble_eq_true rfl⟩ rfl (Nat.le_of_ble_eq_true rfl) rfl dX6_ofField_27 (fun r_27 M1 H locs hq hM => ?_)
    have hq1 := hq.1.symm
    have hq2 := hq.2.symm
    subst hq1 hq2
    refine lv_if_eq (tgt := 43) hx hb dX6_ofField_30 (by decide) (fun c2 => ?_) (fun c2 => ?_)
    · refine lv_iload_n hx hb dX6_ofField_43 rfl (lv_at hl 3 rfl) ?_
      by_cases z3 : p1 = (0 : Int32)
      · refine lv_tableIn (off := 60) (tgt := 104) hx hb dX6_ofField_44 (by rw [z3]; decide) (by rw [z3]; decide) (by rw [z3]; decide) (by decide) ?_
        refine lv_aload_n hx hb dX6_ofField_104 rfl (lv_at hl 0 rfl) ?_
        refine fg_X6_209 hx hb hts hown hK hM (hL.row (k := 0) (i := (ix p0)) (by decide) lx1) dX6_ofField_105 ?_
        refine vx_ret ?_
        exact g_iret hx hb hr hlocks hM (Nat.zero_le _) (Nat.zero_le _) ⟨(by unfold kc_X6_ofField; rw [if_neg nx1, if_pos c2]), (by unfold qv_X6_ofField; rw [if_pos z3]), rfl⟩ dX6_ofField_108
      by_cases z4 : p1 = (1 : Int32)
      · refine lv_tableIn (off := 65) (tgt := 109) hx hb dX6_ofField_44 (by rw [z4]; decide) (by rw [z4]; decide) (by rw [z4]; decide) (by decide) ?_
        refine lv_aload_n hx hb dX6_ofField_109 rfl (lv_at hl 0 rfl) ?_
        refine fg_X6_212 hx hb hts hown hK hM (hL.row (k := 0) (i := (ix p0)) (by decide) lx1) dX6_ofField_110 ?_
        refine vx_ret ?_
        exact g_iret hx hb hr hlocks hM (Nat.zero_le _) (Nat.zero_le _) ⟨(by unfold kc_X6_ofField; rw [if_neg nx1, if_pos c2]), (by unfold qv_X6_ofField; rw [if_neg z3, if_pos z4]), rfl⟩ dX6_ofField_113
      by_cases z5 : p1 = (2 : Int32)
      · refine lv_tableIn (off := 70) (tgt := 114) hx hb dX6_ofField_44 (by rw [z5]; decide) (by rw [z5]; decide) (by rw [z5]; decide) (by decide) ?_
        refine lv_aload_n hx hb dX6_ofField_114 rfl (lv_at hl 0 rfl) ?_
        refine fg_X6_213 hx hb hts hown hK hM (hL.row (k := 0) (i := (ix p0)) (by decide) lx1) dX6_ofField_115 ?_
        refine vx_ret ?_
        exact g_iret hx hb hr hlocks hM (Nat.zero_le _) (Nat.zero_le _) ⟨(by unfold kc_X6_ofField; rw [if_neg nx1, if_pos c2]), (by unfold qv_X6_ofField; rw [if_neg z3, if_neg z4, if_pos z5]), rfl⟩ dX6_ofField_118
      by_cases z6 : p1 = (3 : Int32)
      · refine lv_tableIn (off := 75) (tgt := 119) hx hb dX6_ofField_44 (by rw [z6]; decide) (by rw [z6]; decide) (by rw [z6]; decide) (by decide) ?_
        refine lv_aload_n hx hb dX6_ofField_119 rfl (lv_at hl 0 rfl) ?_
        refine fg_X6_216 hx hb hts hown hK hM (hL.row (k := 0) (i := (ix p0)) (by decide) lx1) dX6_ofField_120 ?_
        refine vx_ret ?_
        exact g_iret hx hb hr hlocks hM (Nat.zero_le _) (Nat.zero_le _) ⟨(by unfold kc_X6_ofField; rw [if_neg nx1, if_pos c2]), (by unfold qv_X6_ofField; rw [if_neg z3, if_neg z4, if_neg z5, if_pos z6]), rfl⟩ dX6_ofField_123
      by_cases z7 : p1 = (4 : Int32)
      · refine lv_tableIn (off := 80) (tgt := 124) hx hb dX6_ofField_44 (by rw [z7]; decide) (by rw [z7]; decide) (by rw [z7]; decide) (by decide) ?_
        refine lv_aload_n hx hb dX6_ofField_124 rfl (lv_at hl 0 rfl) ?_
        refine fg_X6_73 hx hb hts hown hK hM (hL.row (k := 0) (i := (ix p0)) (by decide) lx1) dX6_ofField_125 ?_
        refine vx_ret ?_
        exact g_iret hx hb hr hlocks hM (Nat.zero_le _) (Nat.zero_le _) ⟨(by unfold kc_X6_ofField; rw [if_neg nx1, if_pos c2]), (by unfold qv_X6_ofField; rw [if_neg z3, if_neg z4, if_neg z5, if_neg z6, if_pos z7]), rfl⟩ dX6_ofField_128
      by_cases z8 : p1 = (5 : Int32)
      · refine lv_tableIn (off := 85) (tgt := 129) hx hb dX6_ofField_44 (by rw [z8]; decide) (by rw [z8]; decide) (by rw [z8]; decide) (by decide) ?_
        refine lv_aload_n hx hb dX6_ofField_129 rfl (lv_at hl 0 rfl) ?_
        refine fg_X6_77 hx hb hts hown hK hM (hL.row (k := 0) (i := (ix p0)) (by decide) lx1) dX6_ofField_130 ?_
        refine vx_ret ?_
        exact g_iret hx hb hr hlocks hM (Nat.zero_le _) (Nat.zero_le _) ⟨(by unfold kc_X6_ofField; rw [if_neg nx1, if_pos c2]), (by unfold qv_X6_ofField; rw [if_neg z3, if_neg z4, if_neg z5, if_neg z6, if_neg z7, if_pos z8]), rfl⟩ dX6_ofField_133
      by_cases z9 : p1 = (6 : Int32)
      · refine lv_tableIn (off := 90) (tgt := 134) hx hb dX6_ofField_44 (by rw [z9]; decide) (by rw [z9]; decide) (by rw [z9]; decide) (by decide) ?_
        refine lv_aload_n hx hb dX6_ofField_134 rfl (lv_at hl 0 rfl) ?_
        refine fg_X6_219 hx hb hts hown hK hM (hL.row (k := 0) (i := (ix p0)) (by decide) lx1) dX6_ofField_135 ?_
        refine vx_ret ?_
        exact g_iret hx hb hr hlocks hM (Nat.zero_le _) (Nat.zero_le _) ⟨(by unfold kc_X6_ofField; rw [if_neg nx1, if_pos c2]), (by unfold qv_X6_ofField; rw [if_neg z3, if_neg z4, if_neg z5, if_neg z6, if_neg z7, if_neg z8, if_pos z9]), rfl⟩ dX6_ofField_138
      by_cases z10 : p1 = (7 : Int32)
      · refine lv_tableIn (off := 95) (tgt := 139) hx hb dX6_ofField_44 (by rw [z10]; decide) (by rw [z10]; decide) (by rw [z10]; decide) (by decide) ?_
        refine lv_aload_n hx hb dX6_ofField_139 rfl (lv_at hl 0 rfl) ?_
        refine fg_X6_222 hx hb hts hown hK hM (hL.row (k := 0) (i := (ix p0)) (by decide) lx1) dX6_ofField_140 ?_
        refine vx_ret ?_
        exact g_iret hx hb hr hlocks hM (Nat.zero_le _) (Nat.zero_le _) ⟨(by unfold kc_X6_ofField; rw [if_neg nx1, if_pos c2]), (by unfold qv_X6_ofField; rw [if_neg z3, if_neg z4, if_neg z5, if_neg z6, if_neg z7, if_neg z8, if_neg z9, if_pos z10]), rfl⟩ dX6_ofField_143
      by_cases z11 : p1 = (8 : Int32)
      · refine lv_tableIn (off := 100) (tgt := 144) hx hb dX6_ofField_44 (by rw [z11]; decide) (by rw [z11]; decide) (by rw [z11]; decide) (by decide) ?_
        refine lv_aload_n hx hb dX6_ofField_144 rfl (lv_at hl 0 rfl) ?_
        refine fg_X6_225 hx hb hts hown hK hM (hL.row (k := 0) (i := (ix p0)) (by decide) lx1) dX6_ofField_145 ?_
        refine vx_ret ?_
        exact g_iret hx hb hr hlocks hM (Nat.zero_le _) (Nat.zero_le _) ⟨(by unfold kc_X6_ofField; rw [if_neg nx1, if_pos c2]), (by unfold qv_X6_ofField; rw [if_neg z3, if_neg z4, if_neg z5, if_neg z6, if_neg z7, if_neg z8, if_neg z9, if_neg z10, if_pos z11]), rfl⟩ dX6_ofField_148
      by_cases z12 : p1 = (9 : Int32)
      · refine lv_tableIn (off := 105) (tgt := 149) hx hb dX6_ofField_44 (by rw [z12]; decide) (by rw [z12]; decide) (by rw [z12]; decide) (by decide) ?_
        refine lv_aload_n hx hb dX6_ofField_149 rfl (lv_at hl 1 rfl) ?_
        refine fg_X6_12 hx hb hts hown hK hM ho dX6_ofField_150 ?_
        refine lv_iload_n hx hb dX6_ofField_153 rfl (lv_at hl 2 rfl) ?_
        refine g_callVi (n9 := 1) (As := [.int p0]) (rest := []) hx hb hml hl.1 hown hts hK hM (c_X3_onTheWay l G _ t h0 Y N _ tr now price money p0 hL) wm_X6_228 wi_X3_onTheWay wl_X3_onTheWay wn_X3 wc_X3_onTheWay (by decide +kernel) (hM.recv hK (ci := 4) rfl hL.1) ⟨Nat.le_of_ble_eq_true rfl, Nat.le_of_ble_eq_true rfl⟩ ⟨Nat.zero_le _, Nat.zero_le _⟩ rfl (Nat.le_of_ble_eq_true rfl) rfl dX6_ofField_154 (fun r_154 Mz H locs hq hM => ?_)
        have hq1 := hq.1.symm
        have hq2 := hq.2.symm
        subst hq1 hq2
        refine vx_ret ?_
        exact g_iret hx hb hr hlocks hM (Nat.zero_le _) (Nat.zero_le _) ⟨(by unfold kc_X6_ofField; rw [if_neg nx1, if_pos c2]), (by unfold qv_X6_ofField; rw [if_neg z3, if_neg z4, if_neg z5, if_neg z6, if_neg z7, if_neg z8, if_neg z9, if_neg z10, if_neg z11, if_pos z12]), rfl⟩ dX6_ofField_157
      by_cases z13 : p1 = (10 : Int32)
      · refine lv_tableIn (off := 114) (tgt := 158) hx hb dX6_ofField_44 (by rw [z13]; decide) (by rw [z13]; decide) (by rw [z13]; decide) (by decide) ?_
        refine lv_aload_n hx hb dX6_ofField_158 rfl (lv_at hl 0 rfl) ?_
        refine lv_aload_n hx hb dX6_ofField_159 rfl (lv_at hl 1 rfl) ?_
        refine fg_X6_12 hx hb hts hown hK hM ho dX6_ofField_160 ?_
        refine lv_iload_n hx hb dX6_ofField_163 rfl (lv_at hl 2 rfl) ?_
        refine g_callVi (n9 := 1) (As := [.int p0]) (rest := [.ref (Y.2.2.2.2.2 0 (ix p0))]) hx hb hml hl.1 hown hts hK hM (c_X3_onTheWay l G _ t h0 Y N _ tr now price money p0 hL) wm_X6_228 wi_X3_onTheWay wl_X3_onTheWay wn_X3 wc_X3_onTheWay (by decide +kernel) (hM.recv hK (ci := 4) rfl hL.1) ⟨Nat.le_of_ble_eq_true rfl, Nat.le_of_ble_eq_true rfl⟩ ⟨Nat.zero_le _, Nat.zero_le _⟩ rfl (Nat.le_of_ble_eq_true rfl) rfl dX6_ofField_164 (fun r_164 Mz H locs hq hM => ?_)
        have hq1 := hq.1.symm
        have hq2 := hq.2.symm
        subst hq1 hq2
        refine g_callVi (n9 := 1) (As := [.int (sa (sa 0 (fun j => if T 1 j 4 = p0 then T 1 j 3 else 0) (N 1)) (fun j => if T 2 j 3 = p0 then T 2 j 2 else 0) (N 2))]) (rest := []) hx hb hml hl.1 hown hts hK hM (cr_X2_correction l G _ (Y.2.2.2.2.2 0 (ix p0)) t (T 0 (ix p0)) (sa (sa 0 (fun j => if T 1 j 4 = p0 then T 1 j 3 else 0) (N 1)) (fun j => if T 2 j 3 = p0 then T 2 j 2 else 0) (N 2)) (hL.row (k := 0) (i := (ix p0)) (by decide) lx1) ) wm_X6_231 wi_X2_correction wl_X2_correction wn_X2 wc_X2_correction (by decide +kernel) (hM.recv hK (ci := 3) rfl (hL.row (k := 0) (i := (ix p0)) (by decide) lx1)) ⟨Nat.le_of_ble_eq_true rfl, Nat.le_of_ble_eq_true rfl⟩ ⟨Nat.zero_le _, Nat.zero_le _⟩ rfl (Nat.le_of_ble_eq_true rfl) rfl dX6_ofField_167 (fun r_167 Mz H locs hq hM => ?_)
        have hq1 := hq.1.symm
        have hq2 := hq.2.symm
        subst hq1 hq2
        refine vx_ret ?_
        exact g_iret hx hb hr hlocks hM (Nat.zero_le _) (Nat.zero_le _) ⟨(by unfold kc_X6_ofField; rw [if_neg nx1, if_pos c2]), (by unfold qv_X6_ofField; rw [if_neg z3, if_neg z4, if_neg z5, if_neg z6, if_neg z7, if_neg z8, if_neg z9, if_neg z10, if_neg z11, if_neg z12, if_pos z13]), rfl⟩ dX6_ofField_170
      refine lv_tableOut (tgt := 171) hx hb dX6_ofField_44 (tab_out 10 (fun k hk => match k, hk with | 0, _ => z3 | 1, _ => z4 | 2, _ => z5 | 3, _ => z6 | 4, _ => z7 | 5, _ => z8 | 6, _ => z9 | 7, _ => z10 | 8, _ => z11 | 9, _ => z12 | 10, _ => z13 | k + 11, hk => absurd hk (by omega))) (by decide) ?_
      refine lv_aload_n hx hb dX6_ofField_171 rfl (lv_at hl 1 rfl) ?_
      refine fg_X6_12 hx hb hts hown hK hM ho dX6_ofField_172 ?_
      refine lv_iload_n hx hb dX6_ofField_175 rfl (lv_at hl 2 rfl) ?_
      refine g_callVi (n9 := 1) (As := [.int p0]) (rest := []) hx hb hml hl.1 hown hts hK hM (c_X3_combinesSentTo l G _ t h0 Y N _ tr now price money p0 hL) wm_X6_134 wi_X3_combinesSentTo wl_X3_combinesSentTo wn_X3 wc_X3_combinesSentTo (by decide +kernel) (hM.recv hK (ci := 4) rfl hL.1) ⟨Nat.le_of_ble_eq_true rfl, Nat.le_of_ble_eq_true rfl⟩ ⟨Nat.zero_le _, Nat.zero_le _⟩ rfl (Nat.le_of_ble_eq_true rfl) rfl dX6_ofField_176 (fun r_176 Mz H locs hq hM => ?_)
      have hq1 := hq.1.symm
      have hq2 := hq.2.symm
      subst hq1 hq2
      refine vx_ret ?_
      exact g_iret hx hb hr hlocks hM (Nat.zero_le _) (Nat.zero_le _) ⟨(by unfold kc_X6_ofField; rw [if_neg nx1, if_pos c2]), (by unfold qv_X6_ofField; rw [if_neg z3, if_neg z4, if_neg z5, if_neg z6, if_neg z7, if_neg z8, if_neg z9, if_neg z10, if_neg z11, if_neg z12, if_neg z13]), rfl⟩ dX6_ofField_179
    · exact g_thrA hx hb hst hts hown hX hM hml hl.1 hlocks ht (Or.inr (Or.inl ⟨(by unfold kc_X6_ofField; rw [if_neg nx1, if_neg c2]), rfl⟩)) tx_207 dX6_ofField_33 dX6_ofField_36 dX6_ofField_37 dX6_ofField_39 dX6_ofField_42 ⟨Nat.le_of_ble_eq_true rfl, Nat.le_of_ble_eq_true rfl⟩ (Nat.le_of_ble_eq_true rfl) ⟨by show _ ≤ xc (kc_X6_ofField N T tr now price money p0 p1); rw [show kc_X6_ofField N T tr now price money p0 p1 = 2 from (by unfold kc_X6_ofField; rw [if_neg nx1, if_neg c2])]; decide, by show _ ≤ 6 * xc (kc_X6_ofField N T tr now price money p0 p1); rw [show kc_X6_ofField N T tr now price money p0 p1 = 2 from (by unfold kc_X6_ofField; rw [if_neg nx1, if_neg c2])]; decide⟩ ⟨by show _ ≤ xc (kc_X6_ofField N T tr now price money p0 p1); rw [show kc_X6_ofField N T tr now price money p0 p1 = 2 from (by unfold kc_X6_ofField; rw [if_neg nx1, if_neg c2])]; decide, by show _ ≤ 6 * xc (kc_X6_ofField N T tr now price money p0 p1); rw [show kc_X6_ofField N T tr now price money p0 p1 = 2 from (by unfold kc_X6_ofField; rw [if_neg nx1, if_neg c2])]; decide⟩
def kc_X6_ofCombine (N : Nat → Nat) (T : Tb) (tr now price money : Int32) (p0 p1 : Int32) : Nat := if ixR (N 1) p0 = none then 1 else (if (t_X6_isOutside_0 p1 (0 : Int32) (7 : Int32)) = 0 then 0 else 2)
def qv_X6_ofCombine (N : Nat → Nat) (T : Tb) (tr now price money : Int32) (p0 p1 : Int32) : Int32 := if p1 = (0 : Int32) then ((T 1 (ix p0)) 1) else (if p1 = (1 : Int32) then ((T 1 (ix p0)) 3) else (if p1 = (2 : Int32) then (if ((T 1 (ix p0)) 3) ≤ 0 then (-1 : Int32) else ((T 1 (ix p0)) 4)) else (if p1 = (3 : Int32) then ((T 1 (ix p0)) 6) else (if p1 = (4 : Int32) then (if ((T 1 (ix p0)) 7) = 0 then (0 : Int32) else (1 : Int32)) else (if p1 = (5 : Int32) then ((T 1 (ix p0)) 9) else (if p1 = (6 : Int32) then ((T 1 (ix p0)) 10) else ((T 1 (ix p0)) 8)))))))
set_option maxHeartbeats 4000000 in
set_option maxRecDepth 100000 in
theorem c_X6_ofCombine (l : Launch) (hst : l.stackTraces = false) (G : GG) (M : HM) (xa rx h2 h3 : Nat) (t h0 : Nat) (Y : LY) (N : Nat → Nat) (T : Tb) (tr now price money : Int32) (p0 p1 : Int32) (ho : M xa = some (rx, .inr (7, [.ref h0, .ref h2, .ref h3]))) (hrx : rx ≠ t) (hL : LdR G M t h0 Y N T tr now price money) : Xi l yX6_ofCombine (.code yX6_ofCombine cX6_ofCombine 4 (some .int) :: AL) 6 90 (xc (kc_X6_ofCombine N T tr now price money p0 p1)) (6 * xc (kc_X6_ofCombine N T tr now price money p0 p1)) [.ref xa, .int p0, .int p1] G M (fun r M' => kc_X6_ofCombine N T tr now price money p0 p1 = 0 ∧ r = (qv_X6_ofCombine N T tr now price money p0 p1) ∧ M' = M) (EX (kc_X6_ofCombine N T tr now price money p0 p1)) := by
  refine Xi.go (by decide) (Nat.le_of_ble_eq_true rfl) ?_
  intro p e s m below meth c ls hx hb hr hml hown hlocks ht hts hK hX hM hl
  have hown : s.vm.findClass RX6 = some m.cls := hown
  have hl : lv_has ls 4 [(0, .ref xa), (1, .int p0), (2, .int p1)] := hl
  have hN8 := hL.2.2.2.2.2.2.1
  have hn0 := hN8 0
  have hn1 := hN8 1
  have hn2 := hN8 2
  have hn3 := hN8 3
  have hn4 := hN8 4
  refine lv_aload_n hx hb dX6_ofCombine_0 rfl (lv_at hl 0 rfl) ?_
  refine fg_X6_12 hx hb hts hown hK hM ho dX6_ofCombine_1 ?_
  refine lv_iload_n hx hb dX6_ofCombine_4 rfl (lv_at hl 1 rfl) ?_
  rcases x1 : ixR (N 1) p0 with _ | j1
  · refine g_callVq (n9 := 1) (As := [.int p0]) (rest := []) hx hb hml hl.1 hown hts hK hM (c_X3_combineAt l G _ t h0 Y N _ tr now price money p0 hL) wm_X6_125 wi_X3_combineAt wl_X3_combineAt wn_X3 wc_X3_combineAt (by decide +kernel) (hM.recv hK (ci := 4) rfl hL.1) ⟨Nat.le_of_ble_eq_true rfl, Nat.le_of_ble_eq_true rfl⟩ ⟨Nat.zero_le _, Nat.zero_le _⟩ rfl (Nat.le_of_ble_eq_true rfl) rfl dX6_ofCombine_5 (fun r_5 Mz H locs hq hM => ?_)
    have hq1 := (hq.1.trans (atR_n (N := N) (k := 1) x1)).symm
    have hq2 := hq.2.symm
    subst hq1 hq2
    refine lv_astore_nN (lv' := [(3, .null), (0, .ref xa), (1, .int p0), (2, .int p1)]) hx hb dX6_ofCombine_8 rfl hl (by decide) rfl (fun ls hl => ?_)
    refine lv_aload_nN hx hb dX6_ofCombine_9 rfl (lv_at hl 0 rfl) ?_
    refine lv_ifnonnullN hx hb dX6_ofCombine_10 ?_
    exact g_thrI hx hb hst hts hown hX hM hml hl.1 hlocks ht (Or.inl ⟨(by unfold kc_X6_ofCombine; rw [if_pos x1]), rfl⟩) tx_129 dX6_ofCombine_13 dX6_ofCombine_16 dX6_ofCombine_17 dX6_ofCombine_19 dX6_ofCombine_22 ⟨Nat.le_of_ble_eq_true rfl, Nat.le_of_ble_eq_true rfl⟩ (Nat.le_of_ble_eq_true rfl) ⟨by show _ ≤ xc (kc_X6_ofCombine N T tr now price money p0 p1); rw [show kc_X6_ofCombine N T tr now price money p0 p1 = 1 from (by unfold kc_X6_ofCombine; rw [if_pos x1])]; decide, by show _ ≤ 6 * xc (kc_X6_ofCombine N T tr now price money p0 p1); rw [show kc_X6_ofCombine N T tr now price money p0 p1 = 1 from (by unfold kc_X6_ofCombine; rw [if_pos x1])]; decide⟩ ⟨by show _ ≤ xc (kc_X6_ofCombine N T tr now price money p0 p1); rw [show kc_X6_ofCombine N T tr now price money p0 p1 = 1 from (by unfold kc_X6_ofCombine; rw [if_pos x1])]; decide, by show _ ≤ 6 * xc (kc_X6_ofCombine N T tr now price money p0 p1); rw [show kc_X6_ofCombine N T tr now price money p0 p1 = 1 from (by unfold kc_X6_ofCombine; rw [if_pos x1])]; decide⟩
  · obtain rfl : j1 = (ix p0) := ixR_ix x1
    have lx1 : (ix p0) < N 1 := (ixR_lt (hL.2.2.2.2.2.2.1 1) x1).1
    have nx1 : ¬ ixR (N 1) p0 = none := by rw [x1]; exact fun z => nomatch z
    refine g_callVq (n9 := 1) (As := [.int p0]) (rest := []) hx hb hml hl.1 hown hts hK hM (c_X3_combineAt l G _ t h0 Y N _ tr now price money p0 hL) wm_X6_125 wi_X3_combineAt wl_X3_combineAt wn_X3 wc_X3_combineAt (by decide +kernel) (hM.recv hK (ci := 4) rfl hL.1) ⟨Nat.le_of_ble_eq_true rfl, Nat.le_of_ble_eq_true rfl⟩ ⟨Nat.zero_le _, Nat.zero_le _⟩ rfl (Nat.le_of_ble_eq_true rfl) rfl dX6_ofCombine_5 (fun r_5 Mz H locs hq hM => ?_)
    have hq1 := (hq.1.trans (atR_s (N := N) (k := 1) x1)).symm
    have hq2 := hq.2.symm
    subst hq1 hq2
    refine lv_astore_n (lv' := [(3, .ref (Y.2.2.2.2.2 1 (ix p0))), (0, .ref xa), (1, .int p0), (2, .int p1)]) hx hb dX6_ofCombine_8 rfl hl (by decide) rfl (fun ls hl => ?_)
    refine lv_aload_n hx hb dX6_ofCombine_9 rfl (lv_at hl 0 rfl) ?_
    refine lv_ifnonnull (tgt := 23) hx hb dX6_ofCombine_10 (by decide) ?_
    refine lv_iload_n hx hb dX6_ofCombine_23 rfl (lv_at hl 3 rfl) ?_
    refine lv_iconst (v := (0 : Int32)) hx hb dX6_ofCombine_24 (by decide) ?_
    refine lv_bipush (v := (7 : Int32)) hx hb dX6_ofCombine_25 (by decide) ?_
    refine g_callSi (n9 := 3) (As := [.int p1, .int (0 : Int32), .int (7 : Int32)]) (rest := []) hx hb hml hl.1 hown hts hK hM (c_X6_isOutside l G _ p1 (0 : Int32) (7 : Int32) ) wm_X6_30 wt_X6_isOutside wn_X6 wc_X6_isOutside (by decide +kernel) ⟨Nat.le_of_ble_eq_true rfl, Nat.le_of_ble_eq_true rfl⟩ ⟨Nat.le_of_ble_eq_true rfl, Nat.le_of_ble_eq_true rfl⟩ rfl (Nat.le_of_ble_eq_true rfl) rfl dX6_ofCombine_27 (fun r_27 M1 H locs hq hM => ?_)
    have hq1 := hq.1.symm
    have hq2 := hq.2.symm
    subst hq1 hq2
    refine lv_if_eq (tgt := 43) hx hb dX6_ofCombine_30 (by decide) (fun c2 => ?_) (fun c2 => ?_)
    · refine lv_iload_n hx hb dX6_ofCombine_43 rfl (lv_at hl 3 rfl) ?_
      by_cases z3 : p1 = (0 : Int32)
      · refine lv_tableIn (off := 44) (tgt := 88) hx hb dX6_ofCombine_44 (by rw [z3]; decide) (by rw [z3]; decide) (by rw [z3]; decide) (by decide) ?_
        refine lv_aload_n hx hb dX6_ofCombine_88 rfl (lv_at hl 0 rfl) ?_
        refine fg_X6_150 hx hb hts hown hK hM (hL.row (k := 1) (i := (ix p0)) (by decide) lx1) dX6_ofCombine_89 ?_
        refine vx_ret ?_
        exact g_iret hx hb hr hlocks hM (Nat.zero_le _) (Nat.zero_le _) ⟨(by unfold kc_X6_ofCombine; rw [if_neg nx1, if_pos c2]), (by unfold qv_X6_ofCombine; rw [if_pos z3]), rfl⟩ dX6_ofCombine_92
      by_cases z4 : p1 = (1 : Int32)
      · refine lv_tableIn (off := 49) (tgt := 93) hx hb dX6_ofCombine_44 (by rw [z4]; decide) (by rw [z4]; decide) (by rw [z4]; decide) (by decide) ?_
        refine lv_aload_n hx hb dX6_ofCombine_93 rfl (lv_at hl 0 rfl) ?_
        refine fg_X6_234 hx hb hts hown hK hM (hL.row (k := 1) (i := (ix p0)) (by decide) lx1) dX6_ofCombine_94 ?_
        refine vx_ret ?_
        exact g_iret hx hb hr hlocks hM (Nat.zero_le _) (Nat.zero_le _) ⟨(by unfold kc_X6_ofCombine; rw [if_neg nx1, if_pos c2]), (by unfold qv_X6_ofCombine; rw [if_neg z3, if_pos z4]), rfl⟩ dX6_ofCombine_97
      by_cases z5 : p1 = (2 : Int32)
      · refine lv_tableIn (off := 54) (tgt := 98) hx hb dX6_ofCombine_44 (by rw [z5]; decide) (by rw [z5]; decide) (by rw [z5]; decide) (by decide) ?_
        refine lv_aload_n hx hb dX6_ofCombine_98 rfl (lv_at hl 0 rfl) ?_
        refine fg_X6_234 hx hb hts hown hK hM (hL.row (k := 1) (i := (ix p0)) (by decide) lx1) dX6_ofCombine_99 ?_
        refine lv_if_le (tgt := 112) hx hb dX6_ofCombine_102 (by decide) (fun c6 => ?_) (fun c6 => ?_)
        · refine lv_iconst (v := (-1 : Int32)) hx hb dX6_ofCombine_112 (by decide) ?_
          refine vx_ret ?_
          exact g_iret hx hb hr hlocks hM (Nat.zero_le _) (Nat.zero_le _) ⟨(by unfold kc_X6_ofCombine; rw [if_neg nx1, if_pos c2]), (by unfold qv_X6_ofCombine; rw [if_neg z3, if_neg z4, if_pos z5, if_pos c6]), rfl⟩ dX6_ofCombine_113
        · refine lv_aload_n hx hb dX6_ofCombine_105 rfl (lv_at hl 0 rfl) ?_
          refine fg_X6_237 hx hb hts hown hK hM (hL.row (k := 1) (i := (ix p0)) (by decide) lx1) dX6_ofCombine_106 ?_
          refine lv_goto (tgt := 113) hx hb dX6_ofCombine_109 (by decide) ?_
          refine vx_ret ?_
          exact g_iret hx hb hr hlocks hM (Nat.zero_le _) (Nat.zero_le _) ⟨(by unfold kc_X6_ofCombine; rw [if_neg nx1, if_pos c2]), (by unfold qv_X6_ofCombine; rw [if_neg z3, if_neg z4, if_pos z5, if_neg c6]), rfl⟩ dX6_ofCombine_113
      by_cases z7 : p1 = (3 : Int32)
      · refine lv_tableIn (off := 70) (tgt := 114) hx hb dX6_ofCombine_44 (by rw [z7]; decide) (by rw [z7]; decide) (by rw [z7]; decide) (by decide) ?_
        refine lv_aload_n hx hb dX6_ofCombine_114 rfl (lv_at hl 0 rfl) ?_
        refine fg_X6_169 hx hb hts hown hK hM (hL.row (k := 1) (i := (ix p0)) (by decide) lx1) dX6_ofCombine_115 ?_
        refine vx_ret ?_
        exact g_iret hx hb hr hlocks hM (Nat.zero_le _) (Nat.zero_le _) ⟨(by unfold kc_X6_ofCombine; rw [if_neg nx1, if_pos c2]), (by unfold qv_X6_ofCombine; rw [if_neg z3, if_neg z4, if_neg z5, if_pos z7]), rfl⟩ dX6_ofCombine_118
      by_cases z8 : p1 = (4 : Int32)
      · refine lv_tableIn (off := 75) (tgt := 119) hx hb dX6_ofCombine_44 (by rw [z8]; decide) (by rw [z8]; decide) (by rw [z8]; decide) (by decide) ?_
        refine lv_aload_n hx hb dX6_ofCombine_119 rfl (lv_at hl 0 rfl) ?_
        refine fg_X6_177 hx hb hts hown hK hM (hL.row (k := 1) (i := (ix p0)) (by decide) lx1) dX6_ofCombine_120 ?_
        refine lv_if_eq (tgt := 130) hx hb dX6_ofCombine_123 (by decide) (fun c9 => ?_) (fun c9 => ?_)
        · refine lv_iconst (v := (0 : Int32)) hx hb dX6_ofCombine_130 (by decide) ?_
          refine vx_ret ?_
          exact g_iret hx hb hr hlocks hM (Nat.zero_le _) (Nat.zero_le _) ⟨(by unfold kc_X6_ofCombine; rw [if_neg nx1, if_pos c2]), (by unfold qv_X6_ofCombine; rw [if_neg z3, if_neg z4, if_neg z5, if_neg z7, if_pos z8, if_pos c9]), rfl⟩ dX6_ofCombine_131
        · refine lv_iconst (v := (1 : Int32)) hx hb dX6_ofCombine_126 (by decide) ?_
          refine lv_goto (tgt := 131) hx hb dX6_ofCombine_127 (by decide) ?_
          refine vx_ret ?_
          exact g_iret hx hb hr hlocks hM (Nat.zero_le _) (Nat.zero_le _) ⟨(by unfold kc_X6_ofCombine; rw [if_neg nx1, if_pos c2]), (by unfold qv_X6_ofCombine; rw [if_neg z3, if_neg z4, if_neg z5, if_neg z7, if_pos z8, if_neg c9]), rfl⟩ dX6_ofCombine_131
      by_cases z10 : p1 = (5 : Int32)
      · refine lv_tableIn (off := 88) (tgt := 132) hx hb dX6_ofCombine_44 (by rw [z10]; decide) (by rw [z10]; decide) (by rw [z10]; decide) (by decide) ?_
        refine lv_aload_n hx hb dX6_ofCombine_132 rfl (lv_at hl 0 rfl) ?_
        refine fg_X6_131 hx hb hts hown hK hM (hL.row (k := 1) (i := (ix p0)) (by decide) lx1) dX6_ofCombine_133 ?_
        refine vx_ret ?_
        exact g_iret hx hb hr hlocks hM (Nat.zero_le _) (Nat.zero_le _) ⟨(by unfold kc_X6_ofCombine; rw [if_neg nx1, if_pos c2]), (by unfold qv_X6_ofCombine; rw [if_neg z3, if_neg z4, if_neg z5, if_neg z7, if_neg z8, if_pos z10]), rfl⟩ dX6_ofCombine_136
      by_cases z11 : p1 = (6 : Int32)
      · refine lv_tableIn (off := 93) (tgt := 137) hx hb dX6_ofCombine_44 (by rw [z11]; decide) (by rw [z11]; decide) (by rw [z11]; decide) (by decide) ?_
        refine lv_aload_n hx hb dX6_ofCombine_137 rfl (lv_at hl 0 rfl) ?_
        refine fg_X6_240 hx hb hts hown hK hM (hL.row (k := 1) (i := (ix p0)) (by decide) lx1) dX6_ofCombine_138 ?_
        refine vx_ret ?_
        exact g_iret hx hb hr hlocks hM (Nat.zero_le _) (Nat.zero_le _) ⟨(by unfold kc_X6_ofCombine; rw [if_neg nx1, if_pos c2]), (by unfold qv_X6_ofCombine; rw [if_neg z3, if_neg z4, if_neg z5, if_neg z7, if_neg z8, if_neg z10, if_pos z11]), rfl⟩ dX6_ofCombine_141
      refine lv_tableOut (tgt := 142) hx hb dX6_ofCombine_44 (tab_out 6 (fun k hk => match k, hk with | 0, _ => z3 | 1, _ => z4 | 2, _ => z5 | 3, _ => z7 | 4, _ => z8 | 5, _ => z10 | 6, _ => z11 | k + 7, hk => absurd hk (by omega))) (by decide) ?_
      refine lv_aload_n hx hb dX6_ofCombine_142 rfl (lv_at hl 0 rfl) ?_
      refine fg_X6_241 hx hb hts hown hK hM (hL.row (k := 1) (i := (ix p0)) (by decide) lx1) dX6_ofCombine_143 ?_
      refine vx_ret ?_
      exact g_iret hx hb hr hlocks hM (Nat.zero_le _) (Nat.zero_le _) ⟨(by unfold kc_X6_ofCombine; rw [if_neg nx1, if_pos c2]), (by unfold qv_X6_ofCombine; rw [if_neg z3, if_neg z4, if_neg z5, if_neg z7, if_neg z8, if_neg z10, if_neg z11]), rfl⟩ dX6_ofCombine_146
    · exact g_thrA hx hb hst hts hown hX hM hml hl.1 hlocks ht (Or.inr (Or.inl ⟨(by unfold kc_X6_ofCombine; rw [if_neg nx1, if_neg c2]), rfl⟩)) tx_207 dX6_ofCombine_33 dX6_ofCombine_36 dX6_ofCombine_37 dX6_ofCombine_39 dX6_ofCombine_42 ⟨Nat.le_of_ble_eq_true rfl, Nat.le_of_ble_eq_true rfl⟩ (Nat.le_of_ble_eq_true rfl) ⟨by show _ ≤ xc (kc_X6_ofCombine N T tr now price money p0 p1); rw [show kc_X6_ofCombine N T tr now price money p0 p1 = 2 from (by unfold kc_X6_ofCombine; rw [if_neg nx1, if_neg c2])]; decide, by show _ ≤ 6 * xc (kc_X6_ofCombine N T tr now price money p0 p1); rw [show kc_X6_ofCombine N T tr now price money p0 p1 = 2 from (by unfold kc_X6_ofCombine; rw [if_neg nx1, if_neg c2])]; decide⟩ ⟨by show _ ≤ xc (kc_X6_ofCombine N T tr now price money p0 p1); rw [show kc_X6_ofCombine N T tr now price money p0 p1 = 2 from (by unfold kc_X6_ofCombine; rw [if_neg nx1, if_neg c2])]; decide, by show _ ≤ 6 * xc (kc_X6_ofCombine N T tr now price money p0 p1); rw [show kc_X6_ofCombine N T tr now price money p0 p1 = 2 from (by unfold kc_X6_ofCombine; rw [if_neg nx1, if_neg c2])]; decide⟩
def kc_X6_ofTruck (N : Nat → Nat) (T : Tb) (tr now price money : Int32) (p0 p1 : Int32) : Nat := if ixR (N 2) p0 = none then 1 else (if (t_X6_isOutside_0 p1 (0 : Int32) (7 : Int32)) = 0 then 0 else 2)
def qv_X6_ofTruck (N : Nat → Nat) (T : Tb) (tr now price money : Int32) (p0 p1 : Int32) : Int32 := if p1 = (0 : Int32) then ((T 2 (ix p0)) 0) else (if p1 = (1 : Int32) then ((T 2 (ix p0)) 2) else (if p1 = (2 : Int32) then (if ((T 2 (ix p0)) 2) ≤ 0 then (-1 : Int32) else ((T 2 (ix p0)) 3)) else (if p1 = (3 : Int32) then (if ((T 2 (ix p0)) 2) ≤ 0 then (0 : Int32) else ((T 2 (ix p0)) 4)) else (if p1 = (4 : Int32) then ((T 2 (ix p0)) 1) else (if p1 = (5 : Int32) then ((T 2 (ix p0)) 5) else (if p1 = (6 : Int32) then ((T 2 (ix p0)) 6) else ((T 2 (ix p0)) 9)))))))
set_option maxHeartbeats 4000000 in
set_option maxRecDepth 100000 in
theorem c_X6_ofTruck (l : Launch) (hst : l.stackTraces = false) (G : GG) (M : HM) (xa rx h2 h3 : Nat) (t h0 : Nat) (Y : LY) (N : Nat → Nat) (T : Tb) (tr now price money : Int32) (p0 p1 : Int32) (ho : M xa = some (rx, .inr (7, [.ref h0, .ref h2, .ref h3]))) (hrx : rx ≠ t) (hL : LdR G M t h0 Y N T tr now price money) : Xi l yX6_ofTruck (.code yX6_ofTruck cX6_ofTruck 4 (some .int) :: AL) 6 90 (xc (kc_X6_ofTruck N T tr now price money p0 p1)) (6 * xc (kc_X6_ofTruck N T tr now price money p0 p1)) [.ref xa, .int p0, .int p1] G M (fun r M' => kc_X6_ofTruck N T tr now price money p0 p1 = 0 ∧ r = (qv_X6_ofTruck N T tr now price money p0 p1) ∧ M' = M) (EX (kc_X6_ofTruck N T tr now price money p0 p1)) := by
  refine Xi.go (by decide) (Nat.le_of_ble_eq_true rfl) ?_
  intro p e s m below meth c ls hx hb hr hml hown hlocks ht hts hK hX hM hl
  have hown : s.vm.findClass RX6 = some m.cls := hown
  have hl : lv_has ls 4 [(0, .ref xa), (1, .int p0), (2, .int p1)] := hl
  have hN8 := hL.2.2.2.2.2.2.1
  have hn0 := hN8 0
  have hn1 := hN8 1
  have hn2 := hN8 2
  have hn3 := hN8 3
  have hn4 := hN8 4
  refine lv_aload_n hx hb dX6_ofTruck_0 rfl (lv_at hl 0 rfl) ?_
  refine fg_X6_12 hx hb hts hown hK hM ho dX6_ofTruck_1 ?_
  refine lv_iload_n hx hb dX6_ofTruck_4 rfl (lv_at hl 1 rfl) ?_
  rcases x1 : ixR (N 2) p0 with _ | j1
  · refine g_callVq (n9 := 1) (As := [.int p0]) (rest := []) hx hb hml hl.1 hown hts hK hM (c_X3_truckAt l G _ t h0 Y N _ tr now price money p0 hL) wm_X6_138 wi_X3_truckAt wl_X3_truckAt wn_X3 wc_X3_truckAt (by decide +kernel) (hM.recv hK (ci := 4) rfl hL.1) ⟨Nat.le_of_ble_eq_true rfl, Nat.le_of_ble_eq_true rfl⟩ ⟨Nat.zero_le _, Nat.zero_le _⟩ rfl (Nat.le_of_ble_eq_true rfl) rfl dX6_ofTruck_5 (fun r_5 Mz H locs hq hM => ?_)
    have hq1 := (hq.1.trans (atR_n (N := N) (k := 2) x1)).symm
    have hq2 := hq.2.symm
    subst hq1 hq2
    refine lv_astore_nN (lv' := [(3, .null), (0, .ref xa), (1, .int p0), (2, .int p1)]) hx hb dX6_ofTruck_8 rfl hl (by decide) rfl (fun ls hl => ?_)
    refine lv_aload_nN hx hb dX6_ofTruck_9 rfl (lv_at hl 0 rfl) ?_
    refine lv_ifnonnullN hx hb dX6_ofTruck_10 ?_
    exact g_thrI hx hb hst hts hown hX hM hml hl.1 hlocks ht (Or.inl ⟨(by unfold kc_X6_ofTruck; rw [if_pos x1]), rfl⟩) tx_142 dX6_ofTruck_13 dX6_ofTruck_16 dX6_ofTruck_17 dX6_ofTruck_19 dX6_ofTruck_22 ⟨Nat.le_of_ble_eq_true rfl, Nat.le_of_ble_eq_true rfl⟩ (Nat.le_of_ble_eq_true rfl) ⟨by show _ ≤ xc (kc_X6_ofTruck N T tr now price money p0 p1); rw [show kc_X6_ofTruck N T tr now price money p0 p1 = 1 from (by unfold kc_X6_ofTruck; rw [if_pos x1])]; decide, by show _ ≤ 6 * xc (kc_X6_ofTruck N T tr now price money p0 p1); rw [show kc_X6_ofTruck N T tr now price money p0 p1 = 1 from (by unfold kc_X6_ofTruck; rw [if_pos x1])]; decide⟩ ⟨by show _ ≤ xc (kc_X6_ofTruck N T tr now price money p0 p1); rw [show kc_X6_ofTruck N T tr now price money p0 p1 = 1 from (by unfold kc_X6_ofTruck; rw [if_pos x1])]; decide, by show _ ≤ 6 * xc (kc_X6_ofTruck N T tr now price money p0 p1); rw [show kc_X6_ofTruck N T tr now price money p0 p1 = 1 from (by unfold kc_X6_ofTruck; rw [if_pos x1])]; decide⟩
  · obtain rfl : j1 = (ix p0) := ixR_ix x1
    have lx1 : (ix p0) < N 2 := (ixR_lt (hL.2.2.2.2.2.2.1 2) x1).1
    have nx1 : ¬ ixR (N 2) p0 = none := by rw [x1]; exact fun z => nomatch z
    refine g_callVq (n9 := 1) (As := [.int p0]) (rest := []) hx hb hml hl.1 hown hts hK hM (c_X3_truckAt l G _ t h0 Y N _ tr now price money p0 hL) wm_X6_138 wi_X3_truckAt wl_X3_truckAt wn_X3 wc_X3_truckAt (by decide +kernel) (hM.recv hK (ci := 4) rfl hL.1) ⟨Nat.le_of_ble_eq_true rfl, Nat.le_of_ble_eq_true rfl⟩ ⟨Nat.zero_le _, Nat.zero_le _⟩ rfl (Nat.le_of_ble_eq_true rfl) rfl dX6_ofTruck_5 (fun r_5 Mz H locs hq hM => ?_)
    have hq1 := (hq.1.trans (atR_s (N := N) (k := 2) x1)).symm
    have hq2 := hq.2.symm
    subst hq1 hq2
    refine lv_astore_n (lv' := [(3, .ref (Y.2.2.2.2.2 2 (ix p0))), (0, .ref xa), (1, .int p0), (2, .int p1)]) hx hb dX6_ofTruck_8 rfl hl (by decide) rfl (fun ls hl => ?_)
    refine lv_aload_n hx hb dX6_ofTruck_9 rfl (lv_at hl 0 rfl) ?_
    refine lv_ifnonnull (tgt := 23) hx hb dX6_ofTruck_10 (by decide) ?_
    refine lv_iload_n hx hb dX6_ofTruck_23 rfl (lv_at hl 3 rfl) ?_
    refine lv_iconst (v := (0 : Int32)) hx hb dX6_ofTruck_24 (by decide) ?_
    refine lv_bipush (v := (7 : Int32)) hx hb dX6_ofTruck_25 (by decide) ?_
    refine g_callSi (n9 := 3) (As := [.int p1, .int (0 : Int32), .int (7 : Int32)]) (rest := []) hx hb hml hl.1 hown hts hK hM (c_X6_isOutside l G _ p1 (0 : Int32) (7 : Int32) ) wm_X6_30 wt_X6_isOutside wn_X6 wc_X6_isOutside (by decide +kernel) ⟨Nat.le_of_ble_eq_true rfl, Nat.le_of_ble_eq_true rfl⟩ ⟨Nat.le_of_ble_eq_true rfl, Nat.le_of_ble_eq_true rfl⟩ rfl (Nat.le_of_ble_eq_true rfl) rfl dX6_ofTruck_27 (fun r_27 M1 H locs hq hM => ?_)
    have hq1 := hq.1.symm
    have hq2 := hq.2.symm
    subst hq1 hq2
    refine lv_if_eq (tgt := 43) hx hb dX6_ofTruck_30 (by decide) (fun c2 => ?_) (fun c2 => ?_)
    · refine lv_iload_n hx hb dX6_ofTruck_43 rfl (lv_at hl 3 rfl) ?_
      by_cases z3 : p1 = (0 : Int32)
      · refine lv_tableIn (off := 44) (tgt := 88) hx hb dX6_ofTruck_44 (by rw [z3]; decide) (by rw [z3]; decide) (by rw [z3]; decide) (by decide) ?_
        refine lv_aload_n hx hb dX6_ofTruck_88 rfl (lv_at hl 0 rfl) ?_
        refine fg_X6_153 hx hb hts hown hK hM (hL.row (k := 2) (i := (ix p0)) (by decide) lx1) dX6_ofTruck_89 ?_
        refine vx_ret ?_
        exact g_iret hx hb hr hlocks hM (Nat.zero_le _) (Nat.zero_le _) ⟨(by unfold kc_X6_ofTruck; rw [if_neg nx1, if_pos c2]), (by unfold qv_X6_ofTruck; rw [if_pos z3]), rfl⟩ dX6_ofTruck_92
      by_cases z4 : p1 = (1 : Int32)
      · refine lv_tableIn (off := 49) (tgt := 93) hx hb dX6_ofTruck_44 (by rw [z4]; decide) (by rw [z4]; decide) (by rw [z4]; decide) (by decide) ?_
        refine lv_aload_n hx hb dX6_ofTruck_93 rfl (lv_at hl 0 rfl) ?_
        refine fg_X6_244 hx hb hts hown hK hM (hL.row (k := 2) (i := (ix p0)) (by decide) lx1) dX6_ofTruck_94 ?_
        refine vx_ret ?_
        exact g_iret hx hb hr hlocks hM (Nat.zero_le _) (Nat.zero_le _) ⟨(by unfold kc_X6_ofTruck; rw [if_neg nx1, if_pos c2]), (by unfold qv_X6_ofTruck; rw [if_neg z3, if_pos z4]), rfl⟩ dX6_ofTruck_97
      by_cases z5 : p1 = (2 : Int32)
      · refine lv_tableIn (off := 54) (tgt := 98) hx hb dX6_ofTruck_44 (by rw [z5]; decide) (by rw [z5]; decide) (by rw [z5]; decide) (by decide) ?_
        refine lv_aload_n hx hb dX6_ofTruck_98 rfl (lv_at hl 0 rfl) ?_
        refine fg_X6_244 hx hb hts hown hK hM (hL.row (k := 2) (i := (ix p0)) (by decide) lx1) dX6_ofTruck_99 ?_
        refine lv_if_le (tgt := 112) hx hb dX6_ofTruck_102 (by decide) (fun c6 => ?_) (fun c6 => ?_)
        · refine lv_iconst (v := (-1 : Int32)) hx hb dX6_ofTruck_112 (by decide) ?_
          refine vx_ret ?_
          exact g_iret hx hb hr hlocks hM (Nat.zero_le _) (Nat.zero_le _) ⟨(by unfold kc_X6_ofTruck; rw [if_neg nx1, if_pos c2]), (by unfold qv_X6_ofTruck; rw [if_neg z3, if_neg z4, if_pos z5, if_pos c6]), rfl⟩ dX6_ofTruck_113
        · refine lv_aload_n hx hb dX6_ofTruck_105 rfl (lv_at hl 0 rfl) ?_
          refine fg_X6_247 hx hb hts hown hK hM (hL.row (k := 2) (i := (ix p0)) (by decide) lx1) dX6_ofTruck_106 ?_
          refine lv_goto (tgt := 113) hx hb dX6_ofTruck_109 (by decide) ?_
          refine vx_ret ?_
          exact g_iret hx hb hr hlocks hM (Nat.zero_le _) (Nat.zero_le _) ⟨(by unfold kc_X6_ofTruck; rw [if_neg nx1, if_pos c2]), (by unfold qv_X6_ofTruck; rw [if_neg z3, if_neg z4, if_pos z5, if_neg c6]), rfl⟩ dX6_ofTruck_113
      by_cases z7 : p1 = (3 : Int32)
      · refine lv_tableIn (off := 70) (tgt := 114) hx hb dX6_ofTruck_44 (by rw [z7]; decide) (by rw [z7]; decide) (by rw [z7]; decide) (by decide) ?_
        refine lv_aload_n hx hb dX6_ofTruck_114 rfl (lv_at hl 0 rfl) ?_
        refine fg_X6_244 hx hb hts hown hK hM (hL.row (k := 2) (i := (ix p0)) (by decide) lx1) dX6_ofTruck_115 ?_
        refine lv_if_le (tgt := 128) hx hb dX6_ofTruck_118 (by decide) (fun c8 => ?_) (fun c8 => ?_)
        · refine lv_iconst (v := (0 : Int32)) hx hb dX6_ofTruck_128 (by decide) ?_
          refine vx_ret ?_
          exact g_iret hx hb hr hlocks hM (Nat.zero_le _) (Nat.zero_le _) ⟨(by unfold kc_X6_ofTruck; rw [if_neg nx1, if_pos c2]), (by unfold qv_X6_ofTruck; rw [if_neg z3, if_neg z4, if_neg z5, if_pos z7, if_pos c8]), rfl⟩ dX6_ofTruck_129
        · refine lv_aload_n hx hb dX6_ofTruck_121 rfl (lv_at hl 0 rfl) ?_
          refine fg_X6_250 hx hb hts hown hK hM (hL.row (k := 2) (i := (ix p0)) (by decide) lx1) dX6_ofTruck_122 ?_
          refine lv_goto (tgt := 129) hx hb dX6_ofTruck_125 (by decide) ?_
          refine vx_ret ?_
          exact g_iret hx hb hr hlocks hM (Nat.zero_le _) (Nat.zero_le _) ⟨(by unfold kc_X6_ofTruck; rw [if_neg nx1, if_pos c2]), (by unfold qv_X6_ofTruck; rw [if_neg z3, if_neg z4, if_neg z5, if_pos z7, if_neg c8]), rfl⟩ dX6_ofTruck_129
      by_cases z9 : p1 = (4 : Int32)
      · refine lv_tableIn (off := 86) (tgt := 130) hx hb dX6_ofTruck_44 (by rw [z9]; decide) (by rw [z9]; decide) (by rw [z9]; decide) (by decide) ?_
        refine lv_aload_n hx hb dX6_ofTruck_130 rfl (lv_at hl 0 rfl) ?_
        refine fg_X6_166 hx hb hts hown hK hM (hL.row (k := 2) (i := (ix p0)) (by decide) lx1) dX6_ofTruck_131 ?_
        refine vx_ret ?_
        exact g_iret hx hb hr hlocks hM (Nat.zero_le _) (Nat.zero_le _) ⟨(by unfold kc_X6_ofTruck; rw [if_neg nx1, if_pos c2]), (by unfold qv_X6_ofTruck; rw [if_neg z3, if_neg z4, if_neg z5, if_neg z7, if_pos z9]), rfl⟩ dX6_ofTruck_134
      by_cases z10 : p1 = (5 : Int32)
      · refine lv_tableIn (off := 91) (tgt := 135) hx hb dX6_ofTruck_44 (by rw [z10]; decide) (by rw [z10]; decide) (by rw [z10]; decide) (by decide) ?_
        refine lv_aload_n hx hb dX6_ofTruck_135 rfl (lv_at hl 0 rfl) ?_
        refine fg_X6_251 hx hb hts hown hK hM (hL.row (k := 2) (i := (ix p0)) (by decide) lx1) dX6_ofTruck_136 ?_
        refine vx_ret ?_
        exact g_iret hx hb hr hlocks hM (Nat.zero_le _) (Nat.zero_le _) ⟨(by unfold kc_X6_ofTruck; rw [if_neg nx1, if_pos c2]), (by unfold qv_X6_ofTruck; rw [if_neg z3, if_neg z4, if_neg z5, if_neg z7, if_neg z9, if_pos z10]), rfl⟩ dX6_ofTruck_139
      by_cases z11 : p1 = (6 : Int32)
      · refine lv_tableIn (off := 96) (tgt := 140) hx hb dX6_ofTruck_44 (by rw [z11]; decide) (by rw [z11]; decide) (by rw [z11]; decide) (by decide) ?_
        refine lv_aload_n hx hb dX6_ofTruck_140 rfl (lv_at hl 0 rfl) ?_
        refine fg_X6_254 hx hb hts hown hK hM (hL.row (k := 2) (i := (ix p0)) (by decide) lx1) dX6_ofTruck_141 ?_
        refine vx_ret ?_
        exact g_iret hx hb hr hlocks hM (Nat.zero_le _) (Nat.zero_le _) ⟨(by unfold kc_X6_ofTruck; rw [if_neg nx1, if_pos c2]), (by unfold qv_X6_ofTruck; rw [if_neg z3, if_neg z4, if_neg z5, if_neg z7, if_neg z9, if_neg z10, if_pos z11]), rfl⟩ dX6_ofTruck_144
      refine lv_tableOut (tgt := 145) hx hb dX6_ofTruck_44 (tab_out 6 (fun k hk => match k, hk with | 0, _ => z3 | 1, _ => z4 | 2, _ => z5 | 3, _ => z7 | 4, _ => z9 | 5, _ => z10 | 6, _ => z11 | k + 7, hk => absurd hk (by omega))) (by decide) ?_
      refine lv_aload_n hx hb dX6_ofTruck_145 rfl (lv_at hl 0 rfl) ?_
      refine fg_X6_257 hx hb hts hown hK hM (hL.row (k := 2) (i := (ix p0)) (by decide) lx1) dX6_ofTruck_146 ?_
      refine vx_ret ?_
      exact g_iret hx hb hr hlocks hM (Nat.zero_le _) (Nat.zero_le _) ⟨(by unfold kc_X6_ofTruck; rw [if_neg nx1, if_pos c2]), (by unfold qv_X6_ofTruck; rw [if_neg z3, if_neg z4, if_neg z5, if_neg z7, if_neg z9, if_neg z10, if_neg z11]), rfl⟩ dX6_ofTruck_149
    · exact g_thrA hx hb hst hts hown hX hM hml hl.1 hlocks ht (Or.inr (Or.inl ⟨(by unfold kc_X6_ofTruck; rw [if_neg nx1, if_neg c2]), rfl⟩)) tx_207 dX6_ofTruck_33 dX6_ofTruck_36 dX6_ofTruck_37 dX6_ofTruck_39 dX6_ofTruck_42 ⟨Nat.le_of_ble_eq_true rfl, Nat.le_of_ble_eq_true rfl⟩ (Nat.le_of_ble_eq_true rfl) ⟨by show _ ≤ xc (kc_X6_ofTruck N T tr now price money p0 p1); rw [show kc_X6_ofTruck N T tr now price money p0 p1 = 2 from (by unfold kc_X6_ofTruck; rw [if_neg nx1, if_neg c2])]; decide, by show _ ≤ 6 * xc (kc_X6_ofTruck N T tr now price money p0 p1); rw [show kc_X6_ofTruck N T tr now price money p0 p1 = 2 from (by unfold kc_X6_ofTruck; rw [if_neg nx1, if_neg c2])]; decide⟩ ⟨by show _ ≤ xc (kc_X6_ofTruck N T tr now price money p0 p1); rw [show kc_X6_ofTruck N T tr now price money p0 p1 = 2 from (by unfold kc_X6_ofTruck; rw [if_neg nx1, if_neg c2])]; decide, by show _ ≤ 6 * xc (kc_X6_ofTruck N T tr now price money p0 p1); rw [show kc_X6_ofTruck N T tr now price money p0 p1 = 2 from (by unfold kc_X6_ofTruck; rw [if_neg nx1, if_neg c2])]; decide⟩
def kc_X6_ofTicket (N : Nat → Nat) (T : Tb) (tr now price money : Int32) (p0 p1 : Int32) : Nat := if ixR (N 4) p0 = none then 1 else (if (t_X6_isOutside_0 p1 (0 : Int32) (6 : Int32)) = 0 then 0 else 2)
def qv_X6_ofTicket (N : Nat → Nat) (T : Tb) (tr now price money : Int32) (p0 p1 : Int32) : Int32 := if p1 = (0 : Int32) then ((T 4 (ix p0)) 0) else (if p1 = (1 : Int32) then ((T 4 (ix p0)) 1) else (if p1 = (2 : Int32) then ((T 4 (ix p0)) 2) else (if p1 = (3 : Int32) then ((T 4 (ix p0)) 3) else (if p1 = (4 : Int32) then ((T 4 (ix p0)) 4) else (if p1 = (5 : Int32) then ((T 4 (ix p0)) 5) else ((T 4 (ix p0)) 6))))))
set_option maxHeartbeats 4000000 in
set_option maxRecDepth 100000 in
theorem c_X6_ofTicket (l : Launch) (hst : l.stackTraces = false) (G : GG) (M : HM) (xa rx h2 h3 : Nat) (t h0 : Nat) (Y : LY) (N : Nat → Nat) (T : Tb) (tr now price money : Int32) (p0 p1 : Int32) (ho : M xa = some (rx, .inr (7, [.ref h0, .ref h2, .ref h3]))) (hrx : rx ≠ t) (hL : LdR G M t h0 Y N T tr now price money) : Xi l yX6_ofTicket (.code yX6_ofTicket cX6_ofTicket 4 (some .int) :: AL) 6 90 (xc (kc_X6_ofTicket N T tr now price money p0 p1)) (6 * xc (kc_X6_ofTicket N T tr now price money p0 p1)) [.ref xa, .int p0, .int p1] G M (fun r M' => kc_X6_ofTicket N T tr now price money p0 p1 = 0 ∧ r = (qv_X6_ofTicket N T tr now price money p0 p1) ∧ M' = M) (EX (kc_X6_ofTicket N T tr now price money p0 p1)) := by
  refine Xi.go (by decide) (Nat.le_of_ble_eq_true rfl) ?_
  intro p e s m below meth c ls hx hb hr hml hown hlocks ht hts hK hX hM hl
  have hown : s.vm.findClass RX6 = some m.cls := hown
  have hl : lv_has ls 4 [(0, .ref xa), (1, .int p0), (2, .int p1)] := hl
  have hN8 := hL.2.2.2.2.2.2.1
  have hn0 := hN8 0
  have hn1 := hN8 1
  have hn2 := hN8 2
  have hn3 := hN8 3
  have hn4 := hN8 4
  refine lv_aload_n hx hb dX6_ofTicket_0 rfl (lv_at hl 0 rfl) ?_
  refine fg_X6_12 hx hb hts hown hK hM ho dX6_ofTicket_1 ?_
  refine lv_iload_n hx hb dX6_ofTicket_4 rfl (lv_at hl 1 rfl) ?_
  rcases x1 : ixR (N 4) p0 with _ | j1
  · refine g_callVq (n9 := 1) (As := [.int p0]) (rest := []) hx hb hml hl.1 hown hts hK hM (c_X3_ticketAt l G _ t h0 Y N _ tr now price money p0 hL) wm_X6_260 wi_X3_ticketAt wl_X3_ticketAt wn_X3 wc_X3_ticketAt (by decide +kernel) (hM.recv hK (ci := 4) rfl hL.1) ⟨Nat.le_of_ble_eq_true rfl, Nat.le_of_ble_eq_true rfl⟩ ⟨Nat.zero_le _, Nat.zero_le _⟩ rfl (Nat.le_of_ble_eq_true rfl) rfl dX6_ofTicket_5 (fun r_5 Mz H locs hq hM => ?_)
    have hq1 := (hq.1.trans (atR_n (N := N) (k := 4) x1)).symm
    have hq2 := hq.2.symm
    subst hq1 hq2
    refine lv_astore_nN (lv' := [(3, .null), (0, .ref xa), (1, .int p0), (2, .int p1)]) hx hb dX6_ofTicket_8 rfl hl (by decide) rfl (fun ls hl => ?_)
    refine lv_aload_nN hx hb dX6_ofTicket_9 rfl (lv_at hl 0 rfl) ?_
    refine lv_ifnonnullN hx hb dX6_ofTicket_10 ?_
    exact g_thrIW hx hb hst hts hown hX hM hml hl.1 hlocks ht (Or.inl ⟨(by unfold kc_X6_ofTicket; rw [if_pos x1]), rfl⟩) tx_264 dX6_ofTicket_13 dX6_ofTicket_16 dX6_ofTicket_17 dX6_ofTicket_20 dX6_ofTicket_23 ⟨Nat.le_of_ble_eq_true rfl, Nat.le_of_ble_eq_true rfl⟩ (Nat.le_of_ble_eq_true rfl) ⟨by show _ ≤ xc (kc_X6_ofTicket N T tr now price money p0 p1); rw [show kc_X6_ofTicket N T tr now price money p0 p1 = 1 from (by unfold kc_X6_ofTicket; rw [if_pos x1])]; decide, by show _ ≤ 6 * xc (kc_X6_ofTicket N T tr now price money p0 p1); rw [show kc_X6_ofTicket N T tr now price money p0 p1 = 1 from (by unfold kc_X6_ofTicket; rw [if_pos x1])]; decide⟩ ⟨by show _ ≤ xc (kc_X6_ofTicket N T tr now price money p0 p1); rw [show kc_X6_ofTicket N T tr now price money p0 p1 = 1 from (by unfold kc_X6_ofTicket; rw [if_pos x1])]; decide, by show _ ≤ 6 * xc (kc_X6_ofTicket N T tr now price money p0 p1); rw [show kc_X6_ofTicket N T tr now price money p0 p1 = 1 from (by unfold kc_X6_ofTicket; rw [if_pos x1])]; decide⟩
  · obtain rfl : j1 = (ix p0) := ixR_ix x1
    have lx1 : (ix p0) < N 4 := (ixR_lt (hL.2.2.2.2.2.2.1 4) x1).1
    have nx1 : ¬ ixR (N 4) p0 = none := by rw [x1]; exact fun z => nomatch z
    refine g_callVq (n9 := 1) (As := [.int p0]) (rest := []) hx hb hml hl.1 hown hts hK hM (c_X3_ticketAt l G _ t h0 Y N _ tr now price money p0 hL) wm_X6_260 wi_X3_ticketAt wl_X3_ticketAt wn_X3 wc_X3_ticketAt (by decide +kernel) (hM.recv hK (ci := 4) rfl hL.1) ⟨Nat.le_of_ble_eq_true rfl, Nat.le_of_ble_eq_true rfl⟩ ⟨Nat.zero_le _, Nat.zero_le _⟩ rfl (Nat.le_of_ble_eq_true rfl) rfl dX6_ofTicket_5 (fun r_5 Mz H locs hq hM => ?_)
    have hq1 := (hq.1.trans (atR_s (N := N) (k := 4) x1)).symm
    have hq2 := hq.2.symm
    subst hq1 hq2
    refine lv_astore_n (lv' := [(3, .ref (Y.2.2.2.2.2 4 (ix p0))), (0, .ref xa), (1, .int p0), (2, .int p1)]) hx hb dX6_ofTicket_8 rfl hl (by decide) rfl (fun ls hl => ?_)
    refine lv_aload_n hx hb dX6_ofTicket_9 rfl (lv_at hl 0 rfl) ?_
    refine lv_ifnonnull (tgt := 24) hx hb dX6_ofTicket_10 (by decide) ?_
    refine lv_iload_n hx hb dX6_ofTicket_24 rfl (lv_at hl 3 rfl) ?_
    refine lv_iconst (v := (0 : Int32)) hx hb dX6_ofTicket_25 (by decide) ?_
    refine lv_bipush (v := (6 : Int32)) hx hb dX6_ofTicket_26 (by decide) ?_
    refine g_callSi (n9 := 3) (As := [.int p1, .int (0 : Int32), .int (6 : Int32)]) (rest := []) hx hb hml hl.1 hown hts hK hM (c_X6_isOutside l G _ p1 (0 : Int32) (6 : Int32) ) wm_X6_30 wt_X6_isOutside wn_X6 wc_X6_isOutside (by decide +kernel) ⟨Nat.le_of_ble_eq_true rfl, Nat.le_of_ble_eq_true rfl⟩ ⟨Nat.le_of_ble_eq_true rfl, Nat.le_of_ble_eq_true rfl⟩ rfl (Nat.le_of_ble_eq_true rfl) rfl dX6_ofTicket_28 (fun r_28 M1 H locs hq hM => ?_)
    have hq1 := hq.1.symm
    have hq2 := hq.2.symm
    subst hq1 hq2
    refine lv_if_eq (tgt := 44) hx hb dX6_ofTicket_31 (by decide) (fun c2 => ?_) (fun c2 => ?_)
    · refine lv_iload_n hx hb dX6_ofTicket_44 rfl (lv_at hl 3 rfl) ?_
      by_cases z3 : p1 = (0 : Int32)
      · refine lv_tableIn (off := 39) (tgt := 84) hx hb dX6_ofTicket_45 (by rw [z3]; decide) (by rw [z3]; decide) (by rw [z3]; decide) (by decide) ?_
        refine lv_aload_n hx hb dX6_ofTicket_84 rfl (lv_at hl 0 rfl) ?_
        refine fg_X6_266 hx hb hts hown hK hM (hL.row (k := 4) (i := (ix p0)) (by decide) lx1) dX6_ofTicket_85 ?_
        refine vx_ret ?_
        exact g_iret hx hb hr hlocks hM (Nat.zero_le _) (Nat.zero_le _) ⟨(by unfold kc_X6_ofTicket; rw [if_neg nx1, if_pos c2]), (by unfold qv_X6_ofTicket; rw [if_pos z3]), rfl⟩ dX6_ofTicket_88
      by_cases z4 : p1 = (1 : Int32)
      · refine lv_tableIn (off := 44) (tgt := 89) hx hb dX6_ofTicket_45 (by rw [z4]; decide) (by rw [z4]; decide) (by rw [z4]; decide) (by decide) ?_
        refine lv_aload_n hx hb dX6_ofTicket_89 rfl (lv_at hl 0 rfl) ?_
        refine fg_X6_271 hx hb hts hown hK hM (hL.row (k := 4) (i := (ix p0)) (by decide) lx1) dX6_ofTicket_90 ?_
        refine vx_ret ?_
        exact g_iret hx hb hr hlocks hM (Nat.zero_le _) (Nat.zero_le _) ⟨(by unfold kc_X6_ofTicket; rw [if_neg nx1, if_pos c2]), (by unfold qv_X6_ofTicket; rw [if_neg z3, if_pos z4]), rfl⟩ dX6_ofTicket_93
      by_cases z5 : p1 = (2 : Int32)
      · refine lv_tableIn (off := 49) (tgt := 94) hx hb dX6_ofTicket_45 (by rw [z5]; decide) (by rw [z5]; decide) (by rw [z5]; decide) (by decide) ?_
        refine lv_aload_n hx hb dX6_ofTicket_94 rfl (lv_at hl 0 rfl) ?_
        refine fg_X6_274 hx hb hts hown hK hM (hL.row (k := 4) (i := (ix p0)) (by decide) lx1) dX6_ofTicket_95 ?_
        refine vx_ret ?_
        exact g_iret hx hb hr hlocks hM (Nat.zero_le _) (Nat.zero_le _) ⟨(by unfold kc_X6_ofTicket; rw [if_neg nx1, if_pos c2]), (by unfold qv_X6_ofTicket; rw [if_neg z3, if_neg z4, if_pos z5]), rfl⟩ dX6_ofTicket_98
      by_cases z6 : p1 = (3 : Int32)
      · refine lv_tableIn (off := 54) (tgt := 99) hx hb dX6_ofTicket_45 (by rw [z6]; decide) (by rw [z6]; decide) (by rw [z6]; decide) (by decide) ?_
        refine lv_aload_n hx hb dX6_ofTicket_99 rfl (lv_at hl 0 rfl) ?_
        refine fg_X6_275 hx hb hts hown hK hM (hL.row (k := 4) (i := (ix p0)) (by decide) lx1) dX6_ofTicket_100 ?_
        refine vx_ret ?_
        exact g_iret hx hb hr hlocks hM (Nat.zero_le _) (Nat.zero_le _) ⟨(by unfold kc_X6_ofTicket; rw [if_neg nx1, if_pos c2]), (by unfold qv_X6_ofTicket; rw [if_neg z3, if_neg z4, if_neg z5, if_pos z6]), rfl⟩ dX6_ofTicket_103
      by_cases z7 : p1 = (4 : Int32)
      · refine lv_tableIn (off := 59) (tgt := 104) hx hb dX6_ofTicket_45 (by rw [z7]; decide) (by rw [z7]; decide) (by rw [z7]; decide) (by decide) ?_
        refine lv_aload_n hx hb dX6_ofTicket_104 rfl (lv_at hl 0 rfl) ?_
        refine fg_X6_278 hx hb hts hown hK hM (hL.row (k := 4) (i := (ix p0)) (by decide) lx1) dX6_ofTicket_105 ?_
        refine vx_ret ?_
        exact g_iret hx hb hr hlocks hM (Nat.zero_le _) (Nat.zero_le _) ⟨(by unfold kc_X6_ofTicket; rw [if_neg nx1, if_pos c2]), (by unfold qv_X6_ofTicket; rw [if_neg z3, if_neg z4, if_neg z5, if_neg z6, if_pos z7]), rfl⟩ dX6_ofTicket_108
      by_cases z8 : p1 = (5 : Int32)
      · refine lv_tableIn (off := 64) (tgt := 109) hx hb dX6_ofTicket_45 (by rw [z8]; decide) (by rw [z8]; decide) (by rw [z8]; decide) (by decide) ?_
        refine lv_aload_n hx hb dX6_ofTicket_109 rfl (lv_at hl 0 rfl) ?_
        refine fg_X6_281 hx hb hts hown hK hM (hL.row (k := 4) (i := (ix p0)) (by decide) lx1) dX6_ofTicket_110 ?_
        refine vx_ret ?_
        exact g_iret hx hb hr hlocks hM (Nat.zero_le _) (Nat.zero_le _) ⟨(by unfold kc_X6_ofTicket; rw [if_neg nx1, if_pos c2]), (by unfold qv_X6_ofTicket; rw [if_neg z3, if_neg z4, if_neg z5, if_neg z6, if_neg z7, if_pos z8]), rfl⟩ dX6_ofTicket_113
      refine lv_tableOut (tgt := 114) hx hb dX6_ofTicket_45 (tab_out 5 (fun k hk => match k, hk with | 0, _ => z3 | 1, _ => z4 | 2, _ => z5 | 3, _ => z6 | 4, _ => z7 | 5, _ => z8 | k + 6, hk => absurd hk (by omega))) (by decide) ?_
      refine lv_aload_n hx hb dX6_ofTicket_114 rfl (lv_at hl 0 rfl) ?_
      refine fg_X6_284 hx hb hts hown hK hM (hL.row (k := 4) (i := (ix p0)) (by decide) lx1) dX6_ofTicket_115 ?_
      refine vx_ret ?_
      exact g_iret hx hb hr hlocks hM (Nat.zero_le _) (Nat.zero_le _) ⟨(by unfold kc_X6_ofTicket; rw [if_neg nx1, if_pos c2]), (by unfold qv_X6_ofTicket; rw [if_neg z3, if_neg z4, if_neg z5, if_neg z6, if_neg z7, if_neg z8]), rfl⟩ dX6_ofTicket_118
    · exact g_thrA hx hb hst hts hown hX hM hml hl.1 hlocks ht (Or.inr (Or.inl ⟨(by unfold kc_X6_ofTicket; rw [if_neg nx1, if_neg c2]), rfl⟩)) tx_207 dX6_ofTicket_34 dX6_ofTicket_37 dX6_ofTicket_38 dX6_ofTicket_40 dX6_ofTicket_43 ⟨Nat.le_of_ble_eq_true rfl, Nat.le_of_ble_eq_true rfl⟩ (Nat.le_of_ble_eq_true rfl) ⟨by show _ ≤ xc (kc_X6_ofTicket N T tr now price money p0 p1); rw [show kc_X6_ofTicket N T tr now price money p0 p1 = 2 from (by unfold kc_X6_ofTicket; rw [if_neg nx1, if_neg c2])]; decide, by show _ ≤ 6 * xc (kc_X6_ofTicket N T tr now price money p0 p1); rw [show kc_X6_ofTicket N T tr now price money p0 p1 = 2 from (by unfold kc_X6_ofTicket; rw [if_neg nx1, if_neg c2])]; decide⟩ ⟨by show _ ≤ xc (kc_X6_ofTicket N T tr now price money p0 p1); rw [show kc_X6_ofTicket N T tr now price money p0 p1 = 2 from (by unfold kc_X6_ofTicket; rw [if_neg nx1, if_neg c2])]; decide, by show _ ≤ 6 * xc (kc_X6_ofTicket N T tr now price money p0 p1); rw [show kc_X6_ofTicket N T tr now price money p0 p1 = 2 from (by unfold kc_X6_ofTicket; rw [if_neg nx1, if_neg c2])]; decide⟩
def kc_X6_many (N : Nat → Nat) (T : Tb) (tr now price money : Int32) (p0 : Int32) : Nat := if (t_X6_isOutside_0 p0 (0 : Int32) (12 : Int32)) = 0 then 0 else 2
def qv_X6_many (N : Nat → Nat) (T : Tb) (tr now price money : Int32) (p0 : Int32) : Int32 := if p0 = (0 : Int32) then now else (if p0 = (1 : Int32) then (nI (N 0)) else (if p0 = (2 : Int32) then (sa 0 (fun j => t_X2_uncut_0 (T 0 j 2) (T 0 j 5)) (N 0)) else (if p0 = (3 : Int32) then (nI (N 1)) else (if p0 = (4 : Int32) then (sa 0 (fun j => if T 1 j 7 = 0 then 0 else 1) (N 1)) else (if p0 = (5 : Int32) then (nI (N 2)) else (if p0 = (6 : Int32) then (nI (N 3)) else (if p0 = (7 : Int32) then (nI (N 4)) else (if p0 = (8 : Int32) then money else (if p0 = (9 : Int32) then (sa 0 (fun j => T 3 j 1) (N 3)) else (if p0 = (10 : Int32) then (sa (sa 0 (fun j => T 1 j 3) (N 1)) (fun j => T 2 j 2) (N 2)) else (if p0 = (11 : Int32) then (sa 0 (fun j => T 1 j 8) (N 1)) else (sa 0 (fun j => T 2 j 6) (N 2)))))))))))))
set_option maxHeartbeats 4000000 in
set_option maxRecDepth 100000 in
theorem c_X6_many (l : Launch) (hst : l.stackTraces = false) (G : GG) (M : HM) (xa rx h2 h3 : Nat) (t h0 : Nat) (Y : LY) (N : Nat → Nat) (T : Tb) (tr now price money : Int32) (p0 : Int32) (ho : M xa = some (rx, .inr (7, [.ref h0, .ref h2, .ref h3]))) (hrx : rx ≠ t) (hL : LdR G M t h0 Y N T tr now price money) : Xi l yX6_many (.code yX6_many cX6_many 2 (some .int) :: AL) 6 90 (xc (kc_X6_many N T tr now price money p0)) (6 * xc (kc_X6_many N T tr now price money p0)) [.ref xa, .int p0] G M (fun r M' => kc_X6_many N T tr now price money p0 = 0 ∧ r = (qv_X6_many N T tr now price money p0) ∧ M' = M) (EX (kc_X6_many N T tr now price money p0)) := by
  refine Xi.go (by decide) (Nat.le_of_ble_eq_true rfl) ?_
  intro p e s m below meth c ls hx hb hr hml hown hlocks ht hts hK hX hM hl
  have hown : s.vm.findClass RX6 = some m.cls := hown
  have hl : lv_has ls 2 [(0, .ref xa), (1, .int p0)] := hl
  have hN8 := hL.2.2.2.2.2.2.1
  have hn0 := hN8 0
  have hn1 := hN8 1
  have hn2 := hN8 2
  have hn3 := hN8 3
  have hn4 := hN8 4
  refine lv_iload_n hx hb dX6_many_0 rfl (lv_at hl 1 rfl) ?_
  refine lv_iconst (v := (0 : Int32)) hx hb dX6_many_1 (by decide) ?_
  refine lv_bipush (v := (12 : Int32)) hx hb dX6_many_2 (by decide) ?_
  refine g_callSi (n9 := 3) (As := [.int p0, .int (0 : Int32), .int (12 : Int32)]) (rest := []) hx hb hml hl.1 hown hts hK hM (c_X6_isOutside l G _ p0 (0 : Int32) (12 : Int32) ) wm_X6_30 wt_X6_isOutside wn_X6 wc_X6_isOutside (by decide +kernel) ⟨Nat.le_of_ble_eq_true rfl, Nat.le_of_ble_eq_true rfl⟩ ⟨Nat.le_of_ble_eq_true rfl, Nat.le_of_ble_eq_true rfl⟩ rfl (Nat.le_of_ble_eq_true rfl) rfl dX6_many_4 (fun r_4 M1 H locs hq hM => ?_)
  have hq1 := hq.1.symm
  have hq2 := hq.2.symm
  subst hq1 hq2
  refine lv_if_eq (tgt := 20) hx hb dX6_many_7 (by decide) (fun c1 => ?_) (fun c1 => ?_)
  · refine lv_iload_n hx hb dX6_many_20 rfl (lv_at hl 1 rfl) ?_
    by_cases z2 : p0 = (0 : Int32)
    · refine lv_tableIn (off := 63) (tgt := 84) hx hb dX6_many_21 (by rw [z2]; decide) (by rw [z2]; decide) (by rw [z2]; decide) (by decide) ?_
      refine lv_aload_n hx hb dX6_many_84 rfl (lv_at hl 0 rfl) ?_
      refine fg_X6_12 hx hb hts hown hK hM ho dX6_many_85 ?_
      refine fg_X6_196 hx hb hts hown hK hM hL.1 dX6_many_88 ?_
      refine vx_ret ?_
      exact g_iret hx hb hr hlocks hM (Nat.zero_le _) (Nat.zero_le _) ⟨(by unfold kc_X6_many; rw [if_pos c1]), (by unfold qv_X6_many; rw [if_pos z2]), rfl⟩ dX6_many_91
    by_cases z3 : p0 = (1 : Int32)
    · refine lv_tableIn (off := 71) (tgt := 92) hx hb dX6_many_21 (by rw [z3]; decide) (by rw [z3]; decide) (by rw [z3]; decide) (by decide) ?_
      refine lv_aload_n hx hb dX6_many_92 rfl (lv_at hl 0 rfl) ?_
      refine fg_X6_12 hx hb hts hown hK hM ho dX6_many_93 ?_
      refine fg_X6_46 hx hb hts hown hK hM hL.1 dX6_many_96 ?_
      refine g_callVi (n9 := 0) (As := []) (rest := []) hx hb hml hl.1 hown hts hK hM (c_Jx4a65c_size_8abf5 l G _ (Y.1 0) t _ _ _ ((hL.2.1 0 (by decide)).1)) wm_X6_50 wi_Jx4a65c_size_8abf5 wl_Jx4a65c_size_8abf5 wn_Jx4a65c wc_Jx4a65c_size_8abf5 (by decide +kernel) (hM.recv hK (ci := 0) rfl ((hL.2.1 0 (by decide)).1)) ⟨Nat.le_of_ble_eq_true rfl, Nat.le_of_ble_eq_true rfl⟩ ⟨Nat.zero_le _, Nat.zero_le _⟩ rfl (Nat.le_of_ble_eq_true rfl) rfl dX6_many_99 (fun r_99 Mz H locs hq hM => ?_)
      have hq1 := hq.1.symm
      have hq2 := hq.2.symm
      subst hq1 hq2
      refine vx_ret ?_
      exact g_iret hx hb hr hlocks hM (Nat.zero_le _) (Nat.zero_le _) ⟨(by unfold kc_X6_many; rw [if_pos c1]), (by unfold qv_X6_many; rw [if_neg z2, if_pos z3]), rfl⟩ dX6_many_102
    by_cases z4 : p0 = (2 : Int32)
    · refine lv_tableIn (off := 82) (tgt := 103) hx hb dX6_many_21 (by rw [z4]; decide) (by rw [z4]; decide) (by rw [z4]; decide) (by decide) ?_
      refine lv_aload_n hx hb dX6_many_103 rfl (lv_at hl 0 rfl) ?_
      refine fg_X6_12 hx hb hts hown hK hM ho dX6_many_104 ?_
      refine g_callVi (n9 := 0) (As := []) (rest := []) hx hb hml hl.1 hown hts hK hM (c_X3_uncutAcres l G _ t h0 Y N _ tr now price money  hL) wm_X6_297 wi_X3_uncutAcres wl_X3_uncutAcres wn_X3 wc_X3_uncutAcres (by decide +kernel) (hM.recv hK (ci := 4) rfl hL.1) ⟨Nat.le_of_ble_eq_true rfl, Nat.le_of_ble_eq_true rfl⟩ ⟨Nat.zero_le _, Nat.zero_le _⟩ rfl (Nat.le_of_ble_eq_true rfl) rfl dX6_many_107 (fun r_107 Mz H locs hq hM => ?_)
      have hq1 := hq.1.symm
      have hq2 := hq.2.symm
      subst hq1 hq2
      refine vx_ret ?_
      exact g_iret hx hb hr hlocks hM (Nat.zero_le _) (Nat.zero_le _) ⟨(by unfold kc_X6_many; rw [if_pos c1]), (by unfold qv_X6_many; rw [if_neg z2, if_neg z3, if_pos z4]), rfl⟩ dX6_many_110
    by_cases z5 : p0 = (3 : Int32)
    · refine lv_tableIn (off := 90) (tgt := 111) hx hb dX6_many_21 (by rw [z5]; decide) (by rw [z5]; decide) (by rw [z5]; decide) (by decide) ?_
      refine lv_aload_n hx hb dX6_many_111 rfl (lv_at hl 0 rfl) ?_
      refine fg_X6_12 hx hb hts hown hK hM ho dX6_many_112 ?_
      refine fg_X6_82 hx hb hts hown hK hM hL.1 dX6_many_115 ?_
      refine g_callVi (n9 := 0) (As := []) (rest := []) hx hb hml hl.1 hown hts hK hM (c_Jx4a65c_size_8abf5 l G _ (Y.1 1) t _ _ _ ((hL.2.1 1 (by decide)).1)) wm_X6_50 wi_Jx4a65c_size_8abf5 wl_Jx4a65c_size_8abf5 wn_Jx4a65c wc_Jx4a65c_size_8abf5 (by decide +kernel) (hM.recv hK (ci := 0) rfl ((hL.2.1 1 (by decide)).1)) ⟨Nat.le_of_ble_eq_true rfl, Nat.le_of_ble_eq_true rfl⟩ ⟨Nat.zero_le _, Nat.zero_le _⟩ rfl (Nat.le_of_ble_eq_true rfl) rfl dX6_many_118 (fun r_118 Mz H locs hq hM => ?_)
      have hq1 := hq.1.symm
      have hq2 := hq.2.symm
      subst hq1 hq2
      refine vx_ret ?_
      exact g_iret hx hb hr hlocks hM (Nat.zero_le _) (Nat.zero_le _) ⟨(by unfold kc_X6_many; rw [if_pos c1]), (by unfold qv_X6_many; rw [if_neg z2, if_neg z3, if_neg z4, if_pos z5]), rfl⟩ dX6_many_121
    by_cases z6 : p0 = (4 : Int32)
    · refine lv_tableIn (off := 101) (tgt := 122) hx hb dX6_many_21 (by rw [z6]; decide) (by rw [z6]; decide) (by rw [z6]; decide) (by decide) ?_
      refine lv_aload_n hx hb dX6_many_122 rfl (lv_at hl 0 rfl) ?_
      refine fg_X6_12 hx hb hts hown hK hM ho dX6_many_123 ?_
      refine g_callVi (n9 := 0) (As := []) (rest := []) hx hb hml hl.1 hown hts hK hM (c_X3_brokenCombines l G _ t h0 Y N _ tr now price money  hL) wm_X6_300 wi_X3_brokenCombines wl_X3_brokenCombines wn_X3 wc_X3_brokenCombines (by decide +kernel) (hM.recv hK (ci := 4) rfl hL.1) ⟨Nat.le_of_ble_eq_true rfl, Nat.le_of_ble_eq_true rfl⟩ ⟨Nat.zero_le _, Nat.zero_le _⟩ rfl (Nat.le_of_ble_eq_true rfl) rfl dX6_many_126 (fun r_126 Mz H locs hq hM => ?_)
      have hq1 := hq.1.symm
      have hq2 := hq.2.symm
      subst hq1 hq2
      refine vx_ret ?_
      exact g_iret hx hb hr hlocks hM (Nat.zero_le _) (Nat.zero_le _) ⟨(by unfold kc_X6_many; rw [if_pos c1]), (by unfold qv_X6_many; rw [if_neg z2, if_neg z3, if_neg z4, if_neg z5, if_pos z6]), rfl⟩ dX6_many_129
    by_cases z7 : p0 = (5 : Int32)
    · refine lv_tableIn (off := 109) (tgt := 130) hx hb dX6_many_21 (by rw [z7]; decide) (by rw [z7]; decide) (by rw [z7]; decide) (by decide) ?_
      refine lv_aload_n hx hb dX6_many_130 rfl (lv_at hl 0 rfl) ?_
      refine fg_X6_12 hx hb hts hown hK hM ho dX6_many_131 ?_
      refine fg_X6_94 hx hb hts hown hK hM hL.1 dX6_many_134 ?_
      refine g_callVi (n9 := 0) (As := []) (rest := []) hx hb hml hl.1 hown hts hK hM (c_Jx4a65c_size_8abf5 l G _ (Y.1 2) t _ _ _ ((hL.2.1 2 (by decide)).1)) wm_X6_50 wi_Jx4a65c_size_8abf5 wl_Jx4a65c_size_8abf5 wn_Jx4a65c wc_Jx4a65c_size_8abf5 (by decide +kernel) (hM.recv hK (ci := 0) rfl ((hL.2.1 2 (by decide)).1)) ⟨Nat.le_of_ble_eq_true rfl, Nat.le_of_ble_eq_true rfl⟩ ⟨Nat.zero_le _, Nat.zero_le _⟩ rfl (Nat.le_of_ble_eq_true rfl) rfl dX6_many_137 (fun r_137 Mz H locs hq hM => ?_)
      have hq1 := hq.1.symm
      have hq2 := hq.2.symm
      subst hq1 hq2
      refine vx_ret ?_
      exact g_iret hx hb hr hlocks hM (Nat.zero_le _) (Nat.zero_le _) ⟨(by unfold kc_X6_many; rw [if_pos c1]), (by unfold qv_X6_many; rw [if_neg z2, if_neg z3, if_neg z4, if_neg z5, if_neg z6, if_pos z7]), rfl⟩ dX6_many_140
    by_cases z8 : p0 = (6 : Int32)
    · refine lv_tableIn (off := 120) (tgt := 141) hx hb dX6_many_21 (by rw [z8]; decide) (by rw [z8]; decide) (by rw [z8]; decide) (by decide) ?_
      refine lv_aload_n hx hb dX6_many_141 rfl (lv_at hl 0 rfl) ?_
      refine fg_X6_12 hx hb hts hown hK hM ho dX6_many_142 ?_
      refine fg_X6_110 hx hb hts hown hK hM hL.1 dX6_many_145 ?_
      refine g_callVi (n9 := 0) (As := []) (rest := []) hx hb hml hl.1 hown hts hK hM (c_Jx4a65c_size_8abf5 l G _ (Y.1 3) t _ _ _ ((hL.2.1 3 (by decide)).1)) wm_X6_50 wi_Jx4a65c_size_8abf5 wl_Jx4a65c_size_8abf5 wn_Jx4a65c wc_Jx4a65c_size_8abf5 (by decide +kernel) (hM.recv hK (ci := 0) rfl ((hL.2.1 3 (by decide)).1)) ⟨Nat.le_of_ble_eq_true rfl, Nat.le_of_ble_eq_true rfl⟩ ⟨Nat.zero_le _, Nat.zero_le _⟩ rfl (Nat.le_of_ble_eq_true rfl) rfl dX6_many_148 (fun r_148 Mz H locs hq hM => ?_)
      have hq1 := hq.1.symm
      have hq2 := hq.2.symm
      subst hq1 hq2
      refine vx_ret ?_
      exact g_iret hx hb hr hlocks hM (Nat.zero_le _) (Nat.zero_le _) ⟨(by unfold kc_X6_many; rw [if_pos c1]), (by unfold qv_X6_many; rw [if_neg z2, if_neg z3, if_neg z4, if_neg z5, if_neg z6, if_neg z7, if_pos z8]), rfl⟩ dX6_many_151
    by_cases z9 : p0 = (7 : Int32)
    · refine lv_tableIn (off := 131) (tgt := 152) hx hb dX6_many_21 (by rw [z9]; decide) (by rw [z9]; decide) (by rw [z9]; decide) (by decide) ?_
      refine lv_aload_n hx hb dX6_many_152 rfl (lv_at hl 0 rfl) ?_
      refine fg_X6_12 hx hb hts hown hK hM ho dX6_many_153 ?_
      refine fg_X6_201 hx hb hts hown hK hM hL.1 dX6_many_156 ?_
      refine g_callVi (n9 := 0) (As := []) (rest := []) hx hb hml hl.1 hown hts hK hM (c_Jx4a65c_size_8abf5 l G _ (Y.1 4) t _ _ _ ((hL.2.1 4 (by decide)).1)) wm_X6_50 wi_Jx4a65c_size_8abf5 wl_Jx4a65c_size_8abf5 wn_Jx4a65c wc_Jx4a65c_size_8abf5 (by decide +kernel) (hM.recv hK (ci := 0) rfl ((hL.2.1 4 (by decide)).1)) ⟨Nat.le_of_ble_eq_true rfl, Nat.le_of_ble_eq_true rfl⟩ ⟨Nat.zero_le _, Nat.zero_le _⟩ rfl (Nat.le_of_ble_eq_true rfl) rfl dX6_many_159 (fun r_159 Mz H locs hq hM => ?_)
      have hq1 := hq.1.symm
      have hq2 := hq.2.symm
      subst hq1 hq2
      refine vx_ret ?_
      exact g_iret hx hb hr hlocks hM (Nat.zero_le _) (Nat.zero_le _) ⟨(by unfold kc_X6_many; rw [if_pos c1]), (by unfold qv_X6_many; rw [if_neg z2, if_neg z3, if_neg z4, if_neg z5, if_neg z6, if_neg z7, if_neg z8, if_pos z9]), rfl⟩ dX6_many_162
    by_cases z10 : p0 = (8 : Int32)
    · refine lv_tableIn (off := 142) (tgt := 163) hx hb dX6_many_21 (by rw [z10]; decide) (by rw [z10]; decide) (by rw [z10]; decide) (by decide) ?_
      refine lv_aload_n hx hb dX6_many_163 rfl (lv_at hl 0 rfl) ?_
      refine fg_X6_12 hx hb hts hown hK hM ho dX6_many_164 ?_
      refine fg_X6_172 hx hb hts hown hK hM hL.1 dX6_many_167 ?_
      refine vx_ret ?_
      exact g_iret hx hb hr hlocks hM (Nat.zero_le _) (Nat.zero_le _) ⟨(by unfold kc_X6_many; rw [if_pos c1]), (by unfold qv_X6_many; rw [if_neg z2, if_neg z3, if_neg z4, if_neg z5, if_neg z6, if_neg z7, if_neg z8, if_neg z9, if_pos z10]), rfl⟩ dX6_many_170
    by_cases z11 : p0 = (9 : Int32)
    · refine lv_tableIn (off := 150) (tgt := 171) hx hb dX6_many_21 (by rw [z11]; decide) (by rw [z11]; decide) (by rw [z11]; decide) (by decide) ?_
      refine lv_aload_n hx hb dX6_many_171 rfl (lv_at hl 0 rfl) ?_
      refine fg_X6_12 hx hb hts hown hK hM ho dX6_many_172 ?_
      refine g_callVi (n9 := 0) (As := []) (rest := []) hx hb hml hl.1 hown hts hK hM (c_X3_allRoom l G _ t h0 Y N _ tr now price money  hL) wm_X6_303 wi_X3_allRoom wl_X3_allRoom wn_X3 wc_X3_allRoom (by decide +kernel) (hM.recv hK (ci := 4) rfl hL.1) ⟨Nat.le_of_ble_eq_true rfl, Nat.le_of_ble_eq_true rfl⟩ ⟨Nat.zero_le _, Nat.zero_le _⟩ rfl (Nat.le_of_ble_eq_true rfl) rfl dX6_many_175 (fun r_175 Mz H locs hq hM => ?_)
      have hq1 := hq.1.symm
      have hq2 := hq.2.symm
      subst hq1 hq2
      refine vx_ret ?_
      exact g_iret hx hb hr hlocks hM (Nat.zero_le _) (Nat.zero_le _) ⟨(by unfold kc_X6_many; rw [if_pos c1]), (by unfold qv_X6_many; rw [if_neg z2, if_neg z3, if_neg z4, if_neg z5, if_neg z6, if_neg z7, if_neg z8, if_neg z9, if_neg z10, if_pos z11]), rfl⟩ dX6_many_178
    by_cases z12 : p0 = (10 : Int32)
    · refine lv_tableIn (off := 158) (tgt := 179) hx hb dX6_many_21 (by rw [z12]; decide) (by rw [z12]; decide) (by rw [z12]; decide) (by decide) ?_
      refine lv_aload_n hx hb dX6_many_179 rfl (lv_at hl 0 rfl) ?_
      refine fg_X6_12 hx hb hts hown hK hM ho dX6_many_180 ?_
      refine g_callVi (n9 := 0) (As := []) (rest := []) hx hb hml hl.1 hown hts hK hM (c_X3_allOnTheWay l G _ t h0 Y N _ tr now price money  hL) wm_X6_306 wi_X3_allOnTheWay wl_X3_allOnTheWay wn_X3 wc_X3_allOnTheWay (by decide +kernel) (hM.recv hK (ci := 4) rfl hL.1) ⟨Nat.le_of_ble_eq_true rfl, Nat.le_of_ble_eq_true rfl⟩ ⟨Nat.zero_le _, Nat.zero_le _⟩ rfl (Nat.le_of_ble_eq_true rfl) rfl dX6_many_183 (fun r_183 Mz H locs hq hM => ?_)
      have hq1 := hq.1.symm
      have hq2 := hq.2.symm
      subst hq1 hq2
      refine vx_ret ?_
      exact g_iret hx hb hr hlocks hM (Nat.zero_le _) (Nat.zero_le _) ⟨(by unfold kc_X6_many; rw [if_pos c1]), (by unfold qv_X6_many; rw [if_neg z2, if_neg z3, if_neg z4, if_neg z5, if_neg z6, if_neg z7, if_neg z8, if_neg z9, if_neg z10, if_neg z11, if_pos z12]), rfl⟩ dX6_many_186
    by_cases z13 : p0 = (11 : Int32)
    · refine lv_tableIn (off := 166) (tgt := 187) hx hb dX6_many_21 (by rw [z13]; decide) (by rw [z13]; decide) (by rw [z13]; decide) (by decide) ?_
      refine lv_aload_n hx hb dX6_many_187 rfl (lv_at hl 0 rfl) ?_
      refine fg_X6_12 hx hb hts hown hK hM ho dX6_many_188 ?_
      refine g_callVi (n9 := 0) (As := []) (rest := []) hx hb hml hl.1 hown hts hK hM (c_X3_allIdle l G _ t h0 Y N _ tr now price money  hL) wm_X6_309 wi_X3_allIdle wl_X3_allIdle wn_X3 wc_X3_allIdle (by decide +kernel) (hM.recv hK (ci := 4) rfl hL.1) ⟨Nat.le_of_ble_eq_true rfl, Nat.le_of_ble_eq_true rfl⟩ ⟨Nat.zero_le _, Nat.zero_le _⟩ rfl (Nat.le_of_ble_eq_true rfl) rfl dX6_many_191 (fun r_191 Mz H locs hq hM => ?_)
      have hq1 := hq.1.symm
      have hq2 := hq.2.symm
      subst hq1 hq2
      refine vx_ret ?_
      exact g_iret hx hb hr hlocks hM (Nat.zero_le _) (Nat.zero_le _) ⟨(by unfold kc_X6_many; rw [if_pos c1]), (by unfold qv_X6_many; rw [if_neg z2, if_neg z3, if_neg z4, if_neg z5, if_neg z6, if_neg z7, if_neg z8, if_neg z9, if_neg z10, if_neg z11, if_neg z12, if_pos z13]), rfl⟩ dX6_many_194
    refine lv_tableOut (tgt := 195) hx hb dX6_many_21 (tab_out 11 (fun k hk => match k, hk with | 0, _ => z2 | 1, _ => z3 | 2, _ => z4 | 3, _ => z5 | 4, _ => z6 | 5, _ => z7 | 6, _ => z8 | 7, _ => z9 | 8, _ => z10 | 9, _ => z11 | 10, _ => z12 | 11, _ => z13 | k + 12, hk => absurd hk (by omega))) (by decide) ?_
    refine lv_aload_n hx hb dX6_many_195 rfl (lv_at hl 0 rfl) ?_
    refine fg_X6_12 hx hb hts hown hK hM ho dX6_many_196 ?_
    refine g_callVi (n9 := 0) (As := []) (rest := []) hx hb hml hl.1 hown hts hK hM (c_X3_allQueued l G _ t h0 Y N _ tr now price money  hL) wm_X6_312 wi_X3_allQueued wl_X3_allQueued wn_X3 wc_X3_allQueued (by decide +kernel) (hM.recv hK (ci := 4) rfl hL.1) ⟨Nat.le_of_ble_eq_true rfl, Nat.le_of_ble_eq_true rfl⟩ ⟨Nat.zero_le _, Nat.zero_le _⟩ rfl (Nat.le_of_ble_eq_true rfl) rfl dX6_many_199 (fun r_199 Mz H locs hq hM => ?_)
    have hq1 := hq.1.symm
    have hq2 := hq.2.symm
    subst hq1 hq2
    refine vx_ret ?_
    exact g_iret hx hb hr hlocks hM (Nat.zero_le _) (Nat.zero_le _) ⟨(by unfold kc_X6_many; rw [if_pos c1]), (by unfold qv_X6_many; rw [if_neg z2, if_neg z3, if_neg z4, if_neg z5, if_neg z6, if_neg z7, if_neg z8, if_neg z9, if_neg z10, if_neg z11, if_neg z12, if_neg z13]), rfl⟩ dX6_many_202
  · exact g_thrA hx hb hst hts hown hX hM hml hl.1 hlocks ht (Or.inr (Or.inl ⟨(by unfold kc_X6_many; rw [if_neg c1]), rfl⟩)) tx_207 dX6_many_10 dX6_many_13 dX6_many_14 dX6_many_16 dX6_many_19 ⟨Nat.le_of_ble_eq_true rfl, Nat.le_of_ble_eq_true rfl⟩ (Nat.le_of_ble_eq_true rfl) ⟨by show _ ≤ xc (kc_X6_many N T tr now price money p0); rw [show kc_X6_many N T tr now price money p0 = 2 from (by unfold kc_X6_many; rw [if_neg c1])]; decide, by show _ ≤ 6 * xc (kc_X6_many N T tr now price money p0); rw [show kc_X6_many N T tr now price money p0 = 2 from (by unfold kc_X6_many; rw [if_neg c1])]; decide⟩ ⟨by show _ ≤ xc (kc_X6_many N T tr now price money p0); rw [show kc_X6_many N T tr now price money p0 = 2 from (by unfold kc_X6_many; rw [if_neg c1])]; decide, by show _ ≤ 6 * xc (kc_X6_many N T tr now price money p0); rw [show kc_X6_many N T tr now price money p0 = 2 from (by unfold kc_X6_many; rw [if_neg c1])]; decide⟩
def kc_X6_owed (N : Nat → Nat) (T : Tb) (tr now price money : Int32) (p0 p1 : Int32) : Nat := if (t_X6_isOutside_0 p0 (0 : Int32) (3 : Int32)) = 0 then 0 else 1
def qv_X6_owed (N : Nat → Nat) (T : Tb) (tr now price money : Int32) (p0 p1 : Int32) : Int32 := (sa 0 (fun j => if ((T 0 j) 0) = p0 then (if p1 = 0 then ((T 0 j) 11) else ((T 0 j) 12)) else 0) (N 0))
set_option maxHeartbeats 4000000 in
set_option maxRecDepth 100000 in
theorem c_X6_owed (l : Launch) (hst : l.stackTraces = false) (G : GG) (M : HM) (xa rx h2 h3 : Nat) (t h0 : Nat) (Y : LY) (N : Nat → Nat) (T : Tb) (tr now price money : Int32) (p0 p1 : Int32) (ho : M xa = some (rx, .inr (7, [.ref h0, .ref h2, .ref h3]))) (hrx : rx ≠ t) (hL : LdR G M t h0 Y N T tr now price money) : Xi l yX6_owed (.code yX6_owed cX6_owed 6 (some .int) :: AL) 6 90 (xc (kc_X6_owed N T tr now price money p0 p1)) (6 * xc (kc_X6_owed N T tr now price money p0 p1)) [.ref xa, .int p0, .int p1] G M (fun r M' => kc_X6_owed N T tr now price money p0 p1 = 0 ∧ r = (qv_X6_owed N T tr now price money p0 p1) ∧ M' = M) (EX (kc_X6_owed N T tr now price money p0 p1)) := by
  refine Xi.go (by decide) (Nat.le_of_ble_eq_true rfl) ?_
  intro p e s m below meth c ls hx hb hr hml hown hlocks ht hts hK hX hM hl
  have hown : s.vm.findClass RX6 = some m.cls := hown
  have hl : lv_has ls 6 [(0, .ref xa), (1, .int p0), (2, .int p1)] := hl
  have hN8 := hL.2.2.2.2.2.2.1
  have hn0 := hN8 0
  have hn1 := hN8 1
  have hn2 := hN8 2
  have hn3 := hN8 3
  have hn4 := hN8 4
  refine lv_iload_n hx hb dX6_owed_0 rfl (lv_at hl 1 rfl) ?_
  refine lv_iconst (v := (0 : Int32)) hx hb dX6_owed_1 (by decide) ?_
  refine lv_iconst (v := (3 : Int32)) hx hb dX6_owed_2 (by decide) ?_
  refine g_callSi (n9 := 3) (As := [.int p0, .int (0 : Int32), .int (3 : Int32)]) (rest := []) hx hb hml hl.1 hown hts hK hM (c_X6_isOutside l G _ p0 (0 : Int32) (3 : Int32) ) wm_X6_30 wt_X6_isOutside wn_X6 wc_X6_isOutside (by decide +kernel) ⟨Nat.le_of_ble_eq_true rfl, Nat.le_of_ble_eq_true rfl⟩ ⟨Nat.le_of_ble_eq_true rfl, Nat.le_of_ble_eq_true rfl⟩ rfl (Nat.le_of_ble_eq_true rfl) rfl dX6_owed_3 (fun r_3 M1 H locs hq hM => ?_)
  have hq1 := hq.1.symm
  have hq2 := hq.2.symm
  subst hq1 hq2
  refine lv_if_eq (tgt := 19) hx hb dX6_owed_6 (by decide) (fun c1 => ?_) (fun c1 => ?_)
  · refine lv_iconst (v := (0 : Int32)) hx hb dX6_owed_19 (by decide) ?_
    refine lv_istore_n (lv' := [(3, .int (0 : Int32)), (0, .ref xa), (1, .int p0), (2, .int p1)]) hx hb dX6_owed_20 rfl hl (by decide) rfl (fun ls hl => ?_)
    refine lv_iconst (v := (0 : Int32)) hx hb dX6_owed_21 (by decide) ?_
    refine lv_istore (lv' := [(4, .int (0 : Int32)), (3, .int (0 : Int32)), (0, .ref xa), (1, .int p0), (2, .int p1)]) hx hb dX6_owed_22 hl (by decide) rfl (fun ls hl => ?_)
    have L24 : ∀ (n i : Nat), i ≤ N 0 → N 0 - i < n → ∀ (H : Heap) (locs : List Loc) (ls : Array Slot), Wd G M s H locs → lv_has ls 6 [(4, .int (nI i)), (3, .int (sa 0 (fun j => if ((T 0 j) 0) = p0 then (if p1 = 0 then ((T 0 j) 11) else ((T 0 j) 12)) else 0) i)), (0, .ref xa), (1, .int p0), (2, .int p1)] → W p l e ({ frames := 6, cells := (xc (kc_X6_owed N T tr now price money p0 p1)), slots := (6 * xc (kc_X6_owed N T tr now price money p0 p1)), locals := 90 } : Room) s m [.ref xa, .int p0, .int p1].toArray below meth c H locs 0 0 (vx_MQ below (va_Qi (fun r M' => kc_X6_owed N T tr now price money p0 p1 = 0 ∧ r = (qv_X6_owed N T tr now price money p0 p1) ∧ M' = M) (gB G) (gA G)) (gX G M (EX (kc_X6_owed N T tr now price money p0 p1))) [.ref xa, .int p0, .int p1].toArray s (xc (kc_X6_owed N T tr now price money p0 p1)) (6 * xc (kc_X6_owed N T tr now price money p0 p1)) (gA G)) (F0 m 24 ls []) := by
      intro n
      induction n with
      | zero => intro i h1 h2; omega
      | succ n ih =>
        intro i h1 h2 H locs ls hM hl
        refine lv_iload hx hb dX6_owed_24 (lv_at hl 0 rfl) ?_
        refine lv_aload_n hx hb dX6_owed_26 rfl (lv_at hl 2 rfl) ?_
        refine fg_X6_12 hx hb hts hown hK hM ho dX6_owed_27 ?_
        refine fg_X6_46 hx hb hts hown hK hM hL.1 dX6_owed_30 ?_
        refine g_callVi (n9 := 0) (As := []) (rest := [.int (nI i)]) hx hb hml hl.1 hown hts hK hM (c_Jx4a65c_size_8abf5 l G _ (Y.1 0) t _ _ _ ((hL.2.1 0 (by decide)).1)) wm_X6_50 wi_Jx4a65c_size_8abf5 wl_Jx4a65c_size_8abf5 wn_Jx4a65c wc_Jx4a65c_size_8abf5 (by decide +kernel) (hM.recv hK (ci := 0) rfl ((hL.2.1 0 (by decide)).1)) ⟨Nat.le_of_ble_eq_true rfl, Nat.le_of_ble_eq_true rfl⟩ ⟨Nat.zero_le _, Nat.zero_le _⟩ rfl (Nat.le_of_ble_eq_true rfl) rfl dX6_owed_33 (fun r_33 Mz H locs hq hM => ?_)
        have hq1 := hq.1.symm
        have hq2 := hq.2.symm
        subst hq1 hq2
        have hN9 := hL.2.2.2.2.2.2.1
        refine lv_icmp_ge (tgt := 91) hx hb dX6_owed_36 (by decide) (fun c2 => ?_) (fun c2 => ?_)
        · have hi : i = N 0 := by
            have := (nI_leI (by omega) (by omega)).mp c2
            omega
          subst hi
          refine lv_iload_n hx hb dX6_owed_91 rfl (lv_at hl 1 rfl) ?_
          refine vx_ret ?_
          exact g_iret hx hb hr hlocks hM (Nat.zero_le _) (Nat.zero_le _) ⟨(by unfold kc_X6_owed; rw [if_pos c1]), rfl, rfl⟩ dX6_owed_92
        · have hi_i : i < N 0 := by
            rcases Nat.lt_or_ge i (N 0) with z | z
            · exact z
            · exact absurd (nI_le z (by omega)) c2
          refine lv_aload_n hx hb dX6_owed_39 rfl (lv_at hl 2 rfl) ?_
          refine fg_X6_12 hx hb hts hown hK hM ho dX6_owed_40 ?_
          refine fg_X6_46 hx hb hts hown hK hM hL.1 dX6_owed_43 ?_
          refine lv_iload hx hb dX6_owed_46 (lv_at hl 0 rfl) ?_
          refine g_callVq (n9 := 1) (As := [.int (nI i)]) (rest := []) hx hb hml hl.1 hown hts hK hM (c_getL l G _ t (Y.1 0) (N 0) _ _ i _ _ (hL.2.1 0 (by decide)) hi_i) wm_X6_287 wi_Jx4a65c_get_915e3 wl_Jx4a65c_get_915e3 wn_Jx4a65c wc_Jx4a65c_get_915e3 (by decide +kernel) (hM.recv hK (ci := 0) rfl ((hL.2.1 0 (by decide)).1)) ⟨Nat.le_of_ble_eq_true rfl, Nat.le_of_ble_eq_true rfl⟩ ⟨Nat.zero_le _, Nat.zero_le _⟩ rfl (Nat.le_of_ble_eq_true rfl) rfl dX6_owed_48 (fun r_48 Mz H locs hq hM => ?_)
          have hq1 := (hq.1.trans (hL.at_g (k := 0) (i := i) (by decide) hi_i)).symm
          have hq2 := hq.2.symm
          subst hq1 hq2
          refine va_castS (nm := RX2) hx hb hown (hts _ wk_X6_21) (hK.1.1 3 _ rfl).2 (hM.recv hK (ci := 3) rfl (hL.row (k := 0) (i := i) (by decide) hi_i)) dX6_owed_51 ?_
          refine lv_astore (lv' := [(5, .ref (Y.2.2.2.2.2 0 i)), (4, .int (nI i)), (3, .int (sa 0 (fun j => if ((T 0 j) 0) = p0 then (if p1 = 0 then ((T 0 j) 11) else ((T 0 j) 12)) else 0) i)), (0, .ref xa), (1, .int p0), (2, .int p1)]) hx hb dX6_owed_54 hl (by decide) rfl (fun ls hl => ?_)
          refine lv_aload hx hb dX6_owed_56 (lv_at hl 0 rfl) ?_
          refine fg_X6_209 hx hb hts hown hK hM (hL.row (k := 0) (i := i) (by decide) hi_i) dX6_owed_58 ?_
          refine lv_iload_n hx hb dX6_owed_61 rfl (lv_at hl 4 rfl) ?_
          refine lv_icmp_ne (tgt := 85) hx hb dX6_owed_62 (by decide) (fun c3 => ?_) (fun c3 => ?_)
          · refine lv_iinc (v := (nI (i + 1))) (lv' := [(4, .int (nI (i + 1))), (5, .ref (Y.2.2.2.2.2 0 i)), (3, .int (sa 0 (fun j => if ((T 0 j) 0) = p0 then (if p1 = 0 then ((T 0 j) 11) else ((T 0 j) 12)) else 0) i)), (0, .ref xa), (1, .int p0), (2, .int p1)]) hx hb dX6_owed_85 hl (k := 1) rfl (nI_1 i) (by decide) rfl (fun ls hl => ?_)
            refine lv_goto (tgt := 24) hx hb dX6_owed_88 (by decide) ?_
            have ea3 : sa 0 (fun j => if ((T 0 j) 0) = p0 then (if p1 = 0 then ((T 0 j) 11) else ((T 0 j) 12)) else 0) (i + 1) = (sa 0 (fun j => if ((T 0 j) 0) = p0 then (if p1 = 0 then ((T 0 j) 11) else ((T 0 j) 12)) else 0) i) := by first | rfl | (rw [sa_s]; simp only [c1, c2, c3, if_true, if_false, Int32.add_zero]; done) | (rw [sa_s]; simp [c1, c2, c3]; done)
            exact ih (i + 1) (by omega) (by omega) _ _ _ hM (by rw [ea3]; exact lv_sub hl [0, 2, 3, 4, 5] rfl)
          · refine lv_iload_n hx hb dX6_owed_65 rfl (lv_at hl 2 rfl) ?_
            refine lv_iload_n hx hb dX6_owed_66 rfl (lv_at hl 5 rfl) ?_
            refine lv_if_eq (tgt := 78) hx hb dX6_owed_67 (by decide) (fun c4 => ?_) (fun c4 => ?_)
            · refine lv_aload hx hb dX6_owed_78 (lv_at hl 0 rfl) ?_
              refine fg_X6_294 hx hb hts hown hK hM (hL.row (k := 0) (i := i) (by decide) hi_i) dX6_owed_80 ?_
              refine lv_iadd hx hb dX6_owed_83 ?_
              refine lv_istore_n (lv' := [(3, .int ((sa 0 (fun j => if ((T 0 j) 0) = p0 then (if p1 = 0 then ((T 0 j) 11) else ((T 0 j) 12)) else 0) i) + ((T 0 i) 11))), (5, .ref (Y.2.2.2.2.2 0 i)), (4, .int (nI i)), (0, .ref xa), (1, .int p0), (2, .int p1)]) hx hb dX6_owed_84 rfl hl (by decide) rfl (fun ls hl => ?_)
              refine lv_iinc (v := (nI (i + 1))) (lv' := [(4, .int (nI (i + 1))), (3, .int ((sa 0 (fun j => if ((T 0 j) 0) = p0 then (if p1 = 0 then ((T 0 j) 11) else ((T 0 j) 12)) else 0) i) + ((T 0 i) 11))), (5, .ref (Y.2.2.2.2.2 0 i)), (0, .ref xa), (1, .int p0), (2, .int p1)]) hx hb dX6_owed_85 hl (k := 2) rfl (nI_1 i) (by decide) rfl (fun ls hl => ?_)
              refine lv_goto (tgt := 24) hx hb dX6_owed_88 (by decide) ?_
              have ea3 : sa 0 (fun j => if ((T 0 j) 0) = p0 then (if p1 = 0 then ((T 0 j) 11) else ((T 0 j) 12)) else 0) (i + 1) = ((sa 0 (fun j => if ((T 0 j) 0) = p0 then (if p1 = 0 then ((T 0 j) 11) else ((T 0 j) 12)) else 0) i) + ((T 0 i) 11)) := by first | rfl | (rw [sa_s]; simp only [c1, c2, c3, c4, if_true, if_false, Int32.add_zero]; done) | (rw [sa_s]; simp [c1, c2, c3, c4]; done)
              exact ih (i + 1) (by omega) (by omega) _ _ _ hM (by rw [ea3]; exact lv_sub hl [0, 1, 3, 4, 5] rfl)
            · refine lv_aload hx hb dX6_owed_70 (lv_at hl 0 rfl) ?_
              refine fg_X6_291 hx hb hts hown hK hM (hL.row (k := 0) (i := i) (by decide) hi_i) dX6_owed_72 ?_
              refine lv_goto (tgt := 83) hx hb dX6_owed_75 (by decide) ?_
              refine lv_iadd hx hb dX6_owed_83 ?_
              refine lv_istore_n (lv' := [(3, .int ((sa 0 (fun j => if ((T 0 j) 0) = p0 then (if p1 = 0 then ((T 0 j) 11) else ((T 0 j) 12)) else 0) i) + ((T 0 i) 12))), (5, .ref (Y.2.2.2.2.2 0 i)), (4, .int (nI i)), (0, .ref xa), (1, .int p0), (2, .int p1)]) hx hb dX6_owed_84 rfl hl (by decide) rfl (fun ls hl => ?_)
              refine lv_iinc (v := (nI (i + 1))) (lv' := [(4, .int (nI (i + 1))), (3, .int ((sa 0 (fun j => if ((T 0 j) 0) = p0 then (if p1 = 0 then ((T 0 j) 11) else ((T 0 j) 12)) else 0) i) + ((T 0 i) 12))), (5, .ref (Y.2.2.2.2.2 0 i)), (0, .ref xa), (1, .int p0), (2, .int p1)]) hx hb dX6_owed_85 hl (k := 2) rfl (nI_1 i) (by decide) rfl (fun ls hl => ?_)
              refine lv_goto (tgt := 24) hx hb dX6_owed_88 (by decide) ?_
              have ea3 : sa 0 (fun j => if ((T 0 j) 0) = p0 then (if p1 = 0 then ((T 0 j) 11) else ((T 0 j) 12)) else 0) (i + 1) = ((sa 0 (fun j => if ((T 0 j) 0) = p0 then (if p1 = 0 then ((T 0 j) 11) else ((T 0 j) 12)) else 0) i) + ((T 0 i) 12)) := by first | rfl | (rw [sa_s]; simp only [c1, c2, c3, c4, if_true, if_false, Int32.add_zero]; done) | (rw [sa_s]; simp [c1, c2, c3, c4]; done)
              exact ih (i + 1) (by omega) (by omega) _ _ _ hM (by rw [ea3]; exact lv_sub hl [0, 1, 3, 4, 5] rfl)
    exact L24 (N 0 + 1) 0 (Nat.zero_le _) (by omega) _ _ _ hM (lv_sub hl [0, 1, 2, 3, 4] rfl)
  · exact g_thrI hx hb hst hts hown hX hM hml hl.1 hlocks ht (Or.inl ⟨(by unfold kc_X6_owed; rw [if_neg c1]), rfl⟩) tx_36 dX6_owed_9 dX6_owed_12 dX6_owed_13 dX6_owed_15 dX6_owed_18 ⟨Nat.le_of_ble_eq_true rfl, Nat.le_of_ble_eq_true rfl⟩ (Nat.le_of_ble_eq_true rfl) ⟨by show _ ≤ xc (kc_X6_owed N T tr now price money p0 p1); rw [show kc_X6_owed N T tr now price money p0 p1 = 1 from (by unfold kc_X6_owed; rw [if_neg c1])]; decide, by show _ ≤ 6 * xc (kc_X6_owed N T tr now price money p0 p1); rw [show kc_X6_owed N T tr now price money p0 p1 = 1 from (by unfold kc_X6_owed; rw [if_neg c1])]; decide⟩ ⟨by show _ ≤ xc (kc_X6_owed N T tr now price money p0 p1); rw [show kc_X6_owed N T tr now price money p0 p1 = 1 from (by unfold kc_X6_owed; rw [if_neg c1])]; decide, by show _ ≤ 6 * xc (kc_X6_owed N T tr now price money p0 p1); rw [show kc_X6_owed N T tr now price money p0 p1 = 1 from (by unfold kc_X6_owed; rw [if_neg c1])]; decide⟩

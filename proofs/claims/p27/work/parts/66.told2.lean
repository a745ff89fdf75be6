theorem rw11_0 : (fun _ => 0 : Nat → Int32) = rw11 0 0 0 0 0 0 0 0 0 0 0 := funext fun j => by
  unfold rw11
  split <;> rfl
theorem rw10_0 : (fun _ => 0 : Nat → Int32) = rw10 0 0 0 0 0 0 0 0 0 0 := funext fun j => by
  unfold rw10
  split <;> rfl
theorem rw6_0 : (fun _ => 0 : Nat → Int32) = rw6 0 0 0 0 0 0 := funext fun j => by
  unfold rw6
  split <;> rfl
set_option maxHeartbeats 4000000 in
set_option maxRecDepth 100000 in
theorem c_X7_field (l : Launch) (hst9 : l.stackTraces = false) (G : GG) (M : HM) (b L : Nat) (xs : Nat → Int32) (ρ tt xa d nf nc nt ne : Nat) (B : Nat → Int32) (z : Int32) (N : Nat → Nat) (T : Tb) (now money : Int32) (hT : TO G M ρ tt xa b d nf nc nt ne B z N T now money) (p0 p1 p2 p3 p4 : Int32) (hk : kc_X6_field N T 0 now 400 money p0 p1 p2 p3 p4 = 0) (hN : N 0 = nf) (hn : nf ≤ 8) : Si l yX7_field (.code yX7_field cX7_field 6 (some .boolean) :: AL) 9 400 4 200 [.ref tt, .int p0, .int p1, .int p2, .int p3, .int p4] G b L xs M (fun r M' => r = 1 ∧ TO G M' ρ tt xa b d (nf + 1) nc nt ne (fun i => if i = nf then p3 else B i) 0 (nu N 0 (N 0 + 1)) (tu T 0 (N 0) (R_X2_init_0 (fun _ => 0) p0 p1 p2 p3 p4)) now money ∧ Sb ρ M M') := by
  refine Si.go (by decide) (Nat.le_of_ble_eq_true rfl) ?_
  intro p e s m below meth c ls hx hb hr hml hown hlocks hnm hts hS hK hX hM hl
  have hown : s.vm.findClass RX7 = some m.cls := hown
  have hl : lv_has ls 6 [(0, .ref tt), (1, .int p0), (2, .int p1), (3, .int p2), (4, .int p3), (5, .int p4)] := hl
  obtain ⟨fa, ca, ta, ea, ka, oa, h1, h2, h3, h4, h5, h6⟩ := hT
  obtain ⟨g, ha, hg⟩ := id h2
  refine lv_aload_n hx hb dX7_field_0 rfl (lv_at hl 0 rfl) ?_
  refine lv_aload_n hx hb dX7_field_1 rfl (lv_at hl 0 rfl) ?_
  refine fg_X7_18 hx hb hts hown hK hM h1 dX7_field_2 ?_
  refine lv_bipush (v := (11 : Int32)) hx hb dX7_field_5 (by decide) ?_
  refine g_newa (atype := .int) (ty := .int) (j := 0) (a0 := (11, .inl (fun _ => 0))) hx hb hK hM hts wa_int rfl rfl (N' := 11) (fun _ => rfl) (by decide) (by decide) (by decide) ρ (Nat.le_of_ble_eq_true rfl) (Nat.le_of_ble_eq_true rfl) dX7_field_7 (fun y H hyn hM => ?_)
  replace hM := hM.eq (congrArg (fun f => hu M y ρ (iE G 11 f)) rw11_0)
  refine lv_dup hx hb dX7_field_9 rfl ?_
  refine lv_iconst (v := (0 : Int32)) hx hb dX7_field_10 (by decide) ?_
  refine lv_iload_n hx hb dX7_field_11 rfl (lv_at hl 1 rfl) ?_
  refine is11_0 hx hb hK hM hu_s dX7_field_12 (fun H locs hM => ?_)
  replace hM := hM.eq (hu_u _ _ _ _ _ _)
  refine lv_dup hx hb dX7_field_13 rfl ?_
  refine lv_iconst (v := (1 : Int32)) hx hb dX7_field_14 (by decide) ?_
  refine lv_iload_n hx hb dX7_field_15 rfl (lv_at hl 2 rfl) ?_
  refine is11_1 hx hb hK hM hu_s dX7_field_16 (fun H locs hM => ?_)
  replace hM := hM.eq (hu_u _ _ _ _ _ _)
  refine lv_dup hx hb dX7_field_17 rfl ?_
  refine lv_iconst (v := (2 : Int32)) hx hb dX7_field_18 (by decide) ?_
  refine lv_iload_n hx hb dX7_field_19 rfl (lv_at hl 3 rfl) ?_
  refine is11_2 hx hb hK hM hu_s dX7_field_20 (fun H locs hM => ?_)
  replace hM := hM.eq (hu_u _ _ _ _ _ _)
  refine lv_dup hx hb dX7_field_21 rfl ?_
  refine lv_iconst (v := (3 : Int32)) hx hb dX7_field_22 (by decide) ?_
  refine lv_iconst (v := (0 : Int32)) hx hb dX7_field_23 (by decide) ?_
  refine is11_3 hx hb hK hM hu_s dX7_field_24 (fun H locs hM => ?_)
  replace hM := hM.eq (hu_u _ _ _ _ _ _)
  refine lv_dup hx hb dX7_field_25 rfl ?_
  refine lv_iconst (v := (4 : Int32)) hx hb dX7_field_26 (by decide) ?_
  refine lv_iconst (v := (0 : Int32)) hx hb dX7_field_27 (by decide) ?_
  refine is11_4 hx hb hK hM hu_s dX7_field_28 (fun H locs hM => ?_)
  replace hM := hM.eq (hu_u _ _ _ _ _ _)
  refine lv_dup hx hb dX7_field_29 rfl ?_
  refine lv_iconst (v := (5 : Int32)) hx hb dX7_field_30 (by decide) ?_
  refine lv_bipush (v := (30 : Int32)) hx hb dX7_field_31 (by decide) ?_
  refine is11_5 hx hb hK hM hu_s dX7_field_33 (fun H locs hM => ?_)
  replace hM := hM.eq (hu_u _ _ _ _ _ _)
  refine lv_dup hx hb dX7_field_34 rfl ?_
  refine lv_bipush (v := (6 : Int32)) hx hb dX7_field_35 (by decide) ?_
  refine lv_iconst (v := (0 : Int32)) hx hb dX7_field_37 (by decide) ?_
  refine is11_6 hx hb hK hM hu_s dX7_field_38 (fun H locs hM => ?_)
  replace hM := hM.eq (hu_u _ _ _ _ _ _)
  refine lv_dup hx hb dX7_field_39 rfl ?_
  refine lv_bipush (v := (7 : Int32)) hx hb dX7_field_40 (by decide) ?_
  refine lv_iconst (v := (0 : Int32)) hx hb dX7_field_42 (by decide) ?_
  refine is11_7 hx hb hK hM hu_s dX7_field_43 (fun H locs hM => ?_)
  replace hM := hM.eq (hu_u _ _ _ _ _ _)
  refine lv_dup hx hb dX7_field_44 rfl ?_
  refine lv_bipush (v := (8 : Int32)) hx hb dX7_field_45 (by decide) ?_
  refine lv_iconst (v := (0 : Int32)) hx hb dX7_field_47 (by decide) ?_
  refine is11_8 hx hb hK hM hu_s dX7_field_48 (fun H locs hM => ?_)
  replace hM := hM.eq (hu_u _ _ _ _ _ _)
  refine lv_dup hx hb dX7_field_49 rfl ?_
  refine lv_bipush (v := (9 : Int32)) hx hb dX7_field_50 (by decide) ?_
  refine lv_iload hx hb dX7_field_52 (lv_at hl 4 rfl) ?_
  refine is11_9 hx hb hK hM hu_s dX7_field_54 (fun H locs hM => ?_)
  replace hM := hM.eq (hu_u _ _ _ _ _ _)
  refine lv_dup hx hb dX7_field_55 rfl ?_
  refine lv_bipush (v := (10 : Int32)) hx hb dX7_field_56 (by decide) ?_
  refine lv_iload hx hb dX7_field_58 (lv_at hl 5 rfl) ?_
  refine is11_10 hx hb hK hM hu_s dX7_field_60 (fun H locs hM => ?_)
  replace hM := hM.eq (hu_u _ _ _ _ _ _)
  obtain ⟨A1, eA1⟩ : ∃ A, A = hu M y ρ (iE G 11 (rw11 p0 p1 p2 (0 : Int32) (0 : Int32) (30 : Int32) (0 : Int32) (0 : Int32) (0 : Int32) p3 p4)) := ⟨_, rfl⟩
  replace hM := hM.eq eA1.symm
  have old1 : ∀ {x r9 : Nat} {e9 : va_E}, M x = some (r9, e9) → A1 x = some (r9, e9) := fun hx => by rw [eA1]; exact hu_n (hu_ne hx hyn (by simp)) hx
  have hy1 : A1 y = some (ρ, iE G 11 (rw11 p0 p1 p2 (0 : Int32) (0 : Int32) (30 : Int32) (0 : Int32) (0 : Int32) (0 : Int32) p3 p4)) := by rw [eA1]; exact hu_s
  have k1 : Ka ρ M A1 := fun _ _ h => old1 h
  have b1 : Sb ρ M A1 := fun _ _ _ _ h => old1 h
  have v1 : WR G A1 ρ xa N T now money := h6.sv (fun _ _ _ _ _ h => old1 h)
  refine g_callSq (n9 := 2) (As := [.ref fa, .ref y]) (rest := [.ref tt]) hx hb hml hl.1 hown hts hK hM (c_X7_plus l G A1 fa ρ nf y ρ 11 ρ g (rw11 p0 p1 p2 (0 : Int32) (0 : Int32) (30 : Int32) (0 : Int32) (0 : Int32) (0 : Int32) p3 p4) (old1 ha) hy1 (fun i hi v hv => ?_) (by omega)) wm_X7_66 wt_X7_plus wn_X7 wc_X7_plus (by decide +kernel) ⟨Nat.le_of_ble_eq_true rfl, Nat.le_of_ble_eq_true rfl⟩ ⟨Nat.le_of_ble_eq_true rfl, by show 0 + 11 + (nf + 1) ≤ 200; omega⟩ rfl (Nat.le_of_ble_eq_true rfl) rfl dX7_field_61 (fun r0 A2 H locs hq hM => ?_)
  · obtain ⟨y9, f9, q1, q2, q3⟩ := hg i hi
    rw [q1] at hv
    cases hv
    exact ⟨_, _, _, old1 q2⟩
  obtain ⟨q, g', er0, hqn, eA2, hg1, hg2⟩ := hq
  subst er0
  have old2 : ∀ {x r9 : Nat} {e9 : va_E}, A1 x = some (r9, e9) → A2 x = some (r9, e9) := fun hx => by rw [eA2]; exact hu_n (hu_ne hx hqn (by simp)) hx
  have hq2 : A2 q = some (ρ, qE G (nf + 1) g') := by rw [eA2]; exact hu_s
  have k2 : Ka ρ A1 A2 := fun _ _ h => old2 h
  have b2 : Sb ρ A1 A2 := fun _ _ _ _ h => old2 h
  have v2 : WR G A2 ρ xa N T now money := v1.sv (fun _ _ _ _ _ h => old2 h)
  have hT2 := old2 (old1 h1)
  refine fp_X7_18 (q := q) hx hb hts hown hK hM hT2 dX7_field_64 (fun H locs hM => ?_)
  obtain ⟨A3, eA3⟩ : ∃ A, A = hu A2 tt ρ (toldE xa b d q ca ta ea ka oa) := ⟨_, rfl⟩
  replace hM := hM.eq eA3.symm
  have k3 : Ka ρ A2 A3 := by rw [eA3]; exact Ka.obj hT2
  have b3 : Sb ρ A2 A3 := by rw [eA3]; exact Sb.up hT2
  have v3 : WR G A3 ρ xa N T now money := by rw [eA3]; exact v2.up hT2 (by omega)
  have hT3 : A3 tt = some (ρ, toldE xa b d q ca ta ea ka oa) := by rw [eA3]; exact hu_s
  refine lv_aload_n hx hb dX7_field_67 rfl (lv_at hl 0 rfl) ?_
  refine fg_X7_10 hx hb hts hown hK hM hT3 dX7_field_68 ?_
  refine lv_iload_n hx hb dX7_field_71 rfl (lv_at hl 1 rfl) ?_
  refine lv_iload_n hx hb dX7_field_72 rfl (lv_at hl 2 rfl) ?_
  refine lv_iload_n hx hb dX7_field_73 rfl (lv_at hl 3 rfl) ?_
  refine lv_iload hx hb dX7_field_74 (lv_at hl 4 rfl) ?_
  refine lv_iload hx hb dX7_field_76 (lv_at hl 5 rfl) ?_
  refine r_field hx hb hml hl.1 hown hts hK hX hst9 hM v3 hk wm_X7_70 ⟨Nat.le_of_ble_eq_true rfl, Nat.le_of_ble_eq_true rfl⟩ ⟨Nat.le_of_ble_eq_true rfl, by show 0 + 11 + (nf + 1) + 60 ≤ 200; omega⟩ (Nat.le_of_ble_eq_true rfl) dX7_field_78 (fun M4 H locs v4 s4 hM => ?_)
  have k4 : Ka ρ A3 M4 := Ka.sx s4 (by omega)
  have b4 : Sb ρ A3 M4 := Sb.sx s4
  have hT4 : M4 tt = some (ρ, toldE xa b d q ca ta ea ka oa) := s4 _ _ _ (by omega) hT3
  have hq4 : M4 q = some (ρ, qE G (nf + 1) g') := k4 _ _ (k3 _ _ hq2)
  refine lv_aload_n hx hb dX7_field_81 rfl (lv_at hl 0 rfl) ?_
  refine fg_X7_18 hx hb hts hown hK hM hT4 dX7_field_82 ?_
  refine g_alen hx hb hK hM hq4 (j := 1) rfl (v := nI (nf + 1)) rfl dX7_field_85 ?_
  refine lv_iconst (v := (1 : Int32)) hx hb dX7_field_86 (by decide) ?_
  refine lv_isub hx hb dX7_field_87 ?_
  rw [nI_pred]
  refine lv_icmp_ne (tgt := 95) hx hb dX7_field_88 (by decide) (fun c1 => absurd (by rw [hN]) c1) (fun c1 => ?_)
  refine lv_iconst (v := (1 : Int32)) hx hb dX7_field_91 (by decide) ?_
  refine lv_goto (tgt := 96) hx hb dX7_field_92 (by decide) ?_
  have kk : Ka ρ M M4 := ((k1.tr k2).tr k3).tr k4
  have bb : Sb ρ M M4 := ((b1.tr b2).tr b3).tr b4
  have hF : FA G M4 ρ q (nf + 1) (fun i => if i = nf then p3 else B i) 0 := by
    refine ⟨g', hq4, fun i hi => ?_⟩
    by_cases hin : i = nf
    · subst hin
      refine ⟨y, _, hg2, k4 _ _ (k3 _ _ (k2 _ _ hy1)), ?_, fun _ => rfl⟩
      show p3 = (if i = i then p3 else B i)
      rw [if_pos rfl]
    · obtain ⟨y9, f9, q1, q2, q3, q4⟩ := hg i (by omega)
      refine ⟨y9, f9, (hg1 i (by omega)).trans q1, kk _ _ q2, ?_, fun z9 => by omega⟩
      show f9 9 = (if i = nf then p3 else B i)
      rw [if_neg hin]
      exact q3
  exact g_zret (v := 1) hx hb hr hlocks hM (Nat.le_of_ble_eq_true rfl) (by show 0 + 11 + (nf + 1) + 60 ≤ 200; omega) (by decide) ⟨rfl, ⟨_, _, _, _, _, _, hT4, hF, h3.keep kk, h4.keep kk, h5.keep kk, v4⟩, bb⟩ dX7_field_96
set_option maxHeartbeats 4000000 in
set_option maxRecDepth 100000 in
theorem c_X7_combine (l : Launch) (hst9 : l.stackTraces = false) (G : GG) (M : HM) (b L : Nat) (xs : Nat → Int32) (ρ tt xa d nf nc nt ne : Nat) (B : Nat → Int32) (z : Int32) (N : Nat → Nat) (T : Tb) (now money : Int32) (hT : TO G M ρ tt xa b d nf nc nt ne B z N T now money) (p0 p1 : Int32) (hk : kc_X6_combine N T 0 now 400 money p0 p1 = 0) (hN : N 1 = nc) (hn : nc ≤ 8) : Si l yX7_combine (.code yX7_combine cX7_combine 3 (some .boolean) :: AL) 9 400 4 200 [.ref tt, .int p0, .int p1] G b L xs M (fun r M' => r = 1 ∧ TO G M' ρ tt xa b d nf (nc + 1) nt ne B z (nu N 1 (N 1 + 1)) (tu T 1 (N 1) (R_X0_init_0 (fun _ => 0) (nI (N 1)) p0 p1)) now money ∧ Sb ρ M M') := by
  refine Si.go (by decide) (Nat.le_of_ble_eq_true rfl) ?_
  intro p e s m below meth c ls hx hb hr hml hown hlocks hnm hts hS hK hX hM hl
  have hown : s.vm.findClass RX7 = some m.cls := hown
  have hl : lv_has ls 3 [(0, .ref tt), (1, .int p0), (2, .int p1)] := hl
  obtain ⟨fa, ca, ta, ea, ka, oa, h1, h2, h3, h4, h5, h6⟩ := hT
  obtain ⟨g, ha, hg⟩ := id h3
  refine lv_aload_n hx hb dX7_combine_0 rfl (lv_at hl 0 rfl) ?_
  refine lv_aload_n hx hb dX7_combine_1 rfl (lv_at hl 0 rfl) ?_
  refine fg_X7_22 hx hb hts hown hK hM h1 dX7_combine_2 ?_
  refine lv_bipush (v := (10 : Int32)) hx hb dX7_combine_5 (by decide) ?_
  refine g_newa (atype := .int) (ty := .int) (j := 0) (a0 := (10, .inl (fun _ => 0))) hx hb hK hM hts wa_int rfl rfl (N' := 10) (fun _ => rfl) (by decide) (by decide) (by decide) ρ (Nat.le_of_ble_eq_true rfl) (Nat.le_of_ble_eq_true rfl) dX7_combine_7 (fun y H hyn hM => ?_)
  replace hM := hM.eq (congrArg (fun f => hu M y ρ (iE G 10 f)) rw10_0)
  refine lv_dup hx hb dX7_combine_9 rfl ?_
  refine lv_iconst (v := (0 : Int32)) hx hb dX7_combine_10 (by decide) ?_
  refine lv_iload_n hx hb dX7_combine_11 rfl (lv_at hl 1 rfl) ?_
  refine is10_0 hx hb hK hM hu_s dX7_combine_12 (fun H locs hM => ?_)
  replace hM := hM.eq (hu_u _ _ _ _ _ _)
  refine lv_dup hx hb dX7_combine_13 rfl ?_
  refine lv_iconst (v := (1 : Int32)) hx hb dX7_combine_14 (by decide) ?_
  refine lv_iconst (v := (0 : Int32)) hx hb dX7_combine_15 (by decide) ?_
  refine is10_1 hx hb hK hM hu_s dX7_combine_16 (fun H locs hM => ?_)
  replace hM := hM.eq (hu_u _ _ _ _ _ _)
  refine lv_dup hx hb dX7_combine_17 rfl ?_
  refine lv_iconst (v := (2 : Int32)) hx hb dX7_combine_18 (by decide) ?_
  refine lv_iconst (v := (-1 : Int32)) hx hb dX7_combine_19 (by decide) ?_
  refine is10_2 hx hb hK hM hu_s dX7_combine_20 (fun H locs hM => ?_)
  replace hM := hM.eq (hu_u _ _ _ _ _ _)
  refine lv_dup hx hb dX7_combine_21 rfl ?_
  refine lv_iconst (v := (3 : Int32)) hx hb dX7_combine_22 (by decide) ?_
  refine lv_iconst (v := (0 : Int32)) hx hb dX7_combine_23 (by decide) ?_
  refine is10_3 hx hb hK hM hu_s dX7_combine_24 (fun H locs hM => ?_)
  replace hM := hM.eq (hu_u _ _ _ _ _ _)
  refine lv_dup hx hb dX7_combine_25 rfl ?_
  refine lv_iconst (v := (4 : Int32)) hx hb dX7_combine_26 (by decide) ?_
  refine lv_iconst (v := (0 : Int32)) hx hb dX7_combine_27 (by decide) ?_
  refine is10_4 hx hb hK hM hu_s dX7_combine_28 (fun H locs hM => ?_)
  replace hM := hM.eq (hu_u _ _ _ _ _ _)
  refine lv_dup hx hb dX7_combine_29 rfl ?_
  refine lv_iconst (v := (5 : Int32)) hx hb dX7_combine_30 (by decide) ?_
  refine lv_iconst (v := (-1 : Int32)) hx hb dX7_combine_31 (by decide) ?_
  refine is10_5 hx hb hK hM hu_s dX7_combine_32 (fun H locs hM => ?_)
  replace hM := hM.eq (hu_u _ _ _ _ _ _)
  refine lv_dup hx hb dX7_combine_33 rfl ?_
  refine lv_bipush (v := (6 : Int32)) hx hb dX7_combine_34 (by decide) ?_
  refine lv_iconst (v := (0 : Int32)) hx hb dX7_combine_36 (by decide) ?_
  refine is10_6 hx hb hK hM hu_s dX7_combine_37 (fun H locs hM => ?_)
  replace hM := hM.eq (hu_u _ _ _ _ _ _)
  refine lv_dup hx hb dX7_combine_38 rfl ?_
  refine lv_bipush (v := (7 : Int32)) hx hb dX7_combine_39 (by decide) ?_
  refine lv_iconst (v := (0 : Int32)) hx hb dX7_combine_41 (by decide) ?_
  refine is10_7 hx hb hK hM hu_s dX7_combine_42 (fun H locs hM => ?_)
  replace hM := hM.eq (hu_u _ _ _ _ _ _)
  refine lv_dup hx hb dX7_combine_43 rfl ?_
  refine lv_bipush (v := (8 : Int32)) hx hb dX7_combine_44 (by decide) ?_
  refine lv_iload_n hx hb dX7_combine_46 rfl (lv_at hl 2 rfl) ?_
  refine is10_8 hx hb hK hM hu_s dX7_combine_47 (fun H locs hM => ?_)
  replace hM := hM.eq (hu_u _ _ _ _ _ _)
  refine lv_dup hx hb dX7_combine_48 rfl ?_
  refine lv_bipush (v := (9 : Int32)) hx hb dX7_combine_49 (by decide) ?_
  refine lv_iconst (v := (0 : Int32)) hx hb dX7_combine_51 (by decide) ?_
  refine is10_9 hx hb hK hM hu_s dX7_combine_52 (fun H locs hM => ?_)
  replace hM := hM.eq (hu_u _ _ _ _ _ _)
  obtain ⟨A1, eA1⟩ : ∃ A, A = hu M y ρ (iE G 10 (rw10 p0 (0 : Int32) (-1 : Int32) (0 : Int32) (0 : Int32) (-1 : Int32) (0 : Int32) (0 : Int32) p1 (0 : Int32))) := ⟨_, rfl⟩
  replace hM := hM.eq eA1.symm
  have old1 : ∀ {x r9 : Nat} {e9 : va_E}, M x = some (r9, e9) → A1 x = some (r9, e9) := fun hx => by rw [eA1]; exact hu_n (hu_ne hx hyn (by simp)) hx
  have hy1 : A1 y = some (ρ, iE G 10 (rw10 p0 (0 : Int32) (-1 : Int32) (0 : Int32) (0 : Int32) (-1 : Int32) (0 : Int32) (0 : Int32) p1 (0 : Int32))) := by rw [eA1]; exact hu_s
  have k1 : Ka ρ M A1 := fun _ _ h => old1 h
  have b1 : Sb ρ M A1 := fun _ _ _ _ h => old1 h
  have v1 : WR G A1 ρ xa N T now money := h6.sv (fun _ _ _ _ _ h => old1 h)
  refine g_callSq (n9 := 2) (As := [.ref ca, .ref y]) (rest := [.ref tt]) hx hb hml hl.1 hown hts hK hM (c_X7_plus l G A1 ca ρ nc y ρ 10 ρ g (rw10 p0 (0 : Int32) (-1 : Int32) (0 : Int32) (0 : Int32) (-1 : Int32) (0 : Int32) (0 : Int32) p1 (0 : Int32)) (old1 ha) hy1 (fun i hi v hv => ?_) (by omega)) wm_X7_66 wt_X7_plus wn_X7 wc_X7_plus (by decide +kernel) ⟨Nat.le_of_ble_eq_true rfl, Nat.le_of_ble_eq_true rfl⟩ ⟨Nat.le_of_ble_eq_true rfl, by show 0 + 10 + (nc + 1) ≤ 200; omega⟩ rfl (Nat.le_of_ble_eq_true rfl) rfl dX7_combine_53 (fun r0 A2 H locs hq hM => ?_)
  · obtain ⟨y9, w9, f9, q1, q2⟩ := hg i hi
    rw [q1] at hv
    cases hv
    exact ⟨_, _, _, old1 q2⟩
  obtain ⟨q, g', er0, hqn, eA2, hg1, hg2⟩ := hq
  subst er0
  have old2 : ∀ {x r9 : Nat} {e9 : va_E}, A1 x = some (r9, e9) → A2 x = some (r9, e9) := fun hx => by rw [eA2]; exact hu_n (hu_ne hx hqn (by simp)) hx
  have hq2 : A2 q = some (ρ, qE G (nc + 1) g') := by rw [eA2]; exact hu_s
  have k2 : Ka ρ A1 A2 := fun _ _ h => old2 h
  have b2 : Sb ρ A1 A2 := fun _ _ _ _ h => old2 h
  have v2 : WR G A2 ρ xa N T now money := v1.sv (fun _ _ _ _ _ h => old2 h)
  have hT2 := old2 (old1 h1)
  refine fp_X7_22 (q := q) hx hb hts hown hK hM hT2 dX7_combine_56 (fun H locs hM => ?_)
  obtain ⟨A3, eA3⟩ : ∃ A, A = hu A2 tt ρ (toldE xa b d fa q ta ea ka oa) := ⟨_, rfl⟩
  replace hM := hM.eq eA3.symm
  have k3 : Ka ρ A2 A3 := by rw [eA3]; exact Ka.obj hT2
  have b3 : Sb ρ A2 A3 := by rw [eA3]; exact Sb.up hT2
  have v3 : WR G A3 ρ xa N T now money := by rw [eA3]; exact v2.up hT2 (by omega)
  have hT3 : A3 tt = some (ρ, toldE xa b d fa q ta ea ka oa) := by rw [eA3]; exact hu_s
  refine lv_aload_n hx hb dX7_combine_59 rfl (lv_at hl 0 rfl) ?_
  refine fg_X7_10 hx hb hts hown hK hM hT3 dX7_combine_60 ?_
  refine lv_iload_n hx hb dX7_combine_63 rfl (lv_at hl 1 rfl) ?_
  refine lv_iload_n hx hb dX7_combine_64 rfl (lv_at hl 2 rfl) ?_
  refine r_combine hx hb hml hl.1 hown hts hK hX hst9 hM v3 hk wm_X7_78 ⟨Nat.le_of_ble_eq_true rfl, Nat.le_of_ble_eq_true rfl⟩ ⟨Nat.le_of_ble_eq_true rfl, by show 0 + 10 + (nc + 1) + 60 ≤ 200; omega⟩ (Nat.le_of_ble_eq_true rfl) dX7_combine_65 (fun M4 H locs v4 s4 hM => ?_)
  have k4 : Ka ρ A3 M4 := Ka.sx s4 (by omega)
  have b4 : Sb ρ A3 M4 := Sb.sx s4
  have hT4 : M4 tt = some (ρ, toldE xa b d fa q ta ea ka oa) := s4 _ _ _ (by omega) hT3
  have hq4 : M4 q = some (ρ, qE G (nc + 1) g') := k4 _ _ (k3 _ _ hq2)
  refine lv_aload_n hx hb dX7_combine_68 rfl (lv_at hl 0 rfl) ?_
  refine fg_X7_22 hx hb hts hown hK hM hT4 dX7_combine_69 ?_
  refine g_alen hx hb hK hM hq4 (j := 1) rfl (v := nI (nc + 1)) rfl dX7_combine_72 ?_
  refine lv_iconst (v := (1 : Int32)) hx hb dX7_combine_73 (by decide) ?_
  refine lv_isub hx hb dX7_combine_74 ?_
  rw [nI_pred]
  refine lv_icmp_ne (tgt := 82) hx hb dX7_combine_75 (by decide) (fun c1 => absurd (by rw [hN]) c1) (fun c1 => ?_)
  refine lv_iconst (v := (1 : Int32)) hx hb dX7_combine_78 (by decide) ?_
  refine lv_goto (tgt := 83) hx hb dX7_combine_79 (by decide) ?_
  have kk : Ka ρ M M4 := ((k1.tr k2).tr k3).tr k4
  have bb : Sb ρ M M4 := ((b1.tr b2).tr b3).tr b4
  have hF : AA G M4 ρ q (nc + 1) := by
    refine ⟨g', hq4, fun i hi => ?_⟩
    by_cases hin : i = nc
    · subst hin
      exact ⟨y, _, _, hg2, k4 _ _ (k3 _ _ (k2 _ _ hy1))⟩
    · obtain ⟨y9, w9, f9, q1, q2⟩ := hg i (by omega)
      exact ⟨y9, w9, f9, (hg1 i (by omega)).trans q1, kk _ _ q2⟩
  exact g_zret (v := 1) hx hb hr hlocks hM (Nat.le_of_ble_eq_true rfl) (by show 0 + 10 + (nc + 1) + 60 ≤ 200; omega) (by decide) ⟨rfl, ⟨_, _, _, _, _, _, hT4, h2.keep kk, hF, h4.keep kk, h5.keep kk, v4⟩, bb⟩ dX7_combine_83
set_option maxHeartbeats 4000000 in
set_option maxRecDepth 100000 in
theorem c_X7_truck (l : Launch) (hst9 : l.stackTraces = false) (G : GG) (M : HM) (b L : Nat) (xs : Nat → Int32) (ρ tt xa d nf nc nt ne : Nat) (B : Nat → Int32) (z : Int32) (N : Nat → Nat) (T : Tb) (now money : Int32) (hT : TO G M ρ tt xa b d nf nc nt ne B z N T now money) (p0 : Int32) (hk : kc_X6_truck N T 0 now 400 money p0 = 0) (hN : N 2 = nt) (hn : nt ≤ 8) : Si l yX7_truck (.code yX7_truck cX7_truck 2 (some .boolean) :: AL) 9 400 4 200 [.ref tt, .int p0] G b L xs M (fun r M' => r = 1 ∧ TO G M' ρ tt xa b d nf nc (nt + 1) ne B z (nu N 2 (N 2 + 1)) (tu T 2 (N 2) (R_X5_init_0 (fun _ => 0) p0)) now money ∧ Sb ρ M M') := by
  refine Si.go (by decide) (Nat.le_of_ble_eq_true rfl) ?_
  intro p e s m below meth c ls hx hb hr hml hown hlocks hnm hts hS hK hX hM hl
  have hown : s.vm.findClass RX7 = some m.cls := hown
  have hl : lv_has ls 2 [(0, .ref tt), (1, .int p0)] := hl
  obtain ⟨fa, ca, ta, ea, ka, oa, h1, h2, h3, h4, h5, h6⟩ := hT
  obtain ⟨g, ha, hg⟩ := id h4
  refine lv_aload_n hx hb dX7_truck_0 rfl (lv_at hl 0 rfl) ?_
  refine lv_aload_n hx hb dX7_truck_1 rfl (lv_at hl 0 rfl) ?_
  refine fg_X7_25 hx hb hts hown hK hM h1 dX7_truck_2 ?_
  refine lv_bipush (v := (10 : Int32)) hx hb dX7_truck_5 (by decide) ?_
  refine g_newa (atype := .int) (ty := .int) (j := 0) (a0 := (10, .inl (fun _ => 0))) hx hb hK hM hts wa_int rfl rfl (N' := 10) (fun _ => rfl) (by decide) (by decide) (by decide) ρ (Nat.le_of_ble_eq_true rfl) (Nat.le_of_ble_eq_true rfl) dX7_truck_7 (fun y H hyn hM => ?_)
  replace hM := hM.eq (congrArg (fun f => hu M y ρ (iE G 10 f)) rw10_0)
  refine lv_dup hx hb dX7_truck_9 rfl ?_
  refine lv_iconst (v := (0 : Int32)) hx hb dX7_truck_10 (by decide) ?_
  refine lv_iload_n hx hb dX7_truck_11 rfl (lv_at hl 1 rfl) ?_
  refine is10_0 hx hb hK hM hu_s dX7_truck_12 (fun H locs hM => ?_)
  replace hM := hM.eq (hu_u _ _ _ _ _ _)
  refine lv_dup hx hb dX7_truck_13 rfl ?_
  refine lv_iconst (v := (1 : Int32)) hx hb dX7_truck_14 (by decide) ?_
  refine lv_iconst (v := (0 : Int32)) hx hb dX7_truck_15 (by decide) ?_
  refine is10_1 hx hb hK hM hu_s dX7_truck_16 (fun H locs hM => ?_)
  replace hM := hM.eq (hu_u _ _ _ _ _ _)
  refine lv_dup hx hb dX7_truck_17 rfl ?_
  refine lv_iconst (v := (2 : Int32)) hx hb dX7_truck_18 (by decide) ?_
  refine lv_iconst (v := (-1 : Int32)) hx hb dX7_truck_19 (by decide) ?_
  refine is10_2 hx hb hK hM hu_s dX7_truck_20 (fun H locs hM => ?_)
  replace hM := hM.eq (hu_u _ _ _ _ _ _)
  refine lv_dup hx hb dX7_truck_21 rfl ?_
  refine lv_iconst (v := (3 : Int32)) hx hb dX7_truck_22 (by decide) ?_
  refine lv_iconst (v := (0 : Int32)) hx hb dX7_truck_23 (by decide) ?_
  refine is10_3 hx hb hK hM hu_s dX7_truck_24 (fun H locs hM => ?_)
  replace hM := hM.eq (hu_u _ _ _ _ _ _)
  refine lv_dup hx hb dX7_truck_25 rfl ?_
  refine lv_iconst (v := (4 : Int32)) hx hb dX7_truck_26 (by decide) ?_
  refine lv_iconst (v := (0 : Int32)) hx hb dX7_truck_27 (by decide) ?_
  refine is10_4 hx hb hK hM hu_s dX7_truck_28 (fun H locs hM => ?_)
  replace hM := hM.eq (hu_u _ _ _ _ _ _)
  refine lv_dup hx hb dX7_truck_29 rfl ?_
  refine lv_iconst (v := (5 : Int32)) hx hb dX7_truck_30 (by decide) ?_
  refine lv_iconst (v := (0 : Int32)) hx hb dX7_truck_31 (by decide) ?_
  refine is10_5 hx hb hK hM hu_s dX7_truck_32 (fun H locs hM => ?_)
  replace hM := hM.eq (hu_u _ _ _ _ _ _)
  refine lv_dup hx hb dX7_truck_33 rfl ?_
  refine lv_bipush (v := (6 : Int32)) hx hb dX7_truck_34 (by decide) ?_
  refine lv_iconst (v := (0 : Int32)) hx hb dX7_truck_36 (by decide) ?_
  refine is10_6 hx hb hK hM hu_s dX7_truck_37 (fun H locs hM => ?_)
  replace hM := hM.eq (hu_u _ _ _ _ _ _)
  refine lv_dup hx hb dX7_truck_38 rfl ?_
  refine lv_bipush (v := (7 : Int32)) hx hb dX7_truck_39 (by decide) ?_
  refine lv_iconst (v := (0 : Int32)) hx hb dX7_truck_41 (by decide) ?_
  refine is10_7 hx hb hK hM hu_s dX7_truck_42 (fun H locs hM => ?_)
  replace hM := hM.eq (hu_u _ _ _ _ _ _)
  refine lv_dup hx hb dX7_truck_43 rfl ?_
  refine lv_bipush (v := (8 : Int32)) hx hb dX7_truck_44 (by decide) ?_
  refine lv_iconst (v := (0 : Int32)) hx hb dX7_truck_46 (by decide) ?_
  refine is10_8 hx hb hK hM hu_s dX7_truck_47 (fun H locs hM => ?_)
  replace hM := hM.eq (hu_u _ _ _ _ _ _)
  refine lv_dup hx hb dX7_truck_48 rfl ?_
  refine lv_bipush (v := (9 : Int32)) hx hb dX7_truck_49 (by decide) ?_
  refine lv_iconst (v := (0 : Int32)) hx hb dX7_truck_51 (by decide) ?_
  refine is10_9 hx hb hK hM hu_s dX7_truck_52 (fun H locs hM => ?_)
  replace hM := hM.eq (hu_u _ _ _ _ _ _)
  obtain ⟨A1, eA1⟩ : ∃ A, A = hu M y ρ (iE G 10 (rw10 p0 (0 : Int32) (-1 : Int32) (0 : Int32) (0 : Int32) (0 : Int32) (0 : Int32) (0 : Int32) (0 : Int32) (0 : Int32))) := ⟨_, rfl⟩
  replace hM := hM.eq eA1.symm
  have old1 : ∀ {x r9 : Nat} {e9 : va_E}, M x = some (r9, e9) → A1 x = some (r9, e9) := fun hx => by rw [eA1]; exact hu_n (hu_ne hx hyn (by simp)) hx
  have hy1 : A1 y = some (ρ, iE G 10 (rw10 p0 (0 : Int32) (-1 : Int32) (0 : Int32) (0 : Int32) (0 : Int32) (0 : Int32) (0 : Int32) (0 : Int32) (0 : Int32))) := by rw [eA1]; exact hu_s
  have k1 : Ka ρ M A1 := fun _ _ h => old1 h
  have b1 : Sb ρ M A1 := fun _ _ _ _ h => old1 h
  have v1 : WR G A1 ρ xa N T now money := h6.sv (fun _ _ _ _ _ h => old1 h)
  refine g_callSq (n9 := 2) (As := [.ref ta, .ref y]) (rest := [.ref tt]) hx hb hml hl.1 hown hts hK hM (c_X7_plus l G A1 ta ρ nt y ρ 10 ρ g (rw10 p0 (0 : Int32) (-1 : Int32) (0 : Int32) (0 : Int32) (0 : Int32) (0 : Int32) (0 : Int32) (0 : Int32) (0 : Int32)) (old1 ha) hy1 (fun i hi v hv => ?_) (by omega)) wm_X7_66 wt_X7_plus wn_X7 wc_X7_plus (by decide +kernel) ⟨Nat.le_of_ble_eq_true rfl, Nat.le_of_ble_eq_true rfl⟩ ⟨Nat.le_of_ble_eq_true rfl, by show 0 + 10 + (nt + 1) ≤ 200; omega⟩ rfl (Nat.le_of_ble_eq_true rfl) rfl dX7_truck_53 (fun r0 A2 H locs hq hM => ?_)
  · obtain ⟨y9, w9, f9, q1, q2⟩ := hg i hi
    rw [q1] at hv
    cases hv
    exact ⟨_, _, _, old1 q2⟩
  obtain ⟨q, g', er0, hqn, eA2, hg1, hg2⟩ := hq
  subst er0
  have old2 : ∀ {x r9 : Nat} {e9 : va_E}, A1 x = some (r9, e9) → A2 x = some (r9, e9) := fun hx => by rw [eA2]; exact hu_n (hu_ne hx hqn (by simp)) hx
  have hq2 : A2 q = some (ρ, qE G (nt + 1) g') := by rw [eA2]; exact hu_s
  have k2 : Ka ρ A1 A2 := fun _ _ h => old2 h
  have b2 : Sb ρ A1 A2 := fun _ _ _ _ h => old2 h
  have v2 : WR G A2 ρ xa N T now money := v1.sv (fun _ _ _ _ _ h => old2 h)
  have hT2 := old2 (old1 h1)
  refine fp_X7_25 (q := q) hx hb hts hown hK hM hT2 dX7_truck_56 (fun H locs hM => ?_)
  obtain ⟨A3, eA3⟩ : ∃ A, A = hu A2 tt ρ (toldE xa b d fa ca q ea ka oa) := ⟨_, rfl⟩
  replace hM := hM.eq eA3.symm
  have k3 : Ka ρ A2 A3 := by rw [eA3]; exact Ka.obj hT2
  have b3 : Sb ρ A2 A3 := by rw [eA3]; exact Sb.up hT2
  have v3 : WR G A3 ρ xa N T now money := by rw [eA3]; exact v2.up hT2 (by omega)
  have hT3 : A3 tt = some (ρ, toldE xa b d fa ca q ea ka oa) := by rw [eA3]; exact hu_s
  refine lv_aload_n hx hb dX7_truck_59 rfl (lv_at hl 0 rfl) ?_
  refine fg_X7_10 hx hb hts hown hK hM hT3 dX7_truck_60 ?_
  refine lv_iload_n hx hb dX7_truck_63 rfl (lv_at hl 1 rfl) ?_
  refine r_truck hx hb hml hl.1 hown hts hK hX hst9 hM v3 hk wm_X7_81 ⟨Nat.le_of_ble_eq_true rfl, Nat.le_of_ble_eq_true rfl⟩ ⟨Nat.le_of_ble_eq_true rfl, by show 0 + 10 + (nt + 1) + 60 ≤ 200; omega⟩ (Nat.le_of_ble_eq_true rfl) dX7_truck_64 (fun M4 H locs v4 s4 hM => ?_)
  have k4 : Ka ρ A3 M4 := Ka.sx s4 (by omega)
  have b4 : Sb ρ A3 M4 := Sb.sx s4
  have hT4 : M4 tt = some (ρ, toldE xa b d fa ca q ea ka oa) := s4 _ _ _ (by omega) hT3
  have hq4 : M4 q = some (ρ, qE G (nt + 1) g') := k4 _ _ (k3 _ _ hq2)
  refine lv_aload_n hx hb dX7_truck_67 rfl (lv_at hl 0 rfl) ?_
  refine fg_X7_25 hx hb hts hown hK hM hT4 dX7_truck_68 ?_
  refine g_alen hx hb hK hM hq4 (j := 1) rfl (v := nI (nt + 1)) rfl dX7_truck_71 ?_
  refine lv_iconst (v := (1 : Int32)) hx hb dX7_truck_72 (by decide) ?_
  refine lv_isub hx hb dX7_truck_73 ?_
  rw [nI_pred]
  refine lv_icmp_ne (tgt := 81) hx hb dX7_truck_74 (by decide) (fun c1 => absurd (by rw [hN]) c1) (fun c1 => ?_)
  refine lv_iconst (v := (1 : Int32)) hx hb dX7_truck_77 (by decide) ?_
  refine lv_goto (tgt := 82) hx hb dX7_truck_78 (by decide) ?_
  have kk : Ka ρ M M4 := ((k1.tr k2).tr k3).tr k4
  have bb : Sb ρ M M4 := ((b1.tr b2).tr b3).tr b4
  have hF : AA G M4 ρ q (nt + 1) := by
    refine ⟨g', hq4, fun i hi => ?_⟩
    by_cases hin : i = nt
    · subst hin
      exact ⟨y, _, _, hg2, k4 _ _ (k3 _ _ (k2 _ _ hy1))⟩
    · obtain ⟨y9, w9, f9, q1, q2⟩ := hg i (by omega)
      exact ⟨y9, w9, f9, (hg1 i (by omega)).trans q1, kk _ _ q2⟩
  exact g_zret (v := 1) hx hb hr hlocks hM (Nat.le_of_ble_eq_true rfl) (by show 0 + 10 + (nt + 1) + 60 ≤ 200; omega) (by decide) ⟨rfl, ⟨_, _, _, _, _, _, hT4, h2.keep kk, h3.keep kk, hF, h5.keep kk, v4⟩, bb⟩ dX7_truck_82
set_option maxHeartbeats 4000000 in
set_option maxRecDepth 100000 in
theorem c_X7_elevator (l : Launch) (hst9 : l.stackTraces = false) (G : GG) (M : HM) (b L : Nat) (xs : Nat → Int32) (ρ tt xa d nf nc nt ne : Nat) (B : Nat → Int32) (z : Int32) (N : Nat → Nat) (T : Tb) (now money : Int32) (hT : TO G M ρ tt xa b d nf nc nt ne B z N T now money) (p0 p1 p2 p3 p4 p5 : Int32) (hk : kc_X6_elevator N T 0 now 400 money p0 p1 p2 p3 p4 p5 = 0) (hN : N 3 = ne) (hn : ne ≤ 8) : Si l yX7_elevator (.code yX7_elevator cX7_elevator 7 (some .boolean) :: AL) 9 400 4 200 [.ref tt, .int p0, .int p1, .int p2, .int p3, .int p4, .int p5] G b L xs M (fun r M' => r = 1 ∧ TO G M' ρ tt xa b d nf nc nt (ne + 1) B z (nu N 3 (N 3 + 1)) (tu T 3 (N 3) (R_X1_init_0 (fun _ => 0) p0 p1 p2 p3 p4 p5)) now money ∧ Sb ρ M M') := by
  refine Si.go (by decide) (Nat.le_of_ble_eq_true rfl) ?_
  intro p e s m below meth c ls hx hb hr hml hown hlocks hnm hts hS hK hX hM hl
  have hown : s.vm.findClass RX7 = some m.cls := hown
  have hl : lv_has ls 7 [(0, .ref tt), (1, .int p0), (2, .int p1), (3, .int p2), (4, .int p3), (5, .int p4), (6, .int p5)] := hl
  obtain ⟨fa, ca, ta, ea, ka, oa, h1, h2, h3, h4, h5, h6⟩ := hT
  obtain ⟨g, ha, hg⟩ := id h5
  refine lv_aload_n hx hb dX7_elevator_0 rfl (lv_at hl 0 rfl) ?_
  refine lv_aload_n hx hb dX7_elevator_1 rfl (lv_at hl 0 rfl) ?_
  refine fg_X7_28 hx hb hts hown hK hM h1 dX7_elevator_2 ?_
  refine lv_bipush (v := (6 : Int32)) hx hb dX7_elevator_5 (by decide) ?_
  refine g_newa (atype := .int) (ty := .int) (j := 0) (a0 := (6, .inl (fun _ => 0))) hx hb hK hM hts wa_int rfl rfl (N' := 6) (fun _ => rfl) (by decide) (by decide) (by decide) ρ (Nat.le_of_ble_eq_true rfl) (Nat.le_of_ble_eq_true rfl) dX7_elevator_7 (fun y H hyn hM => ?_)
  replace hM := hM.eq (congrArg (fun f => hu M y ρ (iE G 6 f)) rw6_0)
  refine lv_dup hx hb dX7_elevator_9 rfl ?_
  refine lv_iconst (v := (0 : Int32)) hx hb dX7_elevator_10 (by decide) ?_
  refine lv_iload_n hx hb dX7_elevator_11 rfl (lv_at hl 1 rfl) ?_
  refine is6_0 hx hb hK hM hu_s dX7_elevator_12 (fun H locs hM => ?_)
  replace hM := hM.eq (hu_u _ _ _ _ _ _)
  refine lv_dup hx hb dX7_elevator_13 rfl ?_
  refine lv_iconst (v := (1 : Int32)) hx hb dX7_elevator_14 (by decide) ?_
  refine lv_iload_n hx hb dX7_elevator_15 rfl (lv_at hl 2 rfl) ?_
  refine is6_1 hx hb hK hM hu_s dX7_elevator_16 (fun H locs hM => ?_)
  replace hM := hM.eq (hu_u _ _ _ _ _ _)
  refine lv_dup hx hb dX7_elevator_17 rfl ?_
  refine lv_iconst (v := (2 : Int32)) hx hb dX7_elevator_18 (by decide) ?_
  refine lv_iload_n hx hb dX7_elevator_19 rfl (lv_at hl 3 rfl) ?_
  refine is6_2 hx hb hK hM hu_s dX7_elevator_20 (fun H locs hM => ?_)
  replace hM := hM.eq (hu_u _ _ _ _ _ _)
  refine lv_dup hx hb dX7_elevator_21 rfl ?_
  refine lv_iconst (v := (3 : Int32)) hx hb dX7_elevator_22 (by decide) ?_
  refine lv_iload hx hb dX7_elevator_23 (lv_at hl 4 rfl) ?_
  refine is6_3 hx hb hK hM hu_s dX7_elevator_25 (fun H locs hM => ?_)
  replace hM := hM.eq (hu_u _ _ _ _ _ _)
  refine lv_dup hx hb dX7_elevator_26 rfl ?_
  refine lv_iconst (v := (4 : Int32)) hx hb dX7_elevator_27 (by decide) ?_
  refine lv_iload hx hb dX7_elevator_28 (lv_at hl 5 rfl) ?_
  refine is6_4 hx hb hK hM hu_s dX7_elevator_30 (fun H locs hM => ?_)
  replace hM := hM.eq (hu_u _ _ _ _ _ _)
  refine lv_dup hx hb dX7_elevator_31 rfl ?_
  refine lv_iconst (v := (5 : Int32)) hx hb dX7_elevator_32 (by decide) ?_
  refine lv_iload hx hb dX7_elevator_33 (lv_at hl 6 rfl) ?_
  refine is6_5 hx hb hK hM hu_s dX7_elevator_35 (fun H locs hM => ?_)
  replace hM := hM.eq (hu_u _ _ _ _ _ _)
  obtain ⟨A1, eA1⟩ : ∃ A, A = hu M y ρ (iE G 6 (rw6 p0 p1 p2 p3 p4 p5)) := ⟨_, rfl⟩
  replace hM := hM.eq eA1.symm
  have old1 : ∀ {x r9 : Nat} {e9 : va_E}, M x = some (r9, e9) → A1 x = some (r9, e9) := fun hx => by rw [eA1]; exact hu_n (hu_ne hx hyn (by simp)) hx
  have hy1 : A1 y = some (ρ, iE G 6 (rw6 p0 p1 p2 p3 p4 p5)) := by rw [eA1]; exact hu_s
  have k1 : Ka ρ M A1 := fun _ _ h => old1 h
  have b1 : Sb ρ M A1 := fun _ _ _ _ h => old1 h
  have v1 : WR G A1 ρ xa N T now money := h6.sv (fun _ _ _ _ _ h => old1 h)
  refine g_callSq (n9 := 2) (As := [.ref ea, .ref y]) (rest := [.ref tt]) hx hb hml hl.1 hown hts hK hM (c_X7_plus l G A1 ea ρ ne y ρ 6 ρ g (rw6 p0 p1 p2 p3 p4 p5) (old1 ha) hy1 (fun i hi v hv => ?_) (by omega)) wm_X7_66 wt_X7_plus wn_X7 wc_X7_plus (by decide +kernel) ⟨Nat.le_of_ble_eq_true rfl, Nat.le_of_ble_eq_true rfl⟩ ⟨Nat.le_of_ble_eq_true rfl, by show 0 + 6 + (ne + 1) ≤ 200; omega⟩ rfl (Nat.le_of_ble_eq_true rfl) rfl dX7_elevator_36 (fun r0 A2 H locs hq hM => ?_)
  · obtain ⟨y9, w9, f9, q1, q2⟩ := hg i hi
    rw [q1] at hv
    cases hv
    exact ⟨_, _, _, old1 q2⟩
  obtain ⟨q, g', er0, hqn, eA2, hg1, hg2⟩ := hq
  subst er0
  have old2 : ∀ {x r9 : Nat} {e9 : va_E}, A1 x = some (r9, e9) → A2 x = some (r9, e9) := fun hx => by rw [eA2]; exact hu_n (hu_ne hx hqn (by simp)) hx
  have hq2 : A2 q = some (ρ, qE G (ne + 1) g') := by rw [eA2]; exact hu_s
  have k2 : Ka ρ A1 A2 := fun _ _ h => old2 h
  have b2 : Sb ρ A1 A2 := fun _ _ _ _ h => old2 h
  have v2 : WR G A2 ρ xa N T now money := v1.sv (fun _ _ _ _ _ h => old2 h)
  have hT2 := old2 (old1 h1)
  refine fp_X7_28 (q := q) hx hb hts hown hK hM hT2 dX7_elevator_39 (fun H locs hM => ?_)
  obtain ⟨A3, eA3⟩ : ∃ A, A = hu A2 tt ρ (toldE xa b d fa ca ta q ka oa) := ⟨_, rfl⟩
  replace hM := hM.eq eA3.symm
  have k3 : Ka ρ A2 A3 := by rw [eA3]; exact Ka.obj hT2
  have b3 : Sb ρ A2 A3 := by rw [eA3]; exact Sb.up hT2
  have v3 : WR G A3 ρ xa N T now money := by rw [eA3]; exact v2.up hT2 (by omega)
  have hT3 : A3 tt = some (ρ, toldE xa b d fa ca ta q ka oa) := by rw [eA3]; exact hu_s
  refine lv_aload_n hx hb dX7_elevator_42 rfl (lv_at hl 0 rfl) ?_
  refine fg_X7_10 hx hb hts hown hK hM hT3 dX7_elevator_43 ?_
  refine lv_iload_n hx hb dX7_elevator_46 rfl (lv_at hl 1 rfl) ?_
  refine lv_iload_n hx hb dX7_elevator_47 rfl (lv_at hl 2 rfl) ?_
  refine lv_iload_n hx hb dX7_elevator_48 rfl (lv_at hl 3 rfl) ?_
  refine lv_iload hx hb dX7_elevator_49 (lv_at hl 4 rfl) ?_
  refine lv_iload hx hb dX7_elevator_51 (lv_at hl 5 rfl) ?_
  refine lv_iload hx hb dX7_elevator_53 (lv_at hl 6 rfl) ?_
  refine r_elevator hx hb hml hl.1 hown hts hK hX hst9 hM v3 hk wm_X7_85 ⟨Nat.le_of_ble_eq_true rfl, Nat.le_of_ble_eq_true rfl⟩ ⟨Nat.le_of_ble_eq_true rfl, by show 0 + 6 + (ne + 1) + 60 ≤ 200; omega⟩ (Nat.le_of_ble_eq_true rfl) dX7_elevator_55 (fun M4 H locs v4 s4 hM => ?_)
  have k4 : Ka ρ A3 M4 := Ka.sx s4 (by omega)
  have b4 : Sb ρ A3 M4 := Sb.sx s4
  have hT4 : M4 tt = some (ρ, toldE xa b d fa ca ta q ka oa) := s4 _ _ _ (by omega) hT3
  have hq4 : M4 q = some (ρ, qE G (ne + 1) g') := k4 _ _ (k3 _ _ hq2)
  refine lv_aload_n hx hb dX7_elevator_58 rfl (lv_at hl 0 rfl) ?_
  refine fg_X7_28 hx hb hts hown hK hM hT4 dX7_elevator_59 ?_
  refine g_alen hx hb hK hM hq4 (j := 1) rfl (v := nI (ne + 1)) rfl dX7_elevator_62 ?_
  refine lv_iconst (v := (1 : Int32)) hx hb dX7_elevator_63 (by decide) ?_
  refine lv_isub hx hb dX7_elevator_64 ?_
  rw [nI_pred]
  refine lv_icmp_ne (tgt := 72) hx hb dX7_elevator_65 (by decide) (fun c1 => absurd (by rw [hN]) c1) (fun c1 => ?_)
  refine lv_iconst (v := (1 : Int32)) hx hb dX7_elevator_68 (by decide) ?_
  refine lv_goto (tgt := 73) hx hb dX7_elevator_69 (by decide) ?_
  have kk : Ka ρ M M4 := ((k1.tr k2).tr k3).tr k4
  have bb : Sb ρ M M4 := ((b1.tr b2).tr b3).tr b4
  have hF : AA G M4 ρ q (ne + 1) := by
    refine ⟨g', hq4, fun i hi => ?_⟩
    by_cases hin : i = ne
    · subst hin
      exact ⟨y, _, _, hg2, k4 _ _ (k3 _ _ (k2 _ _ hy1))⟩
    · obtain ⟨y9, w9, f9, q1, q2⟩ := hg i (by omega)
      exact ⟨y9, w9, f9, (hg1 i (by omega)).trans q1, kk _ _ q2⟩
  exact g_zret (v := 1) hx hb hr hlocks hM (Nat.le_of_ble_eq_true rfl) (by show 0 + 6 + (ne + 1) + 60 ≤ 200; omega) (by decide) ⟨rfl, ⟨_, _, _, _, _, _, hT4, h2.keep kk, h3.keep kk, h4.keep kk, hF, v4⟩, bb⟩ dX7_elevator_73
set_option maxHeartbeats 4000000 in
set_option maxRecDepth 100000 in
theorem c_X7_crop (l : Launch) (hst9 : l.stackTraces = false) (G : GG) (M : HM) (b L : Nat) (xs : Nat → Int32) (ρ tt xa d i nf nc nt ne : Nat) (B : Nat → Int32) (z : Int32) (N : Nat → Nat) (T : Tb) (now money : Int32) (hT : TO G M ρ tt xa b d nf nc nt ne B z N T now money) (p1 p2 : Int32) (hk : kc_X6_crop N T 0 now 400 money (nI i) p1 p2 = 0) (hi : i + 1 = nf) (hz : T 0 i 6 = z) (hn : nf ≤ 8) : Si l yX7_crop (.code yX7_crop cX7_crop 5 (some .boolean) :: AL) 9 400 1 6 [.ref tt, .int (nI i), .int p1, .int p2] G b L xs M (fun r M' => r = 1 ∧ TO G M' ρ tt xa b d nf nc nt ne B p1 N (tu (tu T 0 (ix (nI i)) (upd (T 0 (ix (nI i))) 6 p1)) 0 (ix (nI i)) (upd (upd (T 0 (ix (nI i))) 6 p1) 7 p2)) now money ∧ Sb ρ M M') := by
  refine Si.go (by decide) (Nat.le_of_ble_eq_true rfl) ?_
  intro p e s m below meth c ls hx hb hr hml hown hlocks hnm hts hS hK hX hM hl
  have hown : s.vm.findClass RX7 = some m.cls := hown
  have hl : lv_has ls 5 [(0, .ref tt), (1, .int (nI i)), (2, .int p1), (3, .int p2)] := hl
  obtain ⟨fa, ca, ta, ea, ka, oa, h1, h2, h3, h4, h5, h6⟩ := hT
  obtain ⟨g, ha, hg⟩ := id h2
  obtain ⟨y, f, q1, q2, q3, q4⟩ := hg i (by omega)
  have en : (nI i).toNatClampNeg = i := nI_clamp (by omega)
  have e9 : va_rf (g (nI i).toNatClampNeg) = .ref y := by rw [en, q1]; rfl
  refine lv_aload_n hx hb dX7_crop_0 rfl (lv_at hl 0 rfl) ?_
  refine fg_X7_18 hx hb hts hown hK hM h1 dX7_crop_1 ?_
  refine lv_iload_n hx hb dX7_crop_4 rfl (lv_at hl 1 rfl) ?_
  refine g_aald hx hb hK hM (j := 1) ha rfl rfl (vp_in_nI (show i < nf by omega) (by omega)) dX7_crop_5 ?_
  rw [e9]
  refine lv_iconst (v := (4 : Int32)) hx hb dX7_crop_6 (by decide) ?_
  refine g_iald hx hb hK hM q2 (i := (4 : Int32)) (by unfold vp_in; decide) dX7_crop_7 ?_
  rw [show f (4 : Int32).toNatClampNeg = z from q4 hi]
  refine lv_istore (lv' := [(4, .int z), (0, .ref tt), (1, .int (nI i)), (2, .int p1), (3, .int p2)]) hx hb dX7_crop_8 hl (by decide) rfl (fun ls hl => ?_)
  have nT : tt ≠ y := hu_ne h1 q2 (by intro z9; injection z9 with z9; injection z9 with z1 z2; cases z2)
  have nF : fa ≠ y := hu_ne ha q2 (by intro z9; injection z9 with z9; injection z9 with z1 z2; injection z2 with z3; injection z3 with z4 z5; injection z5 with z6 z7; cases z7)
  refine lv_aload_n hx hb dX7_crop_10 rfl (lv_at hl 1 rfl) ?_
  refine fg_X7_18 hx hb hts hown hK hM h1 dX7_crop_11 ?_
  refine lv_iload_n hx hb dX7_crop_14 rfl (lv_at hl 2 rfl) ?_
  refine g_aald hx hb hK hM (j := 1) ha rfl rfl (vp_in_nI (show i < nf by omega) (by omega)) dX7_crop_15 ?_
  rw [e9]
  refine lv_iconst (v := (4 : Int32)) hx hb dX7_crop_16 (by decide) ?_
  refine lv_iload_n hx hb dX7_crop_17 rfl (lv_at hl 3 rfl) ?_
  refine g_iast hx hb hK hM q2 (i := (4 : Int32)) (by unfold vp_in; decide) dX7_crop_18 (fun H locs hM => ?_)
  have hM' := hM
  clear hM
  have hM := hM'
  clear hM'
  refine lv_aload_n hx hb dX7_crop_19 rfl (lv_at hl 1 rfl) ?_
  refine fg_X7_18 hx hb hts hown hK hM (hu_n nT h1) dX7_crop_20 ?_
  refine lv_iload_n hx hb dX7_crop_23 rfl (lv_at hl 2 rfl) ?_
  refine g_aald hx hb hK hM (j := 1) (hu_n nF ha) rfl rfl (vp_in_nI (show i < nf by omega) (by omega)) dX7_crop_24 ?_
  rw [e9]
  refine lv_iconst (v := (5 : Int32)) hx hb dX7_crop_25 (by decide) ?_
  refine lv_iload_n hx hb dX7_crop_26 rfl (lv_at hl 4 rfl) ?_
  refine g_iast hx hb hK hM hu_s (i := (5 : Int32)) (by unfold vp_in; decide) dX7_crop_27 (fun H locs hM => ?_)
  replace hM := hM.eq (hu_u _ _ _ _ _ _)
  obtain ⟨f2, ef2⟩ : ∃ f2, f2 = upd (upd f (4 : Int32).toNatClampNeg p1) (5 : Int32).toNatClampNeg p2 := ⟨_, rfl⟩
  obtain ⟨A1, eA1⟩ : ∃ A, A = hu M y ρ (iE G 11 f2) := ⟨_, rfl⟩
  replace hM := hM.eq (show _ = A1 by rw [eA1, ef2])
  have hT1 : A1 tt = some (ρ, toldE xa b d fa ca ta ea ka oa) := by rw [eA1]; exact hu_n nT h1
  have b1 : Sb ρ M A1 := by rw [eA1]; exact Sb.up q2
  have v1 : WR G A1 ρ xa N T now money := by rw [eA1]; exact h6.up q2 (by omega)
  have f29 : f2 9 = f 9 := by rw [ef2, upd_o (by decide), upd_o (by decide)]
  have f24 : f2 4 = p1 := by rw [ef2, upd_o (by decide)]; exact upd_s
  have old : ∀ {x r9 : Nat} {e9 : va_E}, x ≠ y → M x = some (r9, e9) → A1 x = some (r9, e9) := fun hn hx => by rw [eA1]; exact hu_n hn hx
  have hF1 : FA G A1 ρ fa nf B p1 := by
    refine ⟨g, old nF ha, fun i2 hi2 => ?_⟩
    obtain ⟨y2, g2, a1, a2, a3, a4⟩ := hg i2 hi2
    by_cases hy : y2 = y
    · subst hy
      have eg : g2 = f := by
        rw [q2] at a2
        injection a2 with a2
        injection a2 with z1 z2
        injection z2 with z3
        injection z3 with z4 z5
        injection z5 with z6 z7
        injection z7 with z8
        exact z8.symm
      exact ⟨y2, f2, a1, by rw [eA1]; exact hu_s, by rw [f29, ← eg]; exact a3, fun _ => f24⟩
    · refine ⟨y2, g2, a1, old hy a2, a3, fun z9 => ?_⟩
      have : i2 = i := by omega
      subst this
      rw [q1] at a1
      cases a1
      exact absurd rfl hy
  have aaK : ∀ {a n : Nat}, AA G M ρ a n → AA G A1 ρ a n := fun {a n} h => by
    obtain ⟨g3, a1, a2⟩ := h
    refine ⟨g3, old (hu_ne a1 q2 (by intro z9; injection z9 with z9; injection z9 with z1 z2; injection z2 with z3; injection z3 with z4 z5; injection z5 with z6 z7; cases z7)) a1, fun i3 hi3 => ?_⟩
    obtain ⟨y3, w3, f3, c1, c2⟩ := a2 i3 hi3
    by_cases hy : y3 = y
    · subst hy
      exact ⟨y3, 11, f2, c1, by rw [eA1]; exact hu_s⟩
    · exact ⟨y3, w3, f3, c1, old hy c2⟩
  refine lv_aload_n hx hb dX7_crop_28 rfl (lv_at hl 1 rfl) ?_
  refine fg_X7_10 hx hb hts hown hK hM hT1 dX7_crop_29 ?_
  refine lv_iload_n hx hb dX7_crop_32 rfl (lv_at hl 2 rfl) ?_
  refine lv_iload_n hx hb dX7_crop_33 rfl (lv_at hl 3 rfl) ?_
  refine lv_iload_n hx hb dX7_crop_34 rfl (lv_at hl 4 rfl) ?_
  refine r_crop hx hb hml hl.1 hown hts hK hX hst9 hM v1 hk wm_X7_74 ⟨Nat.le_of_ble_eq_true rfl, Nat.le_of_ble_eq_true rfl⟩ ⟨Nat.le_of_ble_eq_true rfl, Nat.le_of_ble_eq_true rfl⟩ (Nat.le_of_ble_eq_true rfl) dX7_crop_35 (fun M4 H locs v4 s4 hM => ?_)
  have k4 : Ka ρ A1 M4 := Ka.sx s4 (by omega)
  refine lv_iload hx hb dX7_crop_38 (lv_at hl 0 rfl) ?_
  have hqv : qv_X6_crop N T 0 now 400 money (nI i) p1 p2 = z := by
    show T 0 (ix (nI i)) 6 = z
    rw [show ix (nI i) = i from en]
    exact hz
  refine lv_icmp_ne (tgt := 47) hx hb dX7_crop_40 (by decide) (fun c1 => absurd hqv c1) (fun c1 => ?_)
  refine lv_iconst (v := (1 : Int32)) hx hb dX7_crop_43 (by decide) ?_
  refine lv_goto (tgt := 48) hx hb dX7_crop_44 (by decide) ?_
  exact g_zret (v := 1) hx hb hr hlocks hM (Nat.le_of_ble_eq_true rfl) (Nat.le_of_ble_eq_true rfl) (by decide) ⟨rfl, ⟨_, _, _, _, _, _, s4 _ _ _ (by omega) hT1, hF1.keep k4, (aaK h3).keep k4, (aaK h4).keep k4, (aaK h5).keep k4, v4⟩, b1.tr (Sb.sx s4)⟩ dX7_crop_48

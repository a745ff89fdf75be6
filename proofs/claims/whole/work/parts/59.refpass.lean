/-- what a ticket's pay needs -/
def PyOK (N : Nat → Nat) (U : Tb) (i : Nat) : Prop := (¬ U 4 i 0 < 0 ∧ ix (U 4 i 0) < N 0) ∧ (¬ U 0 (ix (U 4 i 0)) 0 < 0 ∧ ix (U 0 (ix (U 4 i 0)) 0) < 4)
def mo_X8_pay (N : Nat → Nat) (U : Tb) (now th pr mo : Int32) (F Lx : Row) (i : Nat) : Int32 := (mo + ((2 : Int32) * ((U 4 i 1) / (10 : Int32))))
def f_X8_pay (N : Nat → Nat) (U : Tb) (now th pr mo : Int32) (F Lx : Row) (i : Nat) : Row := (upd F (ix (U 0 (ix (U 4 i 0)) 0)) ((F (ix (U 0 (ix (U 4 i 0)) 0))) + (((((U 4 i 1) * pr) * ((100 : Int32) - (U 4 i 3))) / (10000 : Int32)) - ((((((U 4 i 1) * pr) * ((100 : Int32) - (U 4 i 3))) / (10000 : Int32)) * (U 0 (ix (U 4 i 0)) 10)) / (100 : Int32)))))
def lx_X8_pay (N : Nat → Nat) (U : Tb) (now th pr mo : Int32) (F Lx : Row) (i : Nat) : Row := (upd Lx (ix (U 0 (ix (U 4 i 0)) 0)) ((Lx (ix (U 0 (ix (U 4 i 0)) 0))) + ((((((U 4 i 1) * pr) * ((100 : Int32) - (U 4 i 3))) / (10000 : Int32)) * (U 0 (ix (U 4 i 0)) 10)) / (100 : Int32))))
def u_X8_pay (N : Nat → Nat) (U : Tb) (now th pr mo : Int32) (F Lx : Row) (i : Nat) : Tb := (tu U 4 i (rw7 (U 4 i 0) (U 4 i 1) (U 4 i 2) (U 4 i 3) (U 4 i 4) (U 4 i 5) ((((U 4 i 1) * pr) * ((100 : Int32) - (U 4 i 3))) / (10000 : Int32))))
set_option maxHeartbeats 4000000 in
set_option maxRecDepth 100000 in
theorem c_X8_pay (l : Launch) (G : GG) (M : HM) (tx ma h0 fa lb t t2 : Nat) (Z : LZ) (N : Nat → Nat) (U : Tb) (now th pr mo : Int32) (F Lx : Row) (i : Nat) (hO : XdR G M tx ma h0 fa lb th pr mo F Lx) (hL : MdR G M t h0 Z N U now) (d1 : tx ≠ t) (d2 : tx ≠ t2) (d3 : t ≠ t2) (hi : i < lmR N 4) (hpy : PyOK N U i) : Mv l yX8_pay (.code yX8_pay cX8_pay 4 none :: AL) 0 0 0 0 [.ref ma, .ref (Z.2.1 4 i)] G M (fun M' => XP G M M' tx ma h0 fa lb t t2 N (u_X8_pay N U now th pr mo F Lx i) now th pr (mo_X8_pay N U now th pr mo F Lx i) (f_X8_pay N U now th pr mo F Lx i) (lx_X8_pay N U now th pr mo F Lx i)) := by
  refine Mv.go (by decide) (Nat.le_of_ble_eq_true rfl) ?_
  intro p e s m below meth c ls hx hb hr hml hown hlocks hname hts hK hM hl
  have hown : s.vm.findClass RX8 = some m.cls := hown
  have hl : lv_has ls 4 [(0, .ref ma), (1, .ref (Z.2.1 4 i))] := hl
  have hn0 := hL.cnt (k := 0) (by decide)
  have hn09 : N 0 ≤ 8 := by have : N 0 ≤ 8 := hn0; omega
  have hn1 := hL.cnt (k := 1) (by decide)
  have hn19 : N 1 ≤ 8 := by have : N 1 ≤ 4 := hn1; omega
  have hn2 := hL.cnt (k := 2) (by decide)
  have hn29 : N 2 ≤ 8 := by have : N 2 ≤ 4 := hn2; omega
  have hn3 := hL.cnt (k := 3) (by decide)
  have hn39 : N 3 ≤ 8 := by have : N 3 ≤ 3 := hn3; omega
  refine lv_aload_n hx hb dX8_pay_0 rfl (lv_at hl 0 rfl) ?_
  refine fg_X8_10 hx hb hts hown hK hM hO.1 dX8_pay_1 ?_
  refine fg_X8_57 hx hb hts hown hK hM hL.1 dX8_pay_4 ?_
  refine lv_aload_n hx hb dX8_pay_7 rfl (lv_at hl 1 rfl) ?_
  refine lv_iconst (v := (0 : Int32)) hx hb dX8_pay_8 (by decide) ?_
  refine ia7_0 hx hb hK hM (hL.row (k := 4) (by decide) hi) dX8_pay_9 ?_
  refine g_aaldR hx hb hK hM (hL.outer (k := 0) (by decide)) hpy.1.1 (Nat.lt_of_lt_of_le hpy.1.2 hn0) dX8_pay_10 ?_
  refine lv_astore_n (lv' := [(2, .ref (Z.2.1 0 (ix (U 4 i 0)))), (0, .ref ma), (1, .ref (Z.2.1 4 i))]) hx hb dX8_pay_11 rfl hl (by decide) rfl (fun ls hl => ?_)
  refine lv_aload_n hx hb dX8_pay_12 rfl (lv_at hl 2 rfl) ?_
  refine lv_bipush (v := (6 : Int32)) hx hb dX8_pay_13 (by decide) ?_
  refine lv_aload_n hx hb dX8_pay_15 rfl (lv_at hl 2 rfl) ?_
  refine lv_iconst (v := (1 : Int32)) hx hb dX8_pay_16 (by decide) ?_
  refine ia7_1 hx hb hK hM (hL.row (k := 4) (by decide) hi) dX8_pay_17 ?_
  refine lv_aload_n hx hb dX8_pay_18 rfl (lv_at hl 1 rfl) ?_
  refine fg_X8_23 hx hb hts hown hK hM hO.1 dX8_pay_19 ?_
  refine lv_imul hx hb dX8_pay_22 ?_
  refine lv_bipush (v := (100 : Int32)) hx hb dX8_pay_23 (by decide) ?_
  refine lv_aload_n hx hb dX8_pay_25 rfl (lv_at hl 2 rfl) ?_
  refine lv_iconst (v := (3 : Int32)) hx hb dX8_pay_26 (by decide) ?_
  refine ia7_3 hx hb hK hM (hL.row (k := 4) (by decide) hi) dX8_pay_27 ?_
  refine lv_isub hx hb dX8_pay_28 ?_
  refine lv_imul hx hb dX8_pay_29 ?_
  refine lv_sipush (v := (10000 : Int32)) hx hb dX8_pay_30 (by decide) ?_
  refine lv_idiv hx hb dX8_pay_33 (by decide) ?_
  refine is7_6 hx hb hK hM (hL.row (k := 4) (by decide) hi) dX8_pay_34 (fun H locs hM => ?_)
  refine lv_aload_n hx hb dX8_pay_35 rfl (lv_at hl 2 rfl) ?_
  refine lv_bipush (v := (6 : Int32)) hx hb dX8_pay_36 (by decide) ?_
  refine ia7_6 hx hb hK hM hu_s dX8_pay_38 ?_
  refine lv_aload_n hx hb dX8_pay_39 rfl (lv_at hl 0 rfl) ?_
  refine lv_bipush (v := (10 : Int32)) hx hb dX8_pay_40 (by decide) ?_
  refine ia11_10 hx hb hK hM (hu_n (hL.rne (by decide) (by decide) (Nat.lt_of_lt_of_le hpy.1.2 hn0) hi (by decide)) (hL.row (k := 0) (by decide) (Nat.lt_of_lt_of_le hpy.1.2 hn0))) dX8_pay_42 ?_
  refine lv_imul hx hb dX8_pay_43 ?_
  refine lv_bipush (v := (100 : Int32)) hx hb dX8_pay_44 (by decide) ?_
  refine lv_idiv hx hb dX8_pay_46 (by decide) ?_
  refine lv_istore_n (lv' := [(3, .int ((((((U 4 i 1) * pr) * ((100 : Int32) - (U 4 i 3))) / (10000 : Int32)) * (U 0 (ix (U 4 i 0)) 10)) / (100 : Int32))), (2, .ref (Z.2.1 0 (ix (U 4 i 0)))), (0, .ref ma), (1, .ref (Z.2.1 4 i))]) hx hb dX8_pay_47 rfl hl (by decide) rfl (fun ls hl => ?_)
  refine lv_aload_n hx hb dX8_pay_48 rfl (lv_at hl 2 rfl) ?_
  refine fg_X8_20 hx hb hts hown hK hM (hu_n (hu_ne hO.1 (hL.row (k := 4) (by decide) hi) (rg_ne d1)) hO.1) dX8_pay_49 ?_
  refine lv_aload_n hx hb dX8_pay_52 rfl (lv_at hl 1 rfl) ?_
  refine lv_iconst (v := (0 : Int32)) hx hb dX8_pay_53 (by decide) ?_
  refine ia11_0 hx hb hK hM (hu_n (hL.rne (by decide) (by decide) (Nat.lt_of_lt_of_le hpy.1.2 hn0) hi (by decide)) (hL.row (k := 0) (by decide) (Nat.lt_of_lt_of_le hpy.1.2 hn0))) dX8_pay_54 ?_
  refine lv_dup2_11 hx hb dX8_pay_55 rfl rfl ?_
  obtain ⟨M1, eM1⟩ : ∃ z, z = hu M (Z.2.1 4 i) t (.inl (G.2.1 0, 7, .inl (rw7 (U 4 i 0) (U 4 i 1) (U 4 i 2) (U 4 i 3) (U 4 i 4) (U 4 i 5) ((((U 4 i 1) * pr) * ((100 : Int32) - (U 4 i 3))) / (10000 : Int32))))) := ⟨_, rfl⟩
  rw [← eM1] at hM
  have hO1 : XdR G M1 tx ma h0 fa lb th pr mo F Lx := by rw [eM1]; exact hO.frame d1 (Fr.up (hL.row (k := 4) (by decide) hi))
  have hL1 : MdR G M1 t h0 Z N (tu U 4 i (rw7 (U 4 i 0) (U 4 i 1) (U 4 i 2) (U 4 i 3) (U 4 i 4) (U 4 i 5) ((((U 4 i 1) * pr) * ((100 : Int32) - (U 4 i 3))) / (10000 : Int32)))) now := by rw [eM1]; exact hL.setRow (k := 4) (by decide) hi (rw7 (U 4 i 0) (U 4 i 1) (U 4 i 2) (U 4 i 3) (U 4 i 4) (U 4 i 5) ((((U 4 i 1) * pr) * ((100 : Int32) - (U 4 i 3))) / (10000 : Int32)))
  have hF1 : F3 tx t t2 M M1 := by rw [eM1]; exact F3.tr (F3.rf) (F3.up (hL.row (k := 4) (by decide) hi) (Or.inl rfl))
  have hr1_0 : M1 (Z.2.1 4 i) = some (t, (.inl (G.2.1 0, 7, .inl (rw7 (U 4 i 0) (U 4 i 1) (U 4 i 2) (U 4 i 3) (U 4 i 4) (U 4 i 5) ((((U 4 i 1) * pr) * ((100 : Int32) - (U 4 i 3))) / (10000 : Int32)))))) := by rw [eM1]; exact hu_s
  have hr1_1 : M1 (Z.2.1 0 (ix (U 4 i 0))) = some (t, (.inl (G.2.1 0, 11, .inl (rw11 (U 0 (ix (U 4 i 0)) 0) (U 0 (ix (U 4 i 0)) 1) (U 0 (ix (U 4 i 0)) 2) (U 0 (ix (U 4 i 0)) 3) (U 0 (ix (U 4 i 0)) 4) (U 0 (ix (U 4 i 0)) 5) (U 0 (ix (U 4 i 0)) 6) (U 0 (ix (U 4 i 0)) 7) (U 0 (ix (U 4 i 0)) 8) (U 0 (ix (U 4 i 0)) 9) (U 0 (ix (U 4 i 0)) 10))))) := by rw [eM1]; exact hu_n (hL.rne (by decide) (by decide) (Nat.lt_of_lt_of_le hpy.1.2 hn0) hi (by decide)) (hL.row (k := 0) (by decide) (Nat.lt_of_lt_of_le hpy.1.2 hn0))
  refine g_iald hx hb hK hM hO1.2.2.1 (vp_ix hpy.2) dX8_pay_56 ?_
  refine lv_iload_n hx hb dX8_pay_57 rfl (lv_at hl 0 rfl) ?_
  refine lv_iadd hx hb dX8_pay_58 ?_
  refine g_iast hx hb hK hM hO1.2.2.1 (vp_ix hpy.2) dX8_pay_59 (fun H locs hM => ?_)
  obtain ⟨M2, eM2⟩ : ∃ z, z = hu M1 lb tx (.inl (G.2.1 0, 4, .inl (upd Lx (ix (U 0 (ix (U 4 i 0)) 0)) ((Lx (ix (U 0 (ix (U 4 i 0)) 0))) + ((((((U 4 i 1) * pr) * ((100 : Int32) - (U 4 i 3))) / (10000 : Int32)) * (U 0 (ix (U 4 i 0)) 10)) / (100 : Int32)))))) := ⟨_, rfl⟩
  replace hM : Wd G M2 s H locs := hM.eq eM2.symm
  have hO2 : XdR G M2 tx ma h0 fa lb th pr mo F (upd Lx (ix (U 0 (ix (U 4 i 0)) 0)) ((Lx (ix (U 0 (ix (U 4 i 0)) 0))) + ((((((U 4 i 1) * pr) * ((100 : Int32) - (U 4 i 3))) / (10000 : Int32)) * (U 0 (ix (U 4 i 0)) 10)) / (100 : Int32)))) := by rw [eM2]; exact hO1.setL (upd Lx (ix (U 0 (ix (U 4 i 0)) 0)) ((Lx (ix (U 0 (ix (U 4 i 0)) 0))) + ((((((U 4 i 1) * pr) * ((100 : Int32) - (U 4 i 3))) / (10000 : Int32)) * (U 0 (ix (U 4 i 0)) 10)) / (100 : Int32))))
  have hL2 : MdR G M2 t h0 Z N (tu U 4 i (rw7 (U 4 i 0) (U 4 i 1) (U 4 i 2) (U 4 i 3) (U 4 i 4) (U 4 i 5) ((((U 4 i 1) * pr) * ((100 : Int32) - (U 4 i 3))) / (10000 : Int32)))) now := by rw [eM2]; exact hL1.frame (Ne.symm d1) (Fr.up hO1.2.2.1)
  have hF2 : F3 tx t t2 M M2 := by rw [eM2]; exact F3.tr hF1 (F3.up hO1.2.2.1 (Or.inr (Or.inl rfl)))
  have hr2_0 : M2 (Z.2.1 4 i) = some (t, (.inl (G.2.1 0, 7, .inl (rw7 (U 4 i 0) (U 4 i 1) (U 4 i 2) (U 4 i 3) (U 4 i 4) (U 4 i 5) ((((U 4 i 1) * pr) * ((100 : Int32) - (U 4 i 3))) / (10000 : Int32)))))) := by rw [eM2]; exact hu_n (hu_ne hr1_0 hO1.2.2.1 (rg_ne (Ne.symm d1))) hr1_0
  have hr2_1 : M2 (Z.2.1 0 (ix (U 4 i 0))) = some (t, (.inl (G.2.1 0, 11, .inl (rw11 (U 0 (ix (U 4 i 0)) 0) (U 0 (ix (U 4 i 0)) 1) (U 0 (ix (U 4 i 0)) 2) (U 0 (ix (U 4 i 0)) 3) (U 0 (ix (U 4 i 0)) 4) (U 0 (ix (U 4 i 0)) 5) (U 0 (ix (U 4 i 0)) 6) (U 0 (ix (U 4 i 0)) 7) (U 0 (ix (U 4 i 0)) 8) (U 0 (ix (U 4 i 0)) 9) (U 0 (ix (U 4 i 0)) 10))))) := by rw [eM2]; exact hu_n (hu_ne hr1_1 hO1.2.2.1 (rg_ne (Ne.symm d1))) hr1_1
  refine lv_aload_n hx hb dX8_pay_60 rfl (lv_at hl 2 rfl) ?_
  refine fg_X8_16 hx hb hts hown hK hM hO2.1 dX8_pay_61 ?_
  refine lv_aload_n hx hb dX8_pay_64 rfl (lv_at hl 1 rfl) ?_
  refine lv_iconst (v := (0 : Int32)) hx hb dX8_pay_65 (by decide) ?_
  refine ia11_0 hx hb hK hM hr2_1 dX8_pay_66 ?_
  refine lv_dup2_11 hx hb dX8_pay_67 rfl rfl ?_
  refine g_iald hx hb hK hM hO2.2.1 (vp_ix hpy.2) dX8_pay_68 ?_
  refine lv_aload_n hx hb dX8_pay_69 rfl (lv_at hl 3 rfl) ?_
  refine lv_bipush (v := (6 : Int32)) hx hb dX8_pay_70 (by decide) ?_
  refine ia7_6 hx hb hK hM hr2_0 dX8_pay_72 ?_
  refine lv_iload_n hx hb dX8_pay_73 rfl (lv_at hl 0 rfl) ?_
  refine lv_isub hx hb dX8_pay_74 ?_
  refine lv_iadd hx hb dX8_pay_75 ?_
  refine g_iast hx hb hK hM hO2.2.1 (vp_ix hpy.2) dX8_pay_76 (fun H locs hM => ?_)
  obtain ⟨M3, eM3⟩ : ∃ z, z = hu M2 fa tx (.inl (G.2.1 0, 4, .inl (upd F (ix (U 0 (ix (U 4 i 0)) 0)) ((F (ix (U 0 (ix (U 4 i 0)) 0))) + (((((U 4 i 1) * pr) * ((100 : Int32) - (U 4 i 3))) / (10000 : Int32)) - ((((((U 4 i 1) * pr) * ((100 : Int32) - (U 4 i 3))) / (10000 : Int32)) * (U 0 (ix (U 4 i 0)) 10)) / (100 : Int32))))))) := ⟨_, rfl⟩
  replace hM : Wd G M3 s H locs := hM.eq eM3.symm
  have hO3 : XdR G M3 tx ma h0 fa lb th pr mo (upd F (ix (U 0 (ix (U 4 i 0)) 0)) ((F (ix (U 0 (ix (U 4 i 0)) 0))) + (((((U 4 i 1) * pr) * ((100 : Int32) - (U 4 i 3))) / (10000 : Int32)) - ((((((U 4 i 1) * pr) * ((100 : Int32) - (U 4 i 3))) / (10000 : Int32)) * (U 0 (ix (U 4 i 0)) 10)) / (100 : Int32))))) (upd Lx (ix (U 0 (ix (U 4 i 0)) 0)) ((Lx (ix (U 0 (ix (U 4 i 0)) 0))) + ((((((U 4 i 1) * pr) * ((100 : Int32) - (U 4 i 3))) / (10000 : Int32)) * (U 0 (ix (U 4 i 0)) 10)) / (100 : Int32)))) := by rw [eM3]; exact hO2.setF (upd F (ix (U 0 (ix (U 4 i 0)) 0)) ((F (ix (U 0 (ix (U 4 i 0)) 0))) + (((((U 4 i 1) * pr) * ((100 : Int32) - (U 4 i 3))) / (10000 : Int32)) - ((((((U 4 i 1) * pr) * ((100 : Int32) - (U 4 i 3))) / (10000 : Int32)) * (U 0 (ix (U 4 i 0)) 10)) / (100 : Int32)))))
  have hL3 : MdR G M3 t h0 Z N (tu U 4 i (rw7 (U 4 i 0) (U 4 i 1) (U 4 i 2) (U 4 i 3) (U 4 i 4) (U 4 i 5) ((((U 4 i 1) * pr) * ((100 : Int32) - (U 4 i 3))) / (10000 : Int32)))) now := by rw [eM3]; exact hL2.frame (Ne.symm d1) (Fr.up hO2.2.1)
  have hF3 : F3 tx t t2 M M3 := by rw [eM3]; exact F3.tr hF2 (F3.up hO2.2.1 (Or.inr (Or.inl rfl)))
  have hr3_0 : M3 (Z.2.1 4 i) = some (t, (.inl (G.2.1 0, 7, .inl (rw7 (U 4 i 0) (U 4 i 1) (U 4 i 2) (U 4 i 3) (U 4 i 4) (U 4 i 5) ((((U 4 i 1) * pr) * ((100 : Int32) - (U 4 i 3))) / (10000 : Int32)))))) := by rw [eM3]; exact hu_n (hu_ne hr2_0 hO2.2.1 (rg_ne (Ne.symm d1))) hr2_0
  have hr3_1 : M3 (Z.2.1 0 (ix (U 4 i 0))) = some (t, (.inl (G.2.1 0, 11, .inl (rw11 (U 0 (ix (U 4 i 0)) 0) (U 0 (ix (U 4 i 0)) 1) (U 0 (ix (U 4 i 0)) 2) (U 0 (ix (U 4 i 0)) 3) (U 0 (ix (U 4 i 0)) 4) (U 0 (ix (U 4 i 0)) 5) (U 0 (ix (U 4 i 0)) 6) (U 0 (ix (U 4 i 0)) 7) (U 0 (ix (U 4 i 0)) 8) (U 0 (ix (U 4 i 0)) 9) (U 0 (ix (U 4 i 0)) 10))))) := by rw [eM3]; exact hu_n (hu_ne hr2_1 hO2.2.1 (rg_ne (Ne.symm d1))) hr2_1
  refine lv_aload_n hx hb dX8_pay_77 rfl (lv_at hl 2 rfl) ?_
  refine lv_dup hx hb dX8_pay_78 rfl ?_
  refine fg_X8_27 hx hb hts hown hK hM hO3.1 dX8_pay_79 ?_
  refine lv_iconst (v := (2 : Int32)) hx hb dX8_pay_82 (by decide) ?_
  refine lv_aload_n hx hb dX8_pay_83 rfl (lv_at hl 3 rfl) ?_
  refine lv_iconst (v := (1 : Int32)) hx hb dX8_pay_84 (by decide) ?_
  refine ia7_1 hx hb hK hM hr3_0 dX8_pay_85 ?_
  refine lv_bipush (v := (10 : Int32)) hx hb dX8_pay_86 (by decide) ?_
  refine lv_idiv hx hb dX8_pay_88 (by decide) ?_
  refine lv_imul hx hb dX8_pay_89 ?_
  refine lv_iadd hx hb dX8_pay_90 ?_
  refine fp_X8_27 hx hb hts hown hK hM hO3.1 dX8_pay_91 (fun H locs hM => ?_)
  obtain ⟨M4, eM4⟩ : ∃ z, z = hu M3 ma tx (.inr (9, [.int th, .ref h0, .ref fa, .ref lb, .int pr, .int (mo + ((2 : Int32) * ((U 4 i 1) / (10 : Int32))))])) := ⟨_, rfl⟩
  replace hM : Wd G M4 s H locs := hM.eq eM4.symm
  have hO4 : XdR G M4 tx ma h0 fa lb th pr (mo + ((2 : Int32) * ((U 4 i 1) / (10 : Int32)))) (upd F (ix (U 0 (ix (U 4 i 0)) 0)) ((F (ix (U 0 (ix (U 4 i 0)) 0))) + (((((U 4 i 1) * pr) * ((100 : Int32) - (U 4 i 3))) / (10000 : Int32)) - ((((((U 4 i 1) * pr) * ((100 : Int32) - (U 4 i 3))) / (10000 : Int32)) * (U 0 (ix (U 4 i 0)) 10)) / (100 : Int32))))) (upd Lx (ix (U 0 (ix (U 4 i 0)) 0)) ((Lx (ix (U 0 (ix (U 4 i 0)) 0))) + ((((((U 4 i 1) * pr) * ((100 : Int32) - (U 4 i 3))) / (10000 : Int32)) * (U 0 (ix (U 4 i 0)) 10)) / (100 : Int32)))) := by rw [eM4]; exact hO3.setO th pr (mo + ((2 : Int32) * ((U 4 i 1) / (10 : Int32))))
  have hL4 : MdR G M4 t h0 Z N (tu U 4 i (rw7 (U 4 i 0) (U 4 i 1) (U 4 i 2) (U 4 i 3) (U 4 i 4) (U 4 i 5) ((((U 4 i 1) * pr) * ((100 : Int32) - (U 4 i 3))) / (10000 : Int32)))) now := by rw [eM4]; exact hL3.frame (Ne.symm d1) (Fr.up hO3.1)
  have hF4 : F3 tx t t2 M M4 := by rw [eM4]; exact F3.tr hF3 (F3.up hO3.1 (Or.inr (Or.inl rfl)))
  have hr4_0 : M4 (Z.2.1 4 i) = some (t, (.inl (G.2.1 0, 7, .inl (rw7 (U 4 i 0) (U 4 i 1) (U 4 i 2) (U 4 i 3) (U 4 i 4) (U 4 i 5) ((((U 4 i 1) * pr) * ((100 : Int32) - (U 4 i 3))) / (10000 : Int32)))))) := by rw [eM4]; exact hu_n (hu_ne hr3_0 hO3.1 (rg_ne (Ne.symm d1))) hr3_0
  have hr4_1 : M4 (Z.2.1 0 (ix (U 4 i 0))) = some (t, (.inl (G.2.1 0, 11, .inl (rw11 (U 0 (ix (U 4 i 0)) 0) (U 0 (ix (U 4 i 0)) 1) (U 0 (ix (U 4 i 0)) 2) (U 0 (ix (U 4 i 0)) 3) (U 0 (ix (U 4 i 0)) 4) (U 0 (ix (U 4 i 0)) 5) (U 0 (ix (U 4 i 0)) 6) (U 0 (ix (U 4 i 0)) 7) (U 0 (ix (U 4 i 0)) 8) (U 0 (ix (U 4 i 0)) 9) (U 0 (ix (U 4 i 0)) 10))))) := by rw [eM4]; exact hu_n (hu_ne hr3_1 hO3.1 (rg_ne (Ne.symm d1))) hr3_1
  exact g_vret hx hb hr hlocks hM (Nat.zero_le _) (Nat.zero_le _) (by rw [show mo_X8_pay N U now th pr mo F Lx i = (mo + ((2 : Int32) * ((U 4 i 1) / (10 : Int32)))) from by unfold mo_X8_pay; rfl]; rw [show f_X8_pay N U now th pr mo F Lx i = (upd F (ix (U 0 (ix (U 4 i 0)) 0)) ((F (ix (U 0 (ix (U 4 i 0)) 0))) + (((((U 4 i 1) * pr) * ((100 : Int32) - (U 4 i 3))) / (10000 : Int32)) - ((((((U 4 i 1) * pr) * ((100 : Int32) - (U 4 i 3))) / (10000 : Int32)) * (U 0 (ix (U 4 i 0)) 10)) / (100 : Int32))))) from by unfold f_X8_pay; rfl]; rw [show lx_X8_pay N U now th pr mo F Lx i = (upd Lx (ix (U 0 (ix (U 4 i 0)) 0)) ((Lx (ix (U 0 (ix (U 4 i 0)) 0))) + ((((((U 4 i 1) * pr) * ((100 : Int32) - (U 4 i 3))) / (10000 : Int32)) * (U 0 (ix (U 4 i 0)) 10)) / (100 : Int32)))) from by unfold lx_X8_pay; rfl]; rw [show u_X8_pay N U now th pr mo F Lx i = (tu U 4 i (rw7 (U 4 i 0) (U 4 i 1) (U 4 i 2) (U 4 i 3) (U 4 i 4) (U 4 i 5) ((((U 4 i 1) * pr) * ((100 : Int32) - (U 4 i 3))) / (10000 : Int32)))) from by unfold u_X8_pay; rfl]; exact ⟨hO4, ⟨Z, hL4⟩, hF4⟩) dX8_pay_94
abbrev XS : Type := Tb × Nat × Int32 × Row × Row
/-- the ticket i is paid -/
def pyR (N : Nat → Nat) (pr : Int32) (i : Nat) (X : XS) : XS := (u_X8_pay N X.1 0 0 pr X.2.2.1 X.2.2.2.1 X.2.2.2.2 i, X.2.1, mo_X8_pay N X.1 0 0 pr X.2.2.1 X.2.2.2.1 X.2.2.2.2 i, f_X8_pay N X.1 0 0 pr X.2.2.1 X.2.2.2.1 X.2.2.2.2 i, lx_X8_pay N X.1 0 0 pr X.2.2.1 X.2.2.2.1 X.2.2.2.2 i)
def pysR (N : Nat → Nat) (pr : Int32) (n0 : Nat) : Nat → XS → XS
  | 0, X => X
  | c + 1, X => pyR N pr (n0 + c) (pysR N pr n0 c X)
theorem pysR_n {N : Nat → Nat} {pr : Int32} {n0 : Nat} {X : XS} : ∀ c, (pysR N pr n0 c X).2.1 = X.2.1
  | 0 => rfl
  | c + 1 => pysR_n c
/-- an hour, and its tickets paid -/
def paR0 (N : Nat → Nat) (now w a r : Int32) (X : XS) : XS := ((goR N now w a r (X.1, X.2.1)).1, (goR N now w a r (X.1, X.2.1)).2, X.2.2)
def paR (N : Nat → Nat) (now pr w a r : Int32) (X : XS) : XS := pysR N pr X.2.1 ((paR0 N now w a r X).2.1 - X.2.1) (paR0 N now w a r X)
def pasR (N : Nat → Nat) (now pr w a r : Int32) : Nat → XS → XS
  | 0, X => X
  | h + 1, X => paR N (now + nI h) pr w a r (pasR N now pr w a r h X)
theorem paR_n {N : Nat → Nat} {now pr w a r : Int32} {X : XS} : (paR N now pr w a r X).2.1 = (paR0 N now w a r X).2.1 := pysR_n _
theorem paR0_ge {N : Nat → Nat} {now w a r : Int32} {X : XS} : X.2.1 ≤ (paR0 N now w a r X).2.1 := goR_ge (S := (X.1, X.2.1))
theorem pasR_mono {N : Nat → Nat} {now pr w a r : Int32} {X : XS} {i j : Nat} (h : i ≤ j) : (pasR N now pr w a r i X).2.1 ≤ (pasR N now pr w a r j X).2.1 := by
  induction h with
  | refl => exact Nat.le_refl _
  | @step j _ ih =>
    refine Nat.le_trans ih ?_
    show _ ≤ (paR N (now + nI j) pr w a r (pasR N now pr w a r j X)).2.1
    rw [paR_n]
    exact paR0_ge
def PaOK (N : Nat → Nat) (now pr w a r : Int32) (h : Nat) (X : XS) : Prop := ∀ j, j < h → HrOK N (now + nI j) w a r ((pasR N now pr w a r j X).1, (pasR N now pr w a r j X).2.1) ∧ ∀ c, c < (paR0 N (now + nI j) w a r (pasR N now pr w a r j X)).2.1 - (pasR N now pr w a r j X).2.1 → PyOK N (pysR N pr (pasR N now pr w a r j X).2.1 c (paR0 N (now + nI j) w a r (pasR N now pr w a r j X))).1 ((pasR N now pr w a r j X).2.1 + c)
theorem tel (a b c : Int32) : (a - b) + (c - a) = c - b := by
  rw [Int32.sub_eq_add_neg, Int32.sub_eq_add_neg, Int32.sub_eq_add_neg, Int32.add_comm c (-a), ← Int32.add_assoc, Int32.add_assoc a, Int32.add_comm (-b), ← Int32.add_assoc a, ← Int32.sub_eq_add_neg a a, Int32.sub_self, Int32.zero_add, Int32.add_comm]
def q_X8_pass (N : Nat → Nat) (U : Tb) (now th pr mo : Int32) (F Lx : Row) (p0 p1 p2 p3 : Int32) : Int32 := if (t_X8_in_0 p0 (1 : Int32) (48 : Int32)) = 0 then t_X8_no_0 else (if (t_X8_isWeather_0 p1 p2 p3) = 0 then t_X8_no_0 else (if (now + p0) ≤ (2400 : Int32) then (nI (pasR N now pr p1 p2 p3 (ix p0) (U, N 4, mo, F, Lx)).2.1 - nI (N 4)) else t_X8_no_0))
def th_X8_pass (N : Nat → Nat) (U : Tb) (now th pr mo : Int32) (F Lx : Row) (p0 p1 p2 p3 : Int32) : Int32 := if (t_X8_in_0 p0 (1 : Int32) (48 : Int32)) = 0 then (1 : Int32) else (if (t_X8_isWeather_0 p1 p2 p3) = 0 then (1 : Int32) else (if (now + p0) ≤ (2400 : Int32) then (0 : Int32) else (2 : Int32)))
def mo_X8_pass (N : Nat → Nat) (U : Tb) (now th pr mo : Int32) (F Lx : Row) (p0 p1 p2 p3 : Int32) : Int32 := if (t_X8_in_0 p0 (1 : Int32) (48 : Int32)) = 0 then mo else (if (t_X8_isWeather_0 p1 p2 p3) = 0 then mo else (if (now + p0) ≤ (2400 : Int32) then (pasR N now pr p1 p2 p3 (ix p0) (U, N 4, mo, F, Lx)).2.2.1 else mo))
def f_X8_pass (N : Nat → Nat) (U : Tb) (now th pr mo : Int32) (F Lx : Row) (p0 p1 p2 p3 : Int32) : Row := if (t_X8_in_0 p0 (1 : Int32) (48 : Int32)) = 0 then F else (if (t_X8_isWeather_0 p1 p2 p3) = 0 then F else (if (now + p0) ≤ (2400 : Int32) then (pasR N now pr p1 p2 p3 (ix p0) (U, N 4, mo, F, Lx)).2.2.2.1 else F))
def lx_X8_pass (N : Nat → Nat) (U : Tb) (now th pr mo : Int32) (F Lx : Row) (p0 p1 p2 p3 : Int32) : Row := if (t_X8_in_0 p0 (1 : Int32) (48 : Int32)) = 0 then Lx else (if (t_X8_isWeather_0 p1 p2 p3) = 0 then Lx else (if (now + p0) ≤ (2400 : Int32) then (pasR N now pr p1 p2 p3 (ix p0) (U, N 4, mo, F, Lx)).2.2.2.2 else Lx))
def u_X8_pass (N : Nat → Nat) (U : Tb) (now th pr mo : Int32) (F Lx : Row) (p0 p1 p2 p3 : Int32) : Tb := if (t_X8_in_0 p0 (1 : Int32) (48 : Int32)) = 0 then U else (if (t_X8_isWeather_0 p1 p2 p3) = 0 then U else (if (now + p0) ≤ (2400 : Int32) then (pasR N now pr p1 p2 p3 (ix p0) (U, N 4, mo, F, Lx)).1 else U))
def n_X8_pass (N : Nat → Nat) (U : Tb) (now th pr mo : Int32) (F Lx : Row) (p0 p1 p2 p3 : Int32) : Nat → Nat := if (t_X8_in_0 p0 (1 : Int32) (48 : Int32)) = 0 then N else (if (t_X8_isWeather_0 p1 p2 p3) = 0 then N else (if (now + p0) ≤ (2400 : Int32) then (nu N 4 (pasR N now pr p1 p2 p3 (ix p0) (U, N 4, mo, F, Lx)).2.1) else N))
def now_X8_pass (N : Nat → Nat) (U : Tb) (now th pr mo : Int32) (F Lx : Row) (p0 p1 p2 p3 : Int32) : Int32 := if (t_X8_in_0 p0 (1 : Int32) (48 : Int32)) = 0 then now else (if (t_X8_isWeather_0 p1 p2 p3) = 0 then now else (if (now + p0) ≤ (2400 : Int32) then (now + p0) else now))
set_option maxHeartbeats 4000000 in
set_option maxRecDepth 100000 in
theorem c_X8_pass (l : Launch) (G : GG) (M : HM) (tx ma h0 fa lb t t2 : Nat) (Z : LZ) (N : Nat → Nat) (U : Tb) (now th pr mo : Int32) (F Lx : Row) (p0 p1 p2 p3 : Int32) (hO : XdR G M tx ma h0 fa lb th pr mo F Lx) (hL : MdR G M t h0 Z N U now) (d1 : tx ≠ t) (d2 : tx ≠ t2) (d3 : t ≠ t2)  (B : Nat) (hOK : ¬ t_X8_in_0 p0 (1 : Int32) (48 : Int32) = 0 → ¬ t_X8_isWeather_0 p1 p2 p3 = 0 → now + p0 ≤ (2400 : Int32) → PaOK N now pr p1 p2 p3 (ix p0) (U, N 4, mo, F, Lx) ∧ (pasR N now pr p1 p2 p3 (ix p0) (U, N 4, mo, F, Lx)).2.1 ≤ B) (hB6 : B < 600) : Mi l yX8_pass (.code yX8_pass cX8_pass 9 (some .int) :: AL) 10 242 (2 * ((pasR N now pr p1 p2 p3 (ix p0) (U, N 4, mo, F, Lx)).2.1 - N 4)) ((17 + 2 * B) * ((pasR N now pr p1 p2 p3 (ix p0) (U, N 4, mo, F, Lx)).2.1 - N 4)) [.ref ma, .int p0, .int p1, .int p2, .int p3] G M (fun r M' => r = (q_X8_pass N U now th pr mo F Lx p0 p1 p2 p3) ∧ XP G M M' tx ma h0 fa lb t t2 (n_X8_pass N U now th pr mo F Lx p0 p1 p2 p3) (u_X8_pass N U now th pr mo F Lx p0 p1 p2 p3) (now_X8_pass N U now th pr mo F Lx p0 p1 p2 p3) (th_X8_pass N U now th pr mo F Lx p0 p1 p2 p3) pr (mo_X8_pass N U now th pr mo F Lx p0 p1 p2 p3) (f_X8_pass N U now th pr mo F Lx p0 p1 p2 p3) (lx_X8_pass N U now th pr mo F Lx p0 p1 p2 p3)) := by
  refine Mi.go (by decide) (Nat.le_of_ble_eq_true rfl) ?_
  intro p e s m below meth c ls hx hb hr hml hown hlocks hname hts hK hM hl
  have hown : s.vm.findClass RX8 = some m.cls := hown
  have hl : lv_has ls 9 [(0, .ref ma), (1, .int p0), (2, .int p1), (3, .int p2), (4, .int p3)] := hl
  have hn0 := hL.cnt (k := 0) (by decide)
  have hn09 : N 0 ≤ 8 := by have : N 0 ≤ 8 := hn0; omega
  have hn1 := hL.cnt (k := 1) (by decide)
  have hn19 : N 1 ≤ 8 := by have : N 1 ≤ 4 := hn1; omega
  have hn2 := hL.cnt (k := 2) (by decide)
  have hn29 : N 2 ≤ 8 := by have : N 2 ≤ 4 := hn2; omega
  have hn3 := hL.cnt (k := 3) (by decide)
  have hn39 : N 3 ≤ 8 := by have : N 3 ≤ 3 := hn3; omega
  refine lv_aload_n hx hb dX8_pass_0 rfl (lv_at hl 0 rfl) ?_
  refine lv_iconst (v := (0 : Int32)) hx hb dX8_pass_1 (by decide) ?_
  refine fp_X8_30 hx hb hts hown hK hM hO.1 dX8_pass_2 (fun H locs hM => ?_)
  obtain ⟨M1, eM1⟩ : ∃ z, z = hu M ma tx (.inr (9, [.int (0 : Int32), .ref h0, .ref fa, .ref lb, .int pr, .int mo])) := ⟨_, rfl⟩
  replace hM : Wd G M1 s H locs := hM.eq eM1.symm
  have hO1 : XdR G M1 tx ma h0 fa lb (0 : Int32) pr mo F Lx := by rw [eM1]; exact hO.setO (0 : Int32) pr mo
  have hL1 : MdR G M1 t h0 Z N U now := by rw [eM1]; exact hL.frame (Ne.symm d1) (Fr.up hO.1)
  have hF1 : F3 tx t t2 M M1 := by rw [eM1]; exact F3.tr (F3.rf) (F3.up hO.1 (Or.inr (Or.inl rfl)))
  refine lv_iload_n hx hb dX8_pass_5 rfl (lv_at hl 1 rfl) ?_
  refine lv_iconst (v := (1 : Int32)) hx hb dX8_pass_6 (by decide) ?_
  refine lv_bipush (v := (48 : Int32)) hx hb dX8_pass_7 (by decide) ?_
  refine g_callSi (n9 := 3) (As := [.int p0, .int (1 : Int32), .int (48 : Int32)]) (rest := []) hx hb hml hl.1 hown hts hK hM (c_X8_in l G _ p0 (1 : Int32) (48 : Int32) ) wm_X8_36 wt_X8_in wn_X8 wc_X8_in (by decide +kernel) ⟨Nat.le_of_ble_eq_true rfl, Nat.le_of_ble_eq_true rfl⟩ ⟨Nat.le_of_ble_eq_true rfl, Nat.le_of_ble_eq_true rfl⟩ rfl (Nat.le_of_ble_eq_true rfl) rfl dX8_pass_9 (fun r_9 M1 H locs hq hM => ?_)
  have hq1 := hq.1.symm
  have hq2 := hq.2.symm
  subst hq1 hq2
  refine lv_if_eq (tgt := 25) hx hb dX8_pass_12 (by decide) (fun c1 => ?_) (fun c1 => ?_)
  · refine lv_aload_n hx hb dX8_pass_25 rfl (lv_at hl 0 rfl) ?_
    refine lv_iconst (v := (1 : Int32)) hx hb dX8_pass_26 (by decide) ?_
    refine g_callVi (n9 := 1) (As := [.int (1 : Int32)]) (rest := []) hx hb hml hl.1 hown hts hK hM (c_X8_no l G _ ma tx (0 : Int32) pr mo h0 fa lb (1 : Int32) hO1.1) wm_X8_49 wi_X8_no wl_X8_no wn_X8 wc_X8_no (by decide +kernel) (hM.recv hK (ci := 9) rfl hO1.1) ⟨Nat.le_of_ble_eq_true rfl, Nat.le_of_ble_eq_true rfl⟩ ⟨Nat.zero_le _, Nat.zero_le _⟩ rfl (Nat.le_of_ble_eq_true rfl) rfl dX8_pass_27 (fun r_27 M9 H locs hq hM => ?_)
    obtain ⟨er, eM9⟩ := hq
    subst er
    replace hM := hM.eq eM9
    obtain ⟨M2, eM2⟩ : ∃ z, z = hu M1 ma tx (.inr (9, [.int (1 : Int32), .ref h0, .ref fa, .ref lb, .int pr, .int mo])) := ⟨_, rfl⟩
    replace hM : Wd G M2 s H locs := hM.eq eM2.symm
    have hO2 : XdR G M2 tx ma h0 fa lb (1 : Int32) pr mo F Lx := by rw [eM2]; exact hO1.setO (1 : Int32) pr mo
    have hL2 : MdR G M2 t h0 Z N U now := by rw [eM2]; exact hL1.frame (Ne.symm d1) (Fr.up hO1.1)
    have hF2 : F3 tx t t2 M M2 := by rw [eM2]; exact F3.tr hF1 (F3.up hO1.1 (Or.inr (Or.inl rfl)))
    exact g_iret hx hb hr hlocks hM (Nat.zero_le _) (Nat.zero_le _) ⟨(by unfold q_X8_pass; rw [if_pos c1]), (by rw [show th_X8_pass N U now th pr mo F Lx p0 p1 p2 p3 = (1 : Int32) from by unfold th_X8_pass; rw [if_pos c1]]; rw [show mo_X8_pass N U now th pr mo F Lx p0 p1 p2 p3 = mo from by unfold mo_X8_pass; rw [if_pos c1]]; rw [show f_X8_pass N U now th pr mo F Lx p0 p1 p2 p3 = F from by unfold f_X8_pass; rw [if_pos c1]]; rw [show lx_X8_pass N U now th pr mo F Lx p0 p1 p2 p3 = Lx from by unfold lx_X8_pass; rw [if_pos c1]]; rw [show u_X8_pass N U now th pr mo F Lx p0 p1 p2 p3 = U from by unfold u_X8_pass; rw [if_pos c1]]; rw [show n_X8_pass N U now th pr mo F Lx p0 p1 p2 p3 = N from by unfold n_X8_pass; rw [if_pos c1]]; rw [show now_X8_pass N U now th pr mo F Lx p0 p1 p2 p3 = now from by unfold now_X8_pass; rw [if_pos c1]]; exact ⟨hO2, ⟨Z, hL2⟩, hF2⟩)⟩ dX8_pass_30
  · refine lv_iload_n hx hb dX8_pass_15 rfl (lv_at hl 2 rfl) ?_
    refine lv_iload_n hx hb dX8_pass_16 rfl (lv_at hl 3 rfl) ?_
    refine lv_iload hx hb dX8_pass_17 (lv_at hl 4 rfl) ?_
    refine g_callSi (n9 := 3) (As := [.int p1, .int p2, .int p3]) (rest := []) hx hb hml hl.1 hown hts hK hM (c_X8_isWeather l G _ p1 p2 p3 ) wm_X8_104 wt_X8_isWeather wn_X8 wc_X8_isWeather (by decide +kernel) ⟨Nat.le_of_ble_eq_true rfl, Nat.le_of_ble_eq_true rfl⟩ ⟨Nat.le_of_ble_eq_true rfl, Nat.le_of_ble_eq_true rfl⟩ rfl (Nat.le_of_ble_eq_true rfl) rfl dX8_pass_19 (fun r_19 M1 H locs hq hM => ?_)
    have hq1 := hq.1.symm
    have hq2 := hq.2.symm
    subst hq1 hq2
    refine lv_if_ne (tgt := 31) hx hb dX8_pass_22 (by decide) (fun c2 => ?_) (fun c2 => ?_)
    · refine lv_aload_n hx hb dX8_pass_31 rfl (lv_at hl 0 rfl) ?_
      refine fg_X8_10 hx hb hts hown hK hM hO1.1 dX8_pass_32 ?_
      refine fg_X8_107 hx hb hts hown hK hM hL1.1 dX8_pass_35 ?_
      refine lv_iload_n hx hb dX8_pass_38 rfl (lv_at hl 1 rfl) ?_
      refine lv_iadd hx hb dX8_pass_39 ?_
      refine lv_sipush (v := (2400 : Int32)) hx hb dX8_pass_40 (by decide) ?_
      refine lv_icmp_le (tgt := 52) hx hb dX8_pass_43 (by decide) (fun c3 => ?_) (fun c3 => ?_)
      · obtain ⟨hPa, hB⟩ := hOK c1 c2 c3
        have hp8 := in_48 c1
        have ep : p0 = nI (ix p0) := (ix_nI hp8.1).1
        obtain ⟨mc, emc⟩ : ∃ z, z = 2 * ((pasR N now pr p1 p2 p3 (ix p0) (U, N 4, mo, F, Lx)).2.1 - N 4) := ⟨_, rfl⟩
        obtain ⟨ms, ems⟩ : ∃ z, z = (17 + 2 * B) * ((pasR N now pr p1 p2 p3 (ix p0) (U, N 4, mo, F, Lx)).2.1 - N 4) := ⟨_, rfl⟩
        rw [← emc, ← ems]
        obtain ⟨X0, eX0⟩ : ∃ z : XS, z = (U, N 4, mo, F, Lx) := ⟨_, rfl⟩
        have x0 : X0.2.1 = N 4 := by rw [eX0]
        rw [← eX0] at hPa hB emc ems
        refine lv_iconst (v := (0 : Int32)) hx hb dX8_pass_52 (by decide) ?_
        refine lv_istore (lv' := [(5, .int (0 : Int32)), (0, .ref ma), (1, .int p0), (2, .int p1), (3, .int p2), (4, .int p3)]) hx hb dX8_pass_53 hl (by decide) rfl (fun ls hl => ?_)
        refine lv_iconst (v := (0 : Int32)) hx hb dX8_pass_55 (by decide) ?_
        refine lv_istore (lv' := [(6, .int (0 : Int32)), (5, .int (0 : Int32)), (0, .ref ma), (1, .int p0), (2, .int p1), (3, .int p2), (4, .int p3)]) hx hb dX8_pass_56 hl (by decide) rfl (fun ls hl => ?_)
        have L58 : ∀ (n h : Nat), h ≤ ix p0 → ix p0 - h < n → ∀ (M5 : HM) (H : Heap) (locs : List Loc) (ls : Array Slot) (Z5 : LZ) (X5 : XS), X5 = pasR N now pr p1 p2 p3 h X0 → XdR G M5 tx ma h0 fa lb (0 : Int32) pr X5.2.2.1 X5.2.2.2.1 X5.2.2.2.2 → MdR G M5 t h0 Z5 (nu N 4 X5.2.1) X5.1 (now + nI h) → F3 tx t t2 M M5 → Wd G M5 s H locs → lv_has ls 9 [(6, .int (nI h)), (5, .int (nI X5.2.1 - nI (N 4))), (0, .ref ma), (1, .int p0), (2, .int p1), (3, .int p2), (4, .int p3)] → W p l e ({ frames := 10, cells := mc, slots := ms, locals := 242 } : Room) s m [.ref ma, .int p0, .int p1, .int p2, .int p3].toArray below meth c H locs (2 * (X5.2.1 - N 4)) ((17 + 2 * B) * (X5.2.1 - N 4)) (MQ below (va_Qi (fun r M' => r = (q_X8_pass N U now th pr mo F Lx p0 p1 p2 p3) ∧ XP G M M' tx ma h0 fa lb t t2 (n_X8_pass N U now th pr mo F Lx p0 p1 p2 p3) (u_X8_pass N U now th pr mo F Lx p0 p1 p2 p3) (now_X8_pass N U now th pr mo F Lx p0 p1 p2 p3) (th_X8_pass N U now th pr mo F Lx p0 p1 p2 p3) pr (mo_X8_pass N U now th pr mo F Lx p0 p1 p2 p3) (f_X8_pass N U now th pr mo F Lx p0 p1 p2 p3) (lx_X8_pass N U now th pr mo F Lx p0 p1 p2 p3)) (gB G) (gA G)) [.ref ma, .int p0, .int p1, .int p2, .int p3].toArray s mc ms (gA G)) (F0 m 58 ls []) := by
          intro n
          induction n with
          | zero => intro h g1 g2; omega
          | succ n ih =>
            intro h g1 g9 M5 H locs ls Z5 X5 eX hO5 hL5 hF5 hM hl
            have m5 : X5.2.1 ≤ (pasR N now pr p1 p2 p3 (ix p0) X0).2.1 := by rw [eX]; exact pasR_mono g1
            have m0 : N 4 ≤ X5.2.1 := by rw [eX, ← x0]; exact pasR_mono (i := 0) (X := X0) (Nat.zero_le _)
            refine lv_iload hx hb dX8_pass_58 (lv_at hl 0 rfl) ?_
            refine lv_iload_n hx hb dX8_pass_60 rfl (lv_at hl 3 rfl) ?_
            refine lv_icmp_ge (tgt := 148) hx hb dX8_pass_61 (by decide) (fun g => ?_) (fun g => ?_)
            · have hj : h = ix p0 := by
                rw [ep] at g
                have := (nI_leI (by omega) (by omega)).mp g
                omega
              subst hj
              refine lv_iload hx hb dX8_pass_148 (lv_at hl 1 rfl) ?_
              rw [eX0] at eX
              rw [← ep] at hL5
              refine g_iret hx hb hr hlocks hM (by omega) (by show (17 + 2 * B) * (X5.2.1 - N 4) ≤ ms; rw [ems]; exact Nat.mul_le_mul_left _ (by omega)) ⟨?_, ?_⟩ dX8_pass_150
              · rw [eX]; exact (by unfold q_X8_pass; rw [if_neg c1, if_neg c2, if_pos c3])
              · (rw [show th_X8_pass N U now th pr mo F Lx p0 p1 p2 p3 = (0 : Int32) from by unfold th_X8_pass; rw [if_neg c1, if_neg c2, if_pos c3]]; rw [show mo_X8_pass N U now th pr mo F Lx p0 p1 p2 p3 = (pasR N now pr p1 p2 p3 (ix p0) (U, N 4, mo, F, Lx)).2.2.1 from by unfold mo_X8_pass; rw [if_neg c1, if_neg c2, if_pos c3]]; rw [show f_X8_pass N U now th pr mo F Lx p0 p1 p2 p3 = (pasR N now pr p1 p2 p3 (ix p0) (U, N 4, mo, F, Lx)).2.2.2.1 from by unfold f_X8_pass; rw [if_neg c1, if_neg c2, if_pos c3]]; rw [show lx_X8_pass N U now th pr mo F Lx p0 p1 p2 p3 = (pasR N now pr p1 p2 p3 (ix p0) (U, N 4, mo, F, Lx)).2.2.2.2 from by unfold lx_X8_pass; rw [if_neg c1, if_neg c2, if_pos c3]]; rw [show u_X8_pass N U now th pr mo F Lx p0 p1 p2 p3 = (pasR N now pr p1 p2 p3 (ix p0) (U, N 4, mo, F, Lx)).1 from by unfold u_X8_pass; rw [if_neg c1, if_neg c2, if_pos c3]]; rw [show n_X8_pass N U now th pr mo F Lx p0 p1 p2 p3 = (nu N 4 (pasR N now pr p1 p2 p3 (ix p0) (U, N 4, mo, F, Lx)).2.1) from by unfold n_X8_pass; rw [if_neg c1, if_neg c2, if_pos c3]]; rw [show now_X8_pass N U now th pr mo F Lx p0 p1 p2 p3 = (now + p0) from by unfold now_X8_pass; rw [if_neg c1, if_neg c2, if_pos c3]]); rw [← eX]; exact ⟨hO5, ⟨Z5, hL5⟩, hF5⟩
            · have hj : h < ix p0 := by
                rcases Nat.lt_or_ge h (ix p0) with z | z
                · exact z
                · exact absurd (by rw [ep]; exact nI_le z (by omega)) g
              obtain ⟨hok, hpy⟩ := hPa h hj
              rw [← eX] at hok hpy
              obtain ⟨S6, e6⟩ : ∃ z, z = paR0 N (now + nI h) p1 p2 p3 X5 := ⟨_, rfl⟩
              rw [← e6] at hpy
              have e66 : pasR N now pr p1 p2 p3 (h + 1) X0 = pysR N pr X5.2.1 (S6.2.1 - X5.2.1) S6 := by rw [e6, eX]; rfl
              have m6 : S6.2.1 ≤ (pasR N now pr p1 p2 p3 (ix p0) X0).2.1 := by
                have z := pasR_mono (N := N) (now := now) (pr := pr) (w := p1) (a := p2) (r := p3) (X := X0) (show h + 1 ≤ ix p0 by omega)
                rw [e66, pysR_n] at z; exact z
              have m56 : X5.2.1 ≤ S6.2.1 := by rw [e6]; exact paR0_ge
              have e8 : goR (nu N 4 X5.2.1) (now + nI h) p1 p2 p3 (X5.1, (nu N 4 X5.2.1) 4) = (S6.1, S6.2.1) := by rw [goR_nu, nu_s, e6]; rfl
              refine lv_aload_n hx hb dX8_pass_64 rfl (lv_at hl 2 rfl) ?_
              refine fg_X8_10 hx hb hts hown hK hM hO5.1 dX8_pass_65 ?_
              refine fg_X8_110 hx hb hts hown hK hM (show M5 h0 = some (t, (.inr (8, [.ref (Z5.1 0), .ref (Z5.1 1), .ref (Z5.1 2), .ref (Z5.1 3), .ref Z5.2.2.1, .int (now + nI h), .int (nI (N 0)), .int (nI (N 1)), .int (nI (N 2)), .int (nI (N 3))]))) from hL5.1) dX8_pass_68 ?_
              refine g_callFi (n9 := 0) (As := []) (rest := []) hx hb hml hl.1 hown hts hK hM (c_Jx4a65c_size_8abf5 l G _ Z5.2.2.1 t _ _ _ (hL5.2.2.1.1)) (hK.1.1 0 _ rfl).2 hK.2.2.1.1 wm_X8_114 wl_Jx4a65c_size_8abf5_by_List_size wi_Jx4a65c_size_8abf5 wn_Jx4a65c wc_Jx4a65c_size_8abf5 (by decide +kernel) (hM.recv hK (ci := 0) rfl (hL5.2.2.1.1)) ⟨Nat.le_of_ble_eq_true rfl, Nat.le_of_ble_eq_true rfl⟩ ⟨by show 2 * (X5.2.1 - N 4) + 0 ≤ mc; omega, by show (17 + 2 * B) * (X5.2.1 - N 4) + 0 ≤ ms; rw [ems]; exact Nat.mul_le_mul_left _ (by omega)⟩ rfl (Nat.le_of_ble_eq_true rfl) rfl dX8_pass_71 (fun r_71 Mz H locs hq hM => ?_)
              have hq1 := hq.1.symm
              have hq2 := hq.2.symm
              subst hq1 hq2
              refine lv_istore (lv' := [(7, .int (nI X5.2.1)), (6, .int (nI h)), (5, .int (nI X5.2.1 - nI (N 4))), (0, .ref ma), (1, .int p0), (2, .int p1), (3, .int p2), (4, .int p3)]) hx hb dX8_pass_76 hl (by decide) rfl (fun ls hl => ?_)
              refine lv_iload hx hb dX8_pass_78 (lv_at hl 2 rfl) ?_
              refine lv_aload_n hx hb dX8_pass_80 rfl (lv_at hl 3 rfl) ?_
              refine fg_X8_10 hx hb hts hown hK hM hO5.1 dX8_pass_81 ?_
              refine lv_iload_n hx hb dX8_pass_84 rfl (lv_at hl 5 rfl) ?_
              refine lv_iload_n hx hb dX8_pass_85 rfl (lv_at hl 6 rfl) ?_
              refine lv_iload hx hb dX8_pass_86 (lv_at hl 7 rfl) ?_
              refine g_callVi (n9 := 3) (As := [.int p1, .int p2, .int p3]) (rest := [.int (nI X5.2.1 - nI (N 4))]) hx hb hml hl.1 hown hts hK hM (c_X7_go l G _ t h0 Z5 (nu N 4 X5.2.1) X5.1 (now + nI h) p1 p2 p3 hL5 (HrOK_nu hok) B (by rw [e8]; show S6.2.1 ≤ B; omega) hB6) wm_X8_120 wi_X7_go wl_X7_go wn_X7 wc_X7_go (by decide +kernel) (hM.recv hK (ci := 8) rfl hL5.1) ⟨Nat.le_of_ble_eq_true rfl, Nat.le_of_ble_eq_true rfl⟩ ⟨by rw [e8]; show 2 * (X5.2.1 - N 4) + 2 * (S6.2.1 - X5.2.1) ≤ mc; omega, by rw [e8]; show (17 + 2 * B) * (X5.2.1 - N 4) + (17 + 2 * B) * (S6.2.1 - X5.2.1) ≤ ms; rw [ems, ← Nat.mul_add]; exact Nat.mul_le_mul_left _ (by omega)⟩ rfl (Nat.le_of_ble_eq_true rfl) rfl dX8_pass_88 (fun r_88 M7 H locs hq hM => ?_)
              obtain ⟨er, Z7, hL7, hF7⟩ := hq
              rw [e8] at er hL7
              rw [nu_nu] at hL7
              replace er : r_88 = nI S6.2.1 - nI X5.2.1 := er
              subst er
              have hO7 := hO5.frame d1 hF7
              have hG7 := F3.tr hF5 (F3.fr hF7)
              refine W.cst (cells' := 2 * (S6.2.1 - N 4)) (slots' := (17 + 2 * B) * (S6.2.1 - N 4)) (by rw [e8]; show 2 * (X5.2.1 - N 4) + 2 * (S6.2.1 - X5.2.1) = _; omega) (by rw [e8]; show (17 + 2 * B) * (X5.2.1 - N 4) + (17 + 2 * B) * (S6.2.1 - X5.2.1) = _; rw [← Nat.mul_add]; congr 1; omega) ?_
              refine lv_iadd hx hb dX8_pass_91 ?_
              rw [tel]
              refine lv_istore (lv' := [(5, .int (nI S6.2.1 - nI (N 4))), (7, .int (nI X5.2.1)), (6, .int (nI h)), (0, .ref ma), (1, .int p0), (2, .int p1), (3, .int p2), (4, .int p3)]) hx hb dX8_pass_92 hl (by decide) rfl (fun ls hl => ?_)
              refine lv_iload hx hb dX8_pass_94 (lv_at hl 1 rfl) ?_
              refine lv_istore (lv' := [(8, .int (nI X5.2.1)), (5, .int (nI S6.2.1 - nI (N 4))), (7, .int (nI X5.2.1)), (6, .int (nI h)), (0, .ref ma), (1, .int p0), (2, .int p1), (3, .int p2), (4, .int p3)]) hx hb dX8_pass_96 hl (by decide) rfl (fun ls hl => ?_)
              have L98 : ∀ (n2 c9 : Nat), c9 ≤ S6.2.1 - X5.2.1 → S6.2.1 - X5.2.1 - c9 < n2 → ∀ (M8 : HM) (H : Heap) (locs : List Loc) (ls : Array Slot) (Z8 : LZ) (X8 : XS), X8 = pysR N pr X5.2.1 c9 S6 → XdR G M8 tx ma h0 fa lb (0 : Int32) pr X8.2.2.1 X8.2.2.2.1 X8.2.2.2.2 → MdR G M8 t h0 Z8 (nu N 4 S6.2.1) X8.1 (now + nI h + 1) → F3 tx t t2 M M8 → Wd G M8 s H locs → lv_has ls 9 [(8, .int (nI (X5.2.1 + c9))), (5, .int (nI S6.2.1 - nI (N 4))), (7, .int (nI X5.2.1)), (6, .int (nI h)), (0, .ref ma), (1, .int p0), (2, .int p1), (3, .int p2), (4, .int p3)] → W p l e ({ frames := 10, cells := mc, slots := ms, locals := 242 } : Room) s m [.ref ma, .int p0, .int p1, .int p2, .int p3].toArray below meth c H locs (2 * (S6.2.1 - N 4)) ((17 + 2 * B) * (S6.2.1 - N 4)) (MQ below (va_Qi (fun r M' => r = (q_X8_pass N U now th pr mo F Lx p0 p1 p2 p3) ∧ XP G M M' tx ma h0 fa lb t t2 (n_X8_pass N U now th pr mo F Lx p0 p1 p2 p3) (u_X8_pass N U now th pr mo F Lx p0 p1 p2 p3) (now_X8_pass N U now th pr mo F Lx p0 p1 p2 p3) (th_X8_pass N U now th pr mo F Lx p0 p1 p2 p3) pr (mo_X8_pass N U now th pr mo F Lx p0 p1 p2 p3) (f_X8_pass N U now th pr mo F Lx p0 p1 p2 p3) (lx_X8_pass N U now th pr mo F Lx p0 p1 p2 p3)) (gB G) (gA G)) [.ref ma, .int p0, .int p1, .int p2, .int p3].toArray s mc ms (gA G)) (F0 m 98 ls []) := by
                intro n2
                induction n2 with
                | zero => intro c9 h1 h2; omega
                | succ n2 ih2 =>
                  intro c9 h1 h9 M8 H locs ls Z8 X8 eX8 hO8 hL8 hF8 hM hl
                  have hn600 : S6.2.1 ≤ 600 := hL8.2.2.2.2.2.2.2.1
                  refine lv_iload hx hb dX8_pass_98 (lv_at hl 0 rfl) ?_
                  refine lv_aload_n hx hb dX8_pass_100 rfl (lv_at hl 4 rfl) ?_
                  refine fg_X8_10 hx hb hts hown hK hM hO8.1 dX8_pass_101 ?_
                  refine fg_X8_110 hx hb hts hown hK hM (show M8 h0 = some (t, (.inr (8, [.ref (Z8.1 0), .ref (Z8.1 1), .ref (Z8.1 2), .ref (Z8.1 3), .ref Z8.2.2.1, .int (now + nI h + 1), .int (nI (N 0)), .int (nI (N 1)), .int (nI (N 2)), .int (nI (N 3))]))) from hL8.1) dX8_pass_104 ?_
                  refine g_callFi (n9 := 0) (As := []) (rest := [.int (nI (X5.2.1 + c9))]) hx hb hml hl.1 hown hts hK hM (c_Jx4a65c_size_8abf5 l G _ Z8.2.2.1 t _ _ _ (hL8.2.2.1.1)) (hK.1.1 0 _ rfl).2 hK.2.2.1.1 wm_X8_114 wl_Jx4a65c_size_8abf5_by_List_size wi_Jx4a65c_size_8abf5 wn_Jx4a65c wc_Jx4a65c_size_8abf5 (by decide +kernel) (hM.recv hK (ci := 0) rfl (hL8.2.2.1.1)) ⟨Nat.le_of_ble_eq_true rfl, Nat.le_of_ble_eq_true rfl⟩ ⟨by show 2 * (S6.2.1 - N 4) + 0 ≤ mc; omega, by show (17 + 2 * B) * (S6.2.1 - N 4) + 0 ≤ ms; rw [ems]; exact Nat.mul_le_mul_left _ (by omega)⟩ rfl (Nat.le_of_ble_eq_true rfl) rfl dX8_pass_107 (fun r_107 Mz H locs hq hM => ?_)
                  have hq1 := hq.1.symm
                  have hq2 := hq.2.symm
                  subst hq1 hq2
                  refine lv_icmp_ge (tgt := 142) hx hb dX8_pass_112 (by decide) (fun c4 => ?_) (fun c4 => ?_)
                  · rw [show (nu N 4 S6.2.1) 4 = S6.2.1 from nu_s] at c4
                    have hi : c9 = S6.2.1 - X5.2.1 := by
                      have := (nI_leI (by omega) (by omega)).mp c4
                      omega
                    have e9 : X8 = pasR N now pr p1 p2 p3 (h + 1) X0 := by rw [e66, eX8, hi]
                    have e99 : X8.2.1 = S6.2.1 := by rw [eX8]; exact pysR_n _
                    refine lv_iinc (v := (nI (h + 1))) (lv' := [(6, .int (nI (h + 1))), (8, .int (nI (X5.2.1 + c9))), (5, .int (nI S6.2.1 - nI (N 4))), (7, .int (nI X5.2.1)), (0, .ref ma), (1, .int p0), (2, .int p1), (3, .int p2), (4, .int p3)]) hx hb dX8_pass_142 hl (k := 3) rfl (nI_1 h) (by decide) rfl (fun ls hl => ?_)
                    refine lv_goto (tgt := 58) hx hb dX8_pass_145 (by decide) ?_
                    rw [← e99]
                    exact ih (h + 1) (by omega) (by omega) M8 _ _ _ Z8 X8 e9 hO8 (by rw [e99, ← now_s]; exact hL8) hF8 hM (by rw [e99]; exact lv_sub hl [0, 2, 4, 5, 6, 7, 8] rfl)
                  · rw [show (nu N 4 S6.2.1) 4 = S6.2.1 from nu_s] at c4
                    have hi : X5.2.1 + c9 < S6.2.1 := by
                      rcases Nat.lt_or_ge (X5.2.1 + c9) S6.2.1 with z | z
                      · exact z
                      · exact absurd (nI_le z (by omega)) c4
                    have hpy9 := hpy c9 (by omega)
                    rw [← eX8] at hpy9
                    refine lv_aload_n hx hb dX8_pass_115 rfl (lv_at hl 4 rfl) ?_
                    refine lv_aload_n hx hb dX8_pass_116 rfl (lv_at hl 4 rfl) ?_
                    refine fg_X8_10 hx hb hts hown hK hM hO8.1 dX8_pass_117 ?_
                    refine fg_X8_110 hx hb hts hown hK hM (show M8 h0 = some (t, (.inr (8, [.ref (Z8.1 0), .ref (Z8.1 1), .ref (Z8.1 2), .ref (Z8.1 3), .ref Z8.2.2.1, .int (now + nI h + 1), .int (nI (N 0)), .int (nI (N 1)), .int (nI (N 2)), .int (nI (N 3))]))) from hL8.1) dX8_pass_120 ?_
                    refine lv_iload hx hb dX8_pass_123 (lv_at hl 0 rfl) ?_
                    refine g_callFq (n9 := 1) (As := [.int (nI (X5.2.1 + c9))]) (rest := [.ref ma]) hx hb hml hl.1 hown hts hK hM (c_getL l G _ t Z8.2.2.1 S6.2.1 _ _ (X5.2.1 + c9) _ _ hL8.2.2.1 hi) (hK.1.1 0 _ rfl).2 hK.2.2.1.2.1 wm_X8_124 wl_Jx4a65c_get_915e3_by_List_get wi_Jx4a65c_get_915e3 wn_Jx4a65c wc_Jx4a65c_get_915e3 (by decide +kernel) (hM.recv hK (ci := 0) rfl (hL8.2.2.1.1)) ⟨Nat.le_of_ble_eq_true rfl, Nat.le_of_ble_eq_true rfl⟩ ⟨by show 2 * (S6.2.1 - N 4) + 0 ≤ mc; omega, by show (17 + 2 * B) * (S6.2.1 - N 4) + 0 ≤ ms; rw [ems]; exact Nat.mul_le_mul_left _ (by omega)⟩ rfl (Nat.le_of_ble_eq_true rfl) rfl dX8_pass_125 (fun r_125 Mz H locs hq hM => ?_)
                    have hq1 := (hq.1.trans (hL8.2.2.2.2.1 (X5.2.1 + c9) hi)).symm
                    have hq2 := hq.2.symm
                    subst hq1 hq2
                    have hrw := hL8.row (k := 4) (i := X5.2.1 + c9) (by decide) hi
                    refine g_castA hx hb hown (hts _ wk_X8_128) hK hM hrw dX8_pass_130 ?_
                    refine g_callVv (n9 := 1) (As := [.ref (Z8.2.1 4 (X5.2.1 + c9))]) (rest := []) hx hb hml hl.1 hown hts hK hM (c_X8_pay l G _ tx ma h0 fa lb t t2 Z8 (nu N 4 S6.2.1) X8.1 (now + nI h + 1) (0 : Int32) pr X8.2.2.1 X8.2.2.2.1 X8.2.2.2.2 (X5.2.1 + c9) hO8 hL8 d1 d2 d3 hi hpy9) wm_X8_129 wi_X8_pay wl_X8_pay wn_X8 wc_X8_pay (by decide +kernel) (hM.recv hK (ci := 9) rfl hO8.1) ⟨Nat.le_of_ble_eq_true rfl, Nat.le_of_ble_eq_true rfl⟩ ⟨by show 2 * (S6.2.1 - N 4) + 0 ≤ mc; omega, by show (17 + 2 * B) * (S6.2.1 - N 4) + 0 ≤ ms; rw [ems]; exact Nat.mul_le_mul_left _ (by omega)⟩ rfl (Nat.le_of_ble_eq_true rfl) rfl dX8_pass_133 (fun M9 H locs hq hM => ?_)
                    obtain ⟨hO9, ⟨Z9, hL9⟩, hF9⟩ := hq
                    refine lv_iinc (v := (nI (X5.2.1 + c9 + 1))) (lv' := [(8, .int (nI (X5.2.1 + c9 + 1))), (5, .int (nI S6.2.1 - nI (N 4))), (7, .int (nI X5.2.1)), (6, .int (nI h)), (0, .ref ma), (1, .int p0), (2, .int p1), (3, .int p2), (4, .int p3)]) hx hb dX8_pass_136 hl (k := 0) rfl (nI_1 (X5.2.1 + c9)) (by decide) rfl (fun ls hl => ?_)
                    refine lv_goto (tgt := 98) hx hb dX8_pass_139 (by decide) ?_
                    exact ih2 (c9 + 1) (by omega) (by omega) M9 _ _ _ Z9 (pyR N pr (X5.2.1 + c9) X8) (by rw [eX8]; rfl) hO9 hL9 (F3.tr hF8 hF9) hM hl
              exact L98 (S6.2.1 - X5.2.1 + 1) 0 (Nat.zero_le _) (by omega) M7 _ _ _ Z7 S6 rfl (by rw [e6] at hL7 ⊢; exact hO7) hL7 hG7 hM hl
        refine W.cst (cells' := 2 * (X0.2.1 - N 4)) (slots' := (17 + 2 * B) * (X0.2.1 - N 4)) (by rw [x0, Nat.sub_self]) (by rw [x0, Nat.sub_self, Nat.mul_zero]) ?_
        refine L58 (ix p0 + 1) 0 (Nat.zero_le _) (by omega) M1 _ _ _ Z X0 rfl (by rw [eX0]; exact hO1) (by rw [eX0]; show MdR G M1 t h0 Z (nu N 4 (N 4)) U (now + nI 0); rw [nu_i, show now + nI 0 = now from Int32.add_zero _]; exact hL1) hF1 hM ?_
        rw [x0, show nI (N 4) - nI (N 4) = 0 from Int32.sub_self _]
        exact lv_sub hl [0, 1, 2, 3, 4, 5, 6] rfl
      · refine lv_aload_n hx hb dX8_pass_46 rfl (lv_at hl 0 rfl) ?_
        refine lv_iconst (v := (2 : Int32)) hx hb dX8_pass_47 (by decide) ?_
        refine g_callVi (n9 := 1) (As := [.int (2 : Int32)]) (rest := []) hx hb hml hl.1 hown hts hK hM (c_X8_no l G _ ma tx (0 : Int32) pr mo h0 fa lb (2 : Int32) hO1.1) wm_X8_49 wi_X8_no wl_X8_no wn_X8 wc_X8_no (by decide +kernel) (hM.recv hK (ci := 9) rfl hO1.1) ⟨Nat.le_of_ble_eq_true rfl, Nat.le_of_ble_eq_true rfl⟩ ⟨Nat.zero_le _, Nat.zero_le _⟩ rfl (Nat.le_of_ble_eq_true rfl) rfl dX8_pass_48 (fun r_48 M9 H locs hq hM => ?_)
        obtain ⟨er, eM9⟩ := hq
        subst er
        replace hM := hM.eq eM9
        obtain ⟨M2, eM2⟩ : ∃ z, z = hu M1 ma tx (.inr (9, [.int (2 : Int32), .ref h0, .ref fa, .ref lb, .int pr, .int mo])) := ⟨_, rfl⟩
        replace hM : Wd G M2 s H locs := hM.eq eM2.symm
        have hO2 : XdR G M2 tx ma h0 fa lb (2 : Int32) pr mo F Lx := by rw [eM2]; exact hO1.setO (2 : Int32) pr mo
        have hL2 : MdR G M2 t h0 Z N U now := by rw [eM2]; exact hL1.frame (Ne.symm d1) (Fr.up hO1.1)
        have hF2 : F3 tx t t2 M M2 := by rw [eM2]; exact F3.tr hF1 (F3.up hO1.1 (Or.inr (Or.inl rfl)))
        exact g_iret hx hb hr hlocks hM (Nat.zero_le _) (Nat.zero_le _) ⟨(by unfold q_X8_pass; rw [if_neg c1, if_neg c2, if_neg c3]), (by rw [show th_X8_pass N U now th pr mo F Lx p0 p1 p2 p3 = (2 : Int32) from by unfold th_X8_pass; rw [if_neg c1, if_neg c2, if_neg c3]]; rw [show mo_X8_pass N U now th pr mo F Lx p0 p1 p2 p3 = mo from by unfold mo_X8_pass; rw [if_neg c1, if_neg c2, if_neg c3]]; rw [show f_X8_pass N U now th pr mo F Lx p0 p1 p2 p3 = F from by unfold f_X8_pass; rw [if_neg c1, if_neg c2, if_neg c3]]; rw [show lx_X8_pass N U now th pr mo F Lx p0 p1 p2 p3 = Lx from by unfold lx_X8_pass; rw [if_neg c1, if_neg c2, if_neg c3]]; rw [show u_X8_pass N U now th pr mo F Lx p0 p1 p2 p3 = U from by unfold u_X8_pass; rw [if_neg c1, if_neg c2, if_neg c3]]; rw [show n_X8_pass N U now th pr mo F Lx p0 p1 p2 p3 = N from by unfold n_X8_pass; rw [if_neg c1, if_neg c2, if_neg c3]]; rw [show now_X8_pass N U now th pr mo F Lx p0 p1 p2 p3 = now from by unfold now_X8_pass; rw [if_neg c1, if_neg c2, if_neg c3]]; exact ⟨hO2, ⟨Z, hL2⟩, hF2⟩)⟩ dX8_pass_51
    · refine lv_aload_n hx hb dX8_pass_25 rfl (lv_at hl 0 rfl) ?_
      refine lv_iconst (v := (1 : Int32)) hx hb dX8_pass_26 (by decide) ?_
      refine g_callVi (n9 := 1) (As := [.int (1 : Int32)]) (rest := []) hx hb hml hl.1 hown hts hK hM (c_X8_no l G _ ma tx (0 : Int32) pr mo h0 fa lb (1 : Int32) hO1.1) wm_X8_49 wi_X8_no wl_X8_no wn_X8 wc_X8_no (by decide +kernel) (hM.recv hK (ci := 9) rfl hO1.1) ⟨Nat.le_of_ble_eq_true rfl, Nat.le_of_ble_eq_true rfl⟩ ⟨Nat.zero_le _, Nat.zero_le _⟩ rfl (Nat.le_of_ble_eq_true rfl) rfl dX8_pass_27 (fun r_27 M9 H locs hq hM => ?_)
      obtain ⟨er, eM9⟩ := hq
      subst er
      replace hM := hM.eq eM9
      obtain ⟨M2, eM2⟩ : ∃ z, z = hu M1 ma tx (.inr (9, [.int (1 : Int32), .ref h0, .ref fa, .ref lb, .int pr, .int mo])) := ⟨_, rfl⟩
      replace hM : Wd G M2 s H locs := hM.eq eM2.symm
      have hO2 : XdR G M2 tx ma h0 fa lb (1 : Int32) pr mo F Lx := by rw [eM2]; exact hO1.setO (1 : Int32) pr mo
      have hL2 : MdR G M2 t h0 Z N U now := by rw [eM2]; exact hL1.frame (Ne.symm d1) (Fr.up hO1.1)
      have hF2 : F3 tx t t2 M M2 := by rw [eM2]; exact F3.tr hF1 (F3.up hO1.1 (Or.inr (Or.inl rfl)))
      exact g_iret hx hb hr hlocks hM (Nat.zero_le _) (Nat.zero_le _) ⟨(by unfold q_X8_pass; rw [if_neg c1, if_pos c2]), (by rw [show th_X8_pass N U now th pr mo F Lx p0 p1 p2 p3 = (1 : Int32) from by unfold th_X8_pass; rw [if_neg c1, if_pos c2]]; rw [show mo_X8_pass N U now th pr mo F Lx p0 p1 p2 p3 = mo from by unfold mo_X8_pass; rw [if_neg c1, if_pos c2]]; rw [show f_X8_pass N U now th pr mo F Lx p0 p1 p2 p3 = F from by unfold f_X8_pass; rw [if_neg c1, if_pos c2]]; rw [show lx_X8_pass N U now th pr mo F Lx p0 p1 p2 p3 = Lx from by unfold lx_X8_pass; rw [if_neg c1, if_pos c2]]; rw [show u_X8_pass N U now th pr mo F Lx p0 p1 p2 p3 = U from by unfold u_X8_pass; rw [if_neg c1, if_pos c2]]; rw [show n_X8_pass N U now th pr mo F Lx p0 p1 p2 p3 = N from by unfold n_X8_pass; rw [if_neg c1, if_pos c2]]; rw [show now_X8_pass N U now th pr mo F Lx p0 p1 p2 p3 = now from by unfold now_X8_pass; rw [if_neg c1, if_pos c2]]; exact ⟨hO2, ⟨Z, hL2⟩, hF2⟩)⟩ dX8_pass_30

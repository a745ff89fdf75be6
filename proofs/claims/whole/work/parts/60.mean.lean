abbrev Md (l : Launch) (y : MethodName) (ws : List Cond) (fr lo mc ms : Nat) (av : List Value) (G : GG) (M : HM) (P : UInt64 → HM → Prop) : Prop := Met l y ws ({ frames := fr, cells := mc, slots := ms, locals := lo } : Room) (va_Pc av (gP G M)) (va_Qd P (gB G) (gA G)) mc ms (gA G)
theorem Md.go {l : Launch} {y : MethodName} {cc : ByteArray} {n fr lo mc ms : Nat} {ret : Option FieldType} {av : List Value} {G : GG} {M : HM} {P : UInt64 → HM → Prop} (hy : plainName y.cls = true) (hav : (lg_sl av).length ≤ n)
    (h : ∀ (p : Program) (e : Env) (s : State) (m : MethodId) (below : List Frame) (meth : Method) (c : Code) (ls : Array Slot), p.tables.exec = Jvm.exec → c.code = cc → meth.sig.returnType = ret → c.maxLocals = n → s.vm.findClass y.cls = some m.cls → meth.locks = false → meth.name = y.name → (∀ w ∈ AL, w.before av.toArray s = true) → Kw G s → Wd G M s s.heap [] → lv_has ls n (lv_args 0 av) → W p l e ({ frames := fr, cells := mc, slots := ms, locals := lo } : Room) s m av.toArray below meth c s.heap [] 0 0 (MQ below (va_Qd P (gB G) (gA G)) av.toArray s mc ms (gA G)) (F0 m 0 ls [])) : Md l y (.code y cc n ret :: AL) fr lo mc ms av G M P := by
  refine Met.ofW (cc := cc) (maxL := n) (ret := ret) hy rfl ?_
  intro p e s m args below meth c s₁ B hml hv
  obtain ⟨rfl, hK, hM, hsz⟩ := hv
  have hts := atoms_spec (ws := .code y cc n ret :: AL) B.pre
  have hl := lv_entry av (n := n) hav
  rw [lg_entry_eq]
  exact h p e s m below meth c _ B.exec B.bytes B.returns hml (findClass_of_methodNamed B.named) B.notSynchronized (name_of_methodNamed B.named B.method).1 (fun w hw => hts w (List.mem_cons_of_mem _ hw)) hK ⟨hM, va_S.rf, hsz⟩ hl
section GD
variable {p : Program} {l : Launch} {e : Env} {R : Room} {s : State} {m : MethodId} {args : Array Value} {below : List Frame} {meth : Method} {c : Code} {H : Heap} {locs : List Loc} {cells slots : Nat} {Q : State → Prop}
variable {cc : ByteArray} {pc : Nat} {ls : Array Slot} {rest : List Value} {a : Nat} {G : GG} {M : HM}
theorem g_dret (hx : p.tables.exec = Jvm.exec) (hb : c.code = cc) (hr : meth.sig.returnType = some .double) (hlocks : meth.locks = false) (hM : Wd G M s H locs) {mc ms : Nat} (h1 : cells ≤ mc) (h2 : slots ≤ ms) {P : UInt64 → HM → Prop} {v : UInt64} (hv : P v M) (hdg : decode cc pc = .ok (.dreturn, 1)) : W p l e R s m args below meth c H locs cells slots (MQ below (va_Qd P (gB G) (gA G)) args s mc ms (gA G)) (F0 m pc ls [.double v]) :=
  W.widen h1 h2 (W.dret (v := v) hx hb hr (fun t ht _ => ⟨⟨v, M, rfl, hv, by show hm G M t.heap; rw [ht]; exact hM.1⟩, hM.2.1.F ht⟩) hM.2.1.2.2 hdg hlocks)
end GD
theorem nnD {a b : Int32} (h : b ≠ 0) : vf_n64 (FP.ddiv (FP.i2d a) (FP.i2d b)) :=
  Jvm.Free.Fl.noNaN64_no.mpr (FP.Core.ddiv_out ((FP.Core.notNaN_iff _).mpr (by
    obtain ⟨s, c, q, hz⟩ := FP.Core.i2d_fin a
    rw [hz]
    exact fun z => nomatch z)) (FP.Core.i2d_fin b) (fun z => FP.Core.i2d_ne_zero h ((FP.Core.zero_bits2 _).mp z)))
/-- a mean -/
def mdV (w a : Int32) : UInt64 := if a = 0 then FP.dconst0 else FP.ddiv (FP.i2d w) (FP.i2d a)
set_option maxHeartbeats 4000000 in
set_option maxRecDepth 100000 in
theorem c_X6_meanDamp (l : Launch) (G : GG) (M : HM) (xa rx h2 h3 t h0 : Nat) (Y : LY) (N : Nat → Nat) (T : Tb) (tr now price money : Int32) (ho : M xa = some (rx, .inr (7, [.ref h0, .ref h2, .ref h3]))) (hL : LdR G M t h0 Y N T tr now price money) : Md l yX6_meanDamp (.code yX6_meanDamp cX6_meanDamp 5 (some .double) :: AL) 4 86 0 0 [.ref xa] G M (fun r M' => r = mdV (sa 0 (fun j => T 0 j 7 * t_X2_uncut_0 (T 0 j 2) (T 0 j 5)) (N 0)) (sa 0 (fun j => t_X2_uncut_0 (T 0 j 2) (T 0 j 5)) (N 0)) ∧ M' = M) := by
  refine Md.go (by decide) (Nat.le_of_ble_eq_true rfl) ?_
  intro p e s m below meth c ls hx hb hr hml hown hlocks hname hts hK hM hl
  have hown : s.vm.findClass RX6 = some m.cls := hown
  have hl : lv_has ls 5 [(0, .ref xa)] := hl
  have hN8 := hL.2.2.2.2.2.2.1
  have hn0 := hN8 0
  refine lv_aload_n hx hb dX6_meanDamp_0 rfl (lv_at hl 0 rfl) ?_
  refine fg_X6_12 hx hb hts hown hK hM ho dX6_meanDamp_1 ?_
  refine g_callVi (n9 := 0) (As := []) (rest := []) hx hb hml hl.1 hown hts hK hM (c_X3_uncutAcres l G _ t h0 Y N _ tr now price money  hL) wm_X6_297 wi_X3_uncutAcres wl_X3_uncutAcres wn_X3 wc_X3_uncutAcres (by decide +kernel) (hM.recv hK (ci := 4) rfl hL.1) ⟨Nat.le_of_ble_eq_true rfl, Nat.le_of_ble_eq_true rfl⟩ ⟨Nat.le_of_ble_eq_true rfl, Nat.le_of_ble_eq_true rfl⟩ rfl (Nat.le_of_ble_eq_true rfl) rfl dX6_meanDamp_4 (fun r_4 Mz H locs hq hM => ?_)
  have hq1 := hq.1.symm
  have hq2 := hq.2.symm
  subst hq1 hq2
  refine lv_istore_n (lv' := [(1, .int (sa 0 (fun j => t_X2_uncut_0 (T 0 j 2) (T 0 j 5)) (N 0))), (0, .ref xa)]) hx hb dX6_meanDamp_7 rfl hl (by decide) rfl (fun ls hl => ?_)
  refine lv_iload_n hx hb dX6_meanDamp_8 rfl (lv_at hl 0 rfl) ?_
  refine lv_if_ne (tgt := 14) hx hb dX6_meanDamp_9 (by decide) (fun c1 => ?_) (fun c1 => ?_)
  · refine lv_iconst (v := (0 : Int32)) hx hb dX6_meanDamp_14 (by decide) ?_
    refine lv_istore_n (lv' := [(2, .int (0 : Int32)), (1, .int (sa 0 (fun j => t_X2_uncut_0 (T 0 j 2) (T 0 j 5)) (N 0))), (0, .ref xa)]) hx hb dX6_meanDamp_15 rfl hl (by decide) rfl (fun ls hl => ?_)
    refine lv_iconst (v := (0 : Int32)) hx hb dX6_meanDamp_16 (by decide) ?_
    refine lv_istore_n (lv' := [(3, .int (0 : Int32)), (2, .int (0 : Int32)), (1, .int (sa 0 (fun j => t_X2_uncut_0 (T 0 j 2) (T 0 j 5)) (N 0))), (0, .ref xa)]) hx hb dX6_meanDamp_17 rfl hl (by decide) rfl (fun ls hl => ?_)
    have L18 : ∀ (n i : Nat), i ≤ N 0 → N 0 - i < n → ∀ (H : Heap) (locs : List Loc) (ls : Array Slot), Wd G M s H locs → lv_has ls 5 [(3, .int (nI i)), (2, .int (sa 0 (fun j => T 0 j 7 * t_X2_uncut_0 (T 0 j 2) (T 0 j 5)) i)), (1, .int (sa 0 (fun j => t_X2_uncut_0 (T 0 j 2) (T 0 j 5)) (N 0))), (0, .ref xa)] → W p l e ({ frames := 4, cells := 0, slots := 0, locals := 86 } : Room) s m [Value.ref xa].toArray below meth c H locs 0 0 (MQ below (va_Qd (fun r M' => r = mdV (sa 0 (fun j => T 0 j 7 * t_X2_uncut_0 (T 0 j 2) (T 0 j 5)) (N 0)) (sa 0 (fun j => t_X2_uncut_0 (T 0 j 2) (T 0 j 5)) (N 0)) ∧ M' = M) (gB G) (gA G)) [Value.ref xa].toArray s 0 0 (gA G)) (F0 m 18 ls []) := by
      intro n
      induction n with
      | zero => intro i h1 h2; omega
      | succ n ih =>
        intro i h1 h9 H locs ls hM hl
        refine lv_iload_n hx hb dX6_meanDamp_18 rfl (lv_at hl 0 rfl) ?_
        refine lv_aload_n hx hb dX6_meanDamp_19 rfl (lv_at hl 3 rfl) ?_
        refine fg_X6_12 hx hb hts hown hK hM ho dX6_meanDamp_20 ?_
        refine fg_X6_46 hx hb hts hown hK hM hL.1 dX6_meanDamp_23 ?_
        refine g_callVi (n9 := 0) (As := []) (rest := [.int (nI i)]) hx hb hml hl.1 hown hts hK hM (c_Jx4a65c_size_8abf5 l G _ (Y.1 0) t _ _ _ ((hL.2.1 0 (by decide)).1)) wm_X6_50 wi_Jx4a65c_size_8abf5 wl_Jx4a65c_size_8abf5 wn_Jx4a65c wc_Jx4a65c_size_8abf5 (by decide +kernel) (hM.recv hK (ci := 0) rfl ((hL.2.1 0 (by decide)).1)) ⟨Nat.le_of_ble_eq_true rfl, Nat.le_of_ble_eq_true rfl⟩ ⟨Nat.le_of_ble_eq_true rfl, Nat.le_of_ble_eq_true rfl⟩ rfl (Nat.le_of_ble_eq_true rfl) rfl dX6_meanDamp_26 (fun r_26 Mz H locs hq hM => ?_)
        have hq1 := hq.1.symm
        have hq2 := hq.2.symm
        subst hq1 hq2
        refine lv_icmp_ge (tgt := 68) hx hb dX6_meanDamp_29 (by decide) (fun c2 => ?_) (fun c2 => ?_)
        · have hi : i = N 0 := by
            have := (nI_leI (by omega) (by omega)).mp c2
            omega
          subst hi
          refine lv_iload_n hx hb dX6_meanDamp_68 rfl (lv_at hl 1 rfl) ?_
          refine lv_i2d hx hb dX6_meanDamp_69 ?_
          refine lv_iload_n hx hb dX6_meanDamp_70 rfl (lv_at hl 2 rfl) ?_
          refine lv_i2d hx hb dX6_meanDamp_71 ?_
          refine lv_ddiv hx hb dX6_meanDamp_72 (nnD c1) ?_
          exact g_dret hx hb hr hlocks hM (Nat.zero_le _) (Nat.zero_le _) ⟨(if_neg c1).symm, rfl⟩ dX6_meanDamp_73
        · have hi_i : i < N 0 := by
            rcases Nat.lt_or_ge i (N 0) with z | z
            · exact z
            · exact absurd (nI_le z (by omega)) c2
          refine lv_aload_n hx hb dX6_meanDamp_32 rfl (lv_at hl 3 rfl) ?_
          refine fg_X6_12 hx hb hts hown hK hM ho dX6_meanDamp_33 ?_
          refine fg_X6_46 hx hb hts hown hK hM hL.1 dX6_meanDamp_36 ?_
          refine lv_iload_n hx hb dX6_meanDamp_39 rfl (lv_at hl 0 rfl) ?_
          refine g_callVq (n9 := 1) (As := [.int (nI i)]) (rest := []) hx hb hml hl.1 hown hts hK hM (c_getL l G _ t (Y.1 0) (N 0) _ _ i _ _ (hL.2.1 0 (by decide)) hi_i) wm_X6_287 wi_Jx4a65c_get_915e3 wl_Jx4a65c_get_915e3 wn_Jx4a65c wc_Jx4a65c_get_915e3 (by decide +kernel) (hM.recv hK (ci := 0) rfl ((hL.2.1 0 (by decide)).1)) ⟨Nat.le_of_ble_eq_true rfl, Nat.le_of_ble_eq_true rfl⟩ ⟨Nat.le_of_ble_eq_true rfl, Nat.le_of_ble_eq_true rfl⟩ rfl (Nat.le_of_ble_eq_true rfl) rfl dX6_meanDamp_40 (fun r_40 Mz H locs hq hM => ?_)
          have hq1 := (hq.1.trans (hL.at_g (k := 0) (i := i) (by decide) hi_i)).symm
          have hq2 := hq.2.symm
          subst hq1 hq2
          refine va_castS (nm := RX2) hx hb hown (hts _ wk_X6_21) (hK.1.1 3 _ rfl).2 (hM.recv hK (ci := 3) rfl (hL.row (k := 0) (i := i) (by decide) hi_i)) dX6_meanDamp_43 ?_
          refine lv_astore (lv' := [(4, .ref (Y.2.2.2.2.2 0 i)), (3, .int (nI i)), (2, .int (sa 0 (fun j => T 0 j 7 * t_X2_uncut_0 (T 0 j 2) (T 0 j 5)) i)), (1, .int (sa 0 (fun j => t_X2_uncut_0 (T 0 j 2) (T 0 j 5)) (N 0))), (0, .ref xa)]) hx hb dX6_meanDamp_46 hl (by decide) rfl (fun ls hl => ?_)
          refine lv_iload_n hx hb dX6_meanDamp_48 rfl (lv_at hl 2 rfl) ?_
          refine lv_aload hx hb dX6_meanDamp_49 (lv_at hl 0 rfl) ?_
          refine fg_X6_77 hx hb hts hown hK hM (hL.row (k := 0) (i := i) (by decide) hi_i) dX6_meanDamp_51 ?_
          refine lv_aload hx hb dX6_meanDamp_54 (lv_at hl 0 rfl) ?_
          refine g_callVi (n9 := 0) (As := []) (rest := [.int ((T 0 i) 7), .int (sa 0 (fun j => T 0 j 7 * t_X2_uncut_0 (T 0 j 2) (T 0 j 5)) i)]) hx hb hml hl.1 hown hts hK hM (cr_X2_uncut l G _ (Y.2.2.2.2.2 0 i) t (T 0 i)  (hL.row (k := 0) (i := i) (by decide) hi_i) ) wm_X6_315 wi_X2_uncut wl_X2_uncut wn_X2 wc_X2_uncut (by decide +kernel) (hM.recv hK (ci := 3) rfl (hL.row (k := 0) (i := i) (by decide) hi_i)) ⟨Nat.le_of_ble_eq_true rfl, Nat.le_of_ble_eq_true rfl⟩ ⟨Nat.le_of_ble_eq_true rfl, Nat.le_of_ble_eq_true rfl⟩ rfl (Nat.le_of_ble_eq_true rfl) rfl dX6_meanDamp_56 (fun r_56 Mz H locs hq hM => ?_)
          have hq1 := hq.1.symm
          have hq2 := hq.2.symm
          subst hq1 hq2
          refine lv_imul hx hb dX6_meanDamp_59 ?_
          refine lv_iadd hx hb dX6_meanDamp_60 ?_
          refine lv_istore_n (lv' := [(2, .int ((sa 0 (fun j => T 0 j 7 * t_X2_uncut_0 (T 0 j 2) (T 0 j 5)) i) + (((T 0 i) 7) * (t_X2_uncut_0 ((T 0 i) 2) ((T 0 i) 5))))), (4, .ref (Y.2.2.2.2.2 0 i)), (3, .int (nI i)), (1, .int (sa 0 (fun j => t_X2_uncut_0 (T 0 j 2) (T 0 j 5)) (N 0))), (0, .ref xa)]) hx hb dX6_meanDamp_61 rfl hl (by decide) rfl (fun ls hl => ?_)
          refine lv_iinc (v := (nI (i + 1))) (lv' := [(3, .int (nI (i + 1))), (2, .int ((sa 0 (fun j => T 0 j 7 * t_X2_uncut_0 (T 0 j 2) (T 0 j 5)) i) + (((T 0 i) 7) * (t_X2_uncut_0 ((T 0 i) 2) ((T 0 i) 5))))), (4, .ref (Y.2.2.2.2.2 0 i)), (1, .int (sa 0 (fun j => t_X2_uncut_0 (T 0 j 2) (T 0 j 5)) (N 0))), (0, .ref xa)]) hx hb dX6_meanDamp_62 hl (k := 2) rfl (nI_1 i) (by decide) rfl (fun ls hl => ?_)
          refine lv_goto (tgt := 18) hx hb dX6_meanDamp_65 (by decide) ?_
          have ea : sa 0 (fun j => T 0 j 7 * t_X2_uncut_0 (T 0 j 2) (T 0 j 5)) (i + 1) = ((sa 0 (fun j => T 0 j 7 * t_X2_uncut_0 (T 0 j 2) (T 0 j 5)) i) + (((T 0 i) 7) * (t_X2_uncut_0 ((T 0 i) 2) ((T 0 i) 5)))) := rfl
          exact ih (i + 1) (by omega) (by omega) _ _ _ hM (by rw [ea]; exact lv_sub hl [0, 1, 3, 4] rfl)
    exact L18 (N 0 + 1) 0 (Nat.zero_le _) (by omega) _ _ _ hM (lv_sub hl [0, 1, 2, 3] rfl)
  · refine lv_dconst0 hx hb dX6_meanDamp_12 ?_
    exact g_dret hx hb hr hlocks hM (Nat.zero_le _) (Nat.zero_le _) ⟨(if_pos c1).symm, rfl⟩ dX6_meanDamp_13
set_option maxHeartbeats 4000000 in
set_option maxRecDepth 100000 in
theorem c_X8_meanDamp (l : Launch) (G : GG) (M : HM) (tx ma h0 fa lb t t2 : Nat) (Z : LZ) (N : Nat → Nat) (U : Tb) (now th pr mo : Int32) (F Lx : Row) (hO : XdR G M tx ma h0 fa lb th pr mo F Lx) (hL : MdR G M t h0 Z N U now) (d1 : tx ≠ t) (d2 : tx ≠ t2) (d3 : t ≠ t2)   : Md l yX8_meanDamp (.code yX8_meanDamp cX8_meanDamp 5 (some .double) :: AL) 0 0 0 0 [.ref ma] G M (fun r M' => r = mdV (sa 0 (fun j => (U 0 j 2 - U 0 j 3) * U 0 j 5) (N 0)) (sa 0 (fun j => U 0 j 2 - U 0 j 3) (N 0)) ∧ XP G M M' tx ma h0 fa lb t t2 N U now (0 : Int32) pr mo F Lx) := by
  refine Md.go (by decide) (Nat.le_of_ble_eq_true rfl) ?_
  intro p e s m below meth c ls hx hb hr hml hown hlocks hname hts hK hM hl
  have hown : s.vm.findClass RX8 = some m.cls := hown
  have hl : lv_has ls 5 [(0, .ref ma)] := hl
  have hn0 := hL.cnt (k := 0) (by decide)
  have hn09 : N 0 ≤ 8 := by have : N 0 ≤ 8 := hn0; omega
  have hn1 := hL.cnt (k := 1) (by decide)
  have hn19 : N 1 ≤ 8 := by have : N 1 ≤ 4 := hn1; omega
  have hn2 := hL.cnt (k := 2) (by decide)
  have hn29 : N 2 ≤ 8 := by have : N 2 ≤ 4 := hn2; omega
  have hn3 := hL.cnt (k := 3) (by decide)
  have hn39 : N 3 ≤ 8 := by have : N 3 ≤ 3 := hn3; omega
  refine lv_aload_n hx hb dX8_meanDamp_0 rfl (lv_at hl 0 rfl) ?_
  refine lv_iconst (v := (0 : Int32)) hx hb dX8_meanDamp_1 (by decide) ?_
  refine fp_X8_30 hx hb hts hown hK hM hO.1 dX8_meanDamp_2 (fun H locs hM => ?_)
  obtain ⟨M1, eM1⟩ : ∃ z, z = hu M ma tx (.inr (9, [.int (0 : Int32), .ref h0, .ref fa, .ref lb, .int pr, .int mo])) := ⟨_, rfl⟩
  replace hM : Wd G M1 s H locs := hM.eq eM1.symm
  have hO1 : XdR G M1 tx ma h0 fa lb (0 : Int32) pr mo F Lx := by rw [eM1]; exact hO.setO (0 : Int32) pr mo
  have hL1 : MdR G M1 t h0 Z N U now := by rw [eM1]; exact hL.frame (Ne.symm d1) (Fr.up hO.1)
  have hF1 : F3 tx t t2 M M1 := by rw [eM1]; exact F3.tr (F3.rf) (F3.up hO.1 (Or.inr (Or.inl rfl)))
  refine lv_iconst (v := (0 : Int32)) hx hb dX8_meanDamp_5 (by decide) ?_
  refine lv_istore_n (lv' := [(1, .int (0 : Int32)), (0, .ref ma)]) hx hb dX8_meanDamp_6 rfl hl (by decide) rfl (fun ls hl => ?_)
  refine lv_iconst (v := (0 : Int32)) hx hb dX8_meanDamp_7 (by decide) ?_
  refine lv_istore_n (lv' := [(2, .int (0 : Int32)), (1, .int (0 : Int32)), (0, .ref ma)]) hx hb dX8_meanDamp_8 rfl hl (by decide) rfl (fun ls hl => ?_)
  refine lv_iconst (v := (0 : Int32)) hx hb dX8_meanDamp_9 (by decide) ?_
  refine lv_istore_n (lv' := [(3, .int (0 : Int32)), (2, .int (0 : Int32)), (1, .int (0 : Int32)), (0, .ref ma)]) hx hb dX8_meanDamp_10 rfl hl (by decide) rfl (fun ls hl => ?_)
  have L11 : ∀ (n i : Nat), i ≤ N 0 → N 0 - i < n → ∀ (H : Heap) (locs : List Loc) (ls : Array Slot), Wd G M1 s H locs → lv_has ls 5 [(3, .int (nI i)), (2, .int (sa 0 (fun j => U 0 j 2 - U 0 j 3) i)), (1, .int (sa 0 (fun j => (U 0 j 2 - U 0 j 3) * U 0 j 5) i)), (0, .ref ma)] → W p l e ({ frames := 0, cells := 0, slots := 0, locals := 0 } : Room) s m [Value.ref ma].toArray below meth c H locs 0 0 (MQ below (va_Qd (fun r M' => r = mdV (sa 0 (fun j => (U 0 j 2 - U 0 j 3) * U 0 j 5) (N 0)) (sa 0 (fun j => U 0 j 2 - U 0 j 3) (N 0)) ∧ XP G M M' tx ma h0 fa lb t t2 N U now (0 : Int32) pr mo F Lx) (gB G) (gA G)) [.ref ma].toArray s 0 0 (gA G)) (F0 m 11 ls []) := by
    intro n
    induction n with
    | zero => intro i h1 h2; omega
    | succ n ih =>
      intro i h1 h9 H locs ls hM hl
      refine lv_iload_n hx hb dX8_meanDamp_11 rfl (lv_at hl 0 rfl) ?_
      refine lv_aload_n hx hb dX8_meanDamp_12 rfl (lv_at hl 3 rfl) ?_
      refine fg_X8_10 hx hb hts hown hK hM hO1.1 dX8_meanDamp_13 ?_
      refine fg_X8_33 hx hb hts hown hK hM hL1.1 dX8_meanDamp_16 ?_
      refine lv_icmp_ge (tgt := 75) hx hb dX8_meanDamp_19 (by decide) (fun c1 => ?_) (fun c1 => ?_)
      · have hi : i = N 0 := by
          have := (nI_leI (by omega) (by omega)).mp c1
          omega
        subst hi
        refine lv_iload_n hx hb dX8_meanDamp_75 rfl (lv_at hl 1 rfl) ?_
        refine lv_if_ne (tgt := 83) hx hb dX8_meanDamp_76 (by decide) (fun g => ?_) (fun g => ?_)
        · refine lv_iload_n hx hb dX8_meanDamp_83 rfl (lv_at hl 2 rfl) ?_
          refine lv_i2d hx hb dX8_meanDamp_84 ?_
          refine lv_iload_n hx hb dX8_meanDamp_85 rfl (lv_at hl 1 rfl) ?_
          refine lv_i2d hx hb dX8_meanDamp_86 ?_
          refine lv_ddiv hx hb dX8_meanDamp_87 (nnD g) ?_
          exact g_dret hx hb hr hlocks hM (Nat.zero_le _) (Nat.zero_le _) ⟨(if_neg g).symm, hO1, ⟨Z, hL1⟩, hF1⟩ dX8_meanDamp_88
        · refine lv_dconst0 hx hb dX8_meanDamp_79 ?_
          refine lv_goto (tgt := 88) hx hb dX8_meanDamp_80 (by decide) ?_
          exact g_dret hx hb hr hlocks hM (Nat.zero_le _) (Nat.zero_le _) ⟨(if_pos g).symm, hO1, ⟨Z, hL1⟩, hF1⟩ dX8_meanDamp_88
      · have hi : i < N 0 := by
          rcases Nat.lt_or_ge i (N 0) with z | z
          · exact z
          · exact absurd (nI_le z (by omega)) c1
        refine lv_aload_n hx hb dX8_meanDamp_22 rfl (lv_at hl 3 rfl) ?_
        refine fg_X8_10 hx hb hts hown hK hM hO1.1 dX8_meanDamp_23 ?_
        refine fg_X8_57 hx hb hts hown hK hM hL1.1 dX8_meanDamp_26 ?_
        refine lv_iload_n hx hb dX8_meanDamp_29 rfl (lv_at hl 0 rfl) ?_
        refine g_aaldN hx hb hK hM (hL1.outer (k := 0) (by decide)) (Nat.lt_of_lt_of_le hi hn0) (by show 8 < 1000; decide) dX8_meanDamp_30 ?_
        refine lv_iconst (v := (2 : Int32)) hx hb dX8_meanDamp_31 (by decide) ?_
        refine ia11_2 hx hb hK hM (hL1.row (k := 0) (by decide) (Nat.lt_of_lt_of_le hi hn0)) dX8_meanDamp_32 ?_
        refine lv_aload_n hx hb dX8_meanDamp_33 rfl (lv_at hl 3 rfl) ?_
        refine fg_X8_10 hx hb hts hown hK hM hO1.1 dX8_meanDamp_34 ?_
        refine fg_X8_57 hx hb hts hown hK hM hL1.1 dX8_meanDamp_37 ?_
        refine lv_iload_n hx hb dX8_meanDamp_40 rfl (lv_at hl 0 rfl) ?_
        refine g_aaldN hx hb hK hM (hL1.outer (k := 0) (by decide)) (Nat.lt_of_lt_of_le hi hn0) (by show 8 < 1000; decide) dX8_meanDamp_41 ?_
        refine lv_iconst (v := (3 : Int32)) hx hb dX8_meanDamp_42 (by decide) ?_
        refine ia11_3 hx hb hK hM (hL1.row (k := 0) (by decide) (Nat.lt_of_lt_of_le hi hn0)) dX8_meanDamp_43 ?_
        refine lv_isub hx hb dX8_meanDamp_44 ?_
        refine lv_istore (lv' := [(4, .int ((U 0 i 2) - (U 0 i 3))), (3, .int (nI i)), (2, .int (sa 0 (fun j => U 0 j 2 - U 0 j 3) i)), (1, .int (sa 0 (fun j => (U 0 j 2 - U 0 j 3) * U 0 j 5) i)), (0, .ref ma)]) hx hb dX8_meanDamp_45 hl (by decide) rfl (fun ls hl => ?_)
        refine lv_iload_n hx hb dX8_meanDamp_47 rfl (lv_at hl 3 rfl) ?_
        refine lv_iload hx hb dX8_meanDamp_48 (lv_at hl 0 rfl) ?_
        refine lv_aload_n hx hb dX8_meanDamp_50 rfl (lv_at hl 4 rfl) ?_
        refine fg_X8_10 hx hb hts hown hK hM hO1.1 dX8_meanDamp_51 ?_
        refine fg_X8_57 hx hb hts hown hK hM hL1.1 dX8_meanDamp_54 ?_
        refine lv_iload_n hx hb dX8_meanDamp_57 rfl (lv_at hl 1 rfl) ?_
        refine g_aaldN hx hb hK hM (hL1.outer (k := 0) (by decide)) (Nat.lt_of_lt_of_le hi hn0) (by show 8 < 1000; decide) dX8_meanDamp_58 ?_
        refine lv_iconst (v := (5 : Int32)) hx hb dX8_meanDamp_59 (by decide) ?_
        refine ia11_5 hx hb hK hM (hL1.row (k := 0) (by decide) (Nat.lt_of_lt_of_le hi hn0)) dX8_meanDamp_60 ?_
        refine lv_imul hx hb dX8_meanDamp_61 ?_
        refine lv_iadd hx hb dX8_meanDamp_62 ?_
        refine lv_istore_n (lv' := [(1, .int ((sa 0 (fun j => (U 0 j 2 - U 0 j 3) * U 0 j 5) i) + (((U 0 i 2) - (U 0 i 3)) * (U 0 i 5)))), (4, .int ((U 0 i 2) - (U 0 i 3))), (3, .int (nI i)), (2, .int (sa 0 (fun j => U 0 j 2 - U 0 j 3) i)), (0, .ref ma)]) hx hb dX8_meanDamp_63 rfl hl (by decide) rfl (fun ls hl => ?_)
        refine lv_iload_n hx hb dX8_meanDamp_64 rfl (lv_at hl 3 rfl) ?_
        refine lv_iload hx hb dX8_meanDamp_65 (lv_at hl 1 rfl) ?_
        refine lv_iadd hx hb dX8_meanDamp_67 ?_
        refine lv_istore_n (lv' := [(2, .int ((sa 0 (fun j => U 0 j 2 - U 0 j 3) i) + ((U 0 i 2) - (U 0 i 3)))), (1, .int ((sa 0 (fun j => (U 0 j 2 - U 0 j 3) * U 0 j 5) i) + (((U 0 i 2) - (U 0 i 3)) * (U 0 i 5)))), (4, .int ((U 0 i 2) - (U 0 i 3))), (3, .int (nI i)), (0, .ref ma)]) hx hb dX8_meanDamp_68 rfl hl (by decide) rfl (fun ls hl => ?_)
        refine lv_iinc (v := (nI (i + 1))) (lv' := [(3, .int (nI (i + 1))), (2, .int ((sa 0 (fun j => U 0 j 2 - U 0 j 3) i) + ((U 0 i 2) - (U 0 i 3)))), (1, .int ((sa 0 (fun j => (U 0 j 2 - U 0 j 3) * U 0 j 5) i) + (((U 0 i 2) - (U 0 i 3)) * (U 0 i 5)))), (4, .int ((U 0 i 2) - (U 0 i 3))), (0, .ref ma)]) hx hb dX8_meanDamp_69 hl (k := 3) rfl (nI_1 i) (by decide) rfl (fun ls hl => ?_)
        refine lv_goto (tgt := 11) hx hb dX8_meanDamp_72 (by decide) ?_
        have ea1 : sa 0 (fun j => (U 0 j 2 - U 0 j 3) * U 0 j 5) (i + 1) = ((sa 0 (fun j => (U 0 j 2 - U 0 j 3) * U 0 j 5) i) + (((U 0 i 2) - (U 0 i 3)) * (U 0 i 5))) := rfl
        have ea2 : sa 0 (fun j => U 0 j 2 - U 0 j 3) (i + 1) = ((sa 0 (fun j => U 0 j 2 - U 0 j 3) i) + ((U 0 i 2) - (U 0 i 3))) := rfl
        exact ih (i + 1) (by omega) (by omega) _ _ _ hM (by rw [ea1, ea2]; exact lv_sub hl [0, 1, 2, 4] rfl)
  exact L11 (N 0 + 1) 0 (Nat.zero_le _) (by omega) _ _ _ hM (lv_sub hl [0, 1, 2, 3] rfl)

/-! the law's wrappers -/
def Ky (U : State) : Prop := va_Nc exA exI U ∧ va_Nc exS exI U ∧ va_Nc exS exA U
theorem Ky.moved {u U : State} (hvm : u.vm.Alike U.vm) (h : Ky u) : Ky U := ⟨va_Nc.moved hvm h.1, va_Nc.moved hvm h.2.1, va_Nc.moved hvm h.2.2⟩
abbrev gPz (G : GG) (M : HM) : State → Prop := fun U => Ky U ∧ gPx G M U
theorem gPz.blind {G : GG} {M : HM} {av : List Value} : FrameBlind (va_Pc av (gPz G M)) := fun a U g mk h => ⟨h.1, h.2.1.moved (State.WarmedH.refl U).alike, (gPx.blind (G := G) (M := M) (av := av) a U g mk ⟨h.1, h.2.2⟩).2⟩
abbrev Wi (l : Launch) (y : MethodName) (ws : List Cond) (fr lo mc ms : Nat) (av : List Value) (G : GG) (M : HM) (P : Int32 → HM → Prop) : Prop := vx_Met l y ws ({ frames := fr, cells := mc, slots := ms, locals := lo } : Room) (va_Pc av (gPz G M)) (va_Qi P (gB G) (gA G)) (gX G M (fun _ => False)) mc ms (gA G)
theorem Wi.go {l : Launch} {y : MethodName} {cc : ByteArray} {n fr lo mc ms : Nat} {ret : Option FieldType} {hh : List (Nat × Nat × Nat × Nat)} {av : List Value} {G : GG} {M : HM} {P : Int32 → HM → Prop} (hy : plainName y.cls = true) (hav : (lg_sl av).length ≤ n)
    (h : ∀ (p : Program) (e : Env) (s : State) (m : MethodId) (below : List Frame) (meth : Method) (c : Code) (ls : Array Slot), p.tables.exec = Jvm.exec → c.code = cc → meth.sig.returnType = ret → c.maxLocals = n → s.vm.findClass y.cls = some m.cls → meth.locks = false → c.exceptionTable.toList = tableOf hh → (∀ w ∈ AL, w.before av.toArray s = true) → Ky s → Kw G s → Kx G s s.heap → Wd G M s s.heap [] → lv_has ls n (lv_args 0 av) → W p l e ({ frames := fr, cells := mc, slots := ms, locals := lo } : Room) s m av.toArray below meth c s.heap [] 0 0 (vx_MQ below (va_Qi P (gB G) (gA G)) (gX G M (fun _ => False)) av.toArray s mc ms (gA G)) (F0 m 0 ls [])) : Wi l y (.codeWith y cc n ret hh :: AL) fr lo mc ms av G M P := by
  refine vx_ofWH (cc := cc) (maxL := n) (ret := ret) (hh := hh) hy rfl ?_
  intro p e s m args below meth c s₁ B hml hv
  obtain ⟨rfl, hY, hK, hX, hM, hsz⟩ := hv
  have hts := atoms_spec (ws := .codeWith y cc n ret hh :: AL) B.pre
  have ht := vx_table (x := y) B (hts _ List.mem_cons_self)
  have hl := lv_entry av (n := n) hav
  rw [lg_entry_eq]
  exact h p e s m below meth c _ B.exec B.bytes B.returns hml (findClass_of_methodNamed B.named) B.notSynchronized ht (fun w hw => hts w (List.mem_cons_of_mem _ hw)) hY hK hX ⟨hM, va_S.rf, hsz⟩ hl
theorem al_inW {y : MethodName} {cc : ByteArray} {n : Nat} {ret : Option FieldType} {hh : List (Nat × Nat × Nat × Nat)} (h : Cond.codeWith y cc n ret hh ∈ AL) : GoodIn AL (.codeWith y cc n ret hh :: AL) := fun w hw => by
  rcases List.mem_cons.mp hw with e | h2
  · subst e; exact ⟨h, al_gw _ h⟩
  · exact ⟨h2, al_gw _ h2⟩
/-- a cell of longs -/
abbrev loE (G : GG) (f : Nat → Int64) : va_E := .inl (G.2.1 3, 1, .inr (.inl f))
/-- behind a wrapper: the code, and what lies in the cell -/
def WQ (G : GG) (M : HM) (oa ro k : Nat) (pc : Nat → Int32) (P : Int32 → HM → Prop) : Int32 → HM → Prop := fun r M' => r = pc k ∧ ((k = 0 ∧ ∃ (v : Int32) (M1 : HM) (f : Nat → Int64), P v M1 ∧ f 0 = v.toInt64 ∧ M' = hu M1 oa ro (loE G f)) ∨ (k ≠ 0 ∧ M' = M))
section GW9
variable {p : Program} {l : Launch} {e : Env} {R : Room} {s : State} {m : MethodId} {args : Array Value} {below : List Frame} {meth : Method} {c : Code} {H : Heap} {locs : List Loc} {cells slots : Nat} {Q : State → Prop}
variable {cc bytes : ByteArray} {pc nL n9 maxL fr lo mc ms index : Nat} {ls : Array Slot} {As rest : List Value} {b : Nat} {G : GG} {M : HM} {own C : String} {y : MethodName} {ret : Option FieldType} {hh : List (Nat × Nat × Nat × Nat)}
theorem Wd.preZ {U : State} {av : List Value} (hM : Wd G M s H locs) (hY : Ky s) (hK : Kw G s) (hX : Kx G s s.heap) (hU : U.heap = H) (hW : s.WarmedH U.vm) : va_Pc av (gPz G M) av.toArray U := ⟨rfl, hY.moved hW.alike, (hM.preX (av := av) hK hX hU hW).2⟩
theorem g_callW {st0 : List Value} (hx : p.tables.exec = Jvm.exec) (hb : c.code = cc) (hml : c.maxLocals = nL) (hls : ls.size = nL) (hown : s.vm.findClass own = some m.cls) (hts : ∀ w ∈ AL, w.before args s = true) (hY : Ky s) (hK : Kw G s) (hX : Kx G s s.heap) (hM : Wd G M s H locs) {P : Int32 → HM → Prop} (hC : Wi l y (.codeWith y bytes maxL ret hh :: AL) fr lo mc ms As G M P) (hlk : Cond.methodLink own index y ∈ AL) (hin : Cond.static y ∈ AL) (hini : Cond.initialized y.cls ∈ AL) (hcd : Cond.codeWith y bytes maxL ret hh ∈ AL) (hd : okM y n9) (hR : fr + 1 ≤ R.frames ∧ 8 + (maxL + 11) + lo ≤ R.locals) (hf : cells + mc ≤ R.cells ∧ slots + ms ≤ R.slots) (hn : As.length = n9) (hst : (rest.map fun v => v.category).sum ≤ 8) (hst0 : st0 = As.reverse ++ rest) (hdg : decode cc pc = .ok (.invokestatic index, 3))
    (kk : ∀ (r : Int32) (M1 : HM) (H : Heap) (locs : List Loc), P r M1 → Wd G M1 s H locs → W p l e R s m args below meth c H locs (cells + mc) (slots + ms) Q (F0 m (pc + 3) ls (.int r :: rest))) : W p l e R s m args below meth c H locs cells slots Q (F0 m pc ls (st0)) :=
  vx_calli (vx_runSX (As := As) (rest := rest) (hh := hh) ⟨hx, hb, hml, hown, hts⟩ hC ⟨⟨rfl, rfl, hR.1, hR.2, pay_in hts (al_inW hcd), List.mem_cons_self⟩, hts _ hcd, hts _ hini, ⟨hd.1, hd.2.1⟩, (fun sig h => by have h2 := hd.2.2; rw [h] at h2; exact (Option.some.inj h2).symm), hts _ hlk, hts _ hin⟩ ⟨gPz.blind, fun U hU hW => hM.preZ hY hK hX hU hW⟩ rfl hn hls hst0 (lv_room hst) hdg hf) hM.2.1 (fun _ _ h => h) (fun _ h => h) (fun _ _ h => h)
    (fun E0 ce q9 u t H1 locs1 ht hvm hp hB hz hk hS1 h1 h2 h3 => hB.1.elim)
    (fun r u t H1 locs1 ht hvm hp hB hz hk hS1 => kk r u H1 locs1 hp ⟨by rw [← ht]; exact hB, hS1, hM.2.2⟩)
end GW9
set_option maxHeartbeats 4000000 in
set_option maxRecDepth 100000 in
theorem w_field (l : Launch) (G : GG) (M : HM) (xa rx oa ro k fr lo mc ms : Nat) (fs : List Value) (p0 p1 p2 p3 p4 : Int32) (P : Int32 → HM → Prop) (hC : Xi l yX6_field (.code yX6_field cX6_field 6 (some .int) :: AL) fr lo mc ms [.ref xa, .int p0, .int p1, .int p2, .int p3, .int p4] G M P (EX k)) (hxa : M xa = some (rx, .inr (7, fs))) (hk : k = 0 ∨ k = 1 ∨ k = 2 ∨ k = 3) (hP : ∀ v M1, P v M1 → k = 0 ∧ ∃ f, M1 oa = some (ro, loE G f)) : Wi l yL_field (.codeWith yL_field cL_field 8 (some .int) [(0, 16, 19, 13), (0, 16, 23, 15), (0, 16, 27, 17)] :: AL) (fr + 1) (8 + (6 + 11) + lo) mc ms [.ref xa, .int p0, .int p1, .int p2, .int p3, .int p4, .ref oa] G M (WQ G M oa ro k (pcd 1 2 3) P) := by
  refine Wi.go (by decide) (Nat.le_of_ble_eq_true rfl) ?_
  intro p e s m below meth c ls hx hb hr hml hown hlocks ht hts hY hK hX hM hl
  have hown : s.vm.findClass RL = some m.cls := hown
  have hl : lv_has ls 8 [(0, .ref xa), (1, .int p0), (2, .int p1), (3, .int p2), (4, .int p3), (5, .int p4), (6, .ref oa)] := hl
  refine lv_aload hx hb dL_field_0 (lv_at hl 6 rfl) ?_
  refine lv_iconst (v := (0 : Int32)) hx hb dL_field_2 (by decide) ?_
  refine lv_aload_n hx hb dL_field_3 rfl (lv_at hl 0 rfl) ?_
  refine lv_iload_n hx hb dL_field_4 rfl (lv_at hl 1 rfl) ?_
  refine lv_iload_n hx hb dL_field_5 rfl (lv_at hl 2 rfl) ?_
  refine lv_iload_n hx hb dL_field_6 rfl (lv_at hl 3 rfl) ?_
  refine lv_iload hx hb dL_field_7 (lv_at hl 4 rfl) ?_
  refine lv_iload hx hb dL_field_9 (lv_at hl 5 rfl) ?_
  refine g_callXi (n9 := 5) (As := [.int p0, .int p1, .int p2, .int p3, .int p4]) (rest := [.int 0, .ref oa]) hx hb hml hl.1 hown hts hK hX hM hC wm_L_7 wi_X6_field wl_X6_field wn_X6 wc_X6_field (by decide +kernel) (hM.recv hK (ci := 7) rfl hxa) ⟨Nat.le_refl _, Nat.le_refl _⟩ ⟨by show 0 + mc ≤ mc; omega, by show 0 + ms ≤ ms; omega⟩ rfl (Nat.le_of_ble_eq_true rfl) rfl dL_field_11 (fun E0 ce q9 H1 locs1 hE hM1 hce hv hcl => ?_) (fun r M1 H locs hq hM => ?_)
  · rcases hE with ⟨rfl, rfl⟩ | ⟨rfl, rfl⟩ | ⟨rfl, rfl⟩
    · refine vx_catch (own := RL) (name := exI) (E := exI) hown [] ⟨0, 16, 19, 13⟩ [⟨0, 16, 23, 15⟩, ⟨0, 16, 27, 17⟩] (by rw [ht]; rfl) (fun z hz => absurd hz List.not_mem_nil) (by decide) (by decide) (hts _ wk_L_13) (va_Nw.use rfl (hX.2.2.2.2 exI (by decide))) hce hv hcl ?_
      refine lv_astore (lv' := [(7, .ref q9), (0, .ref xa), (1, .int p0), (2, .int p1), (3, .int p2), (4, .int p3), (5, .int p4), (6, .ref oa)]) hx hb dL_field_19 hl (by decide) rfl (fun ls hl => ?_)
      refine lv_iconst (v := (1 : Int32)) hx hb dL_field_21 (by decide) ?_
      exact vx_ret (g_iret hx hb hr hlocks hM1 (by show 0 + mc ≤ mc; omega) (by show 0 + ms ≤ ms; omega) ⟨rfl, Or.inr ⟨by decide, rfl⟩⟩ dL_field_22)
    · refine vx_catch (own := RL) (name := exA) (E := exA) hown [⟨0, 16, 19, 13⟩] ⟨0, 16, 23, 15⟩ [⟨0, 16, 27, 17⟩] (by rw [ht]; rfl) (fun z hz => by
          simp only [List.mem_cons, List.not_mem_nil, or_false] at hz
          subst hz
          exact Or.inr ⟨by decide, exI, hts _ wk_L_13, hY.1⟩) (by decide) (by decide) (hts _ wk_L_15) (va_Nw.use rfl (hX.2.2.2.2 exA (by decide))) hce hv hcl ?_
      refine lv_astore (lv' := [(7, .ref q9), (0, .ref xa), (1, .int p0), (2, .int p1), (3, .int p2), (4, .int p3), (5, .int p4), (6, .ref oa)]) hx hb dL_field_23 hl (by decide) rfl (fun ls hl => ?_)
      refine lv_iconst (v := (2 : Int32)) hx hb dL_field_25 (by decide) ?_
      exact vx_ret (g_iret hx hb hr hlocks hM1 (by show 0 + mc ≤ mc; omega) (by show 0 + ms ≤ ms; omega) ⟨rfl, Or.inr ⟨by decide, rfl⟩⟩ dL_field_26)
    · refine vx_catch (own := RL) (name := exS) (E := exS) hown [⟨0, 16, 19, 13⟩, ⟨0, 16, 23, 15⟩] ⟨0, 16, 27, 17⟩ [] (by rw [ht]; rfl) (fun z hz => by
          simp only [List.mem_cons, List.not_mem_nil, or_false] at hz
          rcases hz with rfl | rfl
          · exact Or.inr ⟨by decide, exI, hts _ wk_L_13, hY.2.1⟩
          · exact Or.inr ⟨by decide, exA, hts _ wk_L_15, hY.2.2⟩) (by decide) (by decide) (hts _ wk_L_17) (va_Nw.use rfl (hX.2.2.2.2 exS (by decide))) hce hv hcl ?_
      refine lv_astore (lv' := [(7, .ref q9), (0, .ref xa), (1, .int p0), (2, .int p1), (3, .int p2), (4, .int p3), (5, .int p4), (6, .ref oa)]) hx hb dL_field_27 hl (by decide) rfl (fun ls hl => ?_)
      refine lv_iconst (v := (3 : Int32)) hx hb dL_field_29 (by decide) ?_
      exact vx_ret (g_iret hx hb hr hlocks hM1 (by show 0 + mc ≤ mc; omega) (by show 0 + ms ≤ ms; omega) ⟨rfl, Or.inr ⟨by decide, rfl⟩⟩ dL_field_30)
  · obtain ⟨hk0, f0, ho⟩ := hP _ _ hq
    refine lv_i2l (v := r.toInt64) hx hb dL_field_14 rfl ?_
    refine g_last hx hb hK hM ho (i := (0 : Int32)) (vp_ix ⟨by decide, by decide⟩) dL_field_15 (fun H locs hM => ?_)
    refine lv_goto (tgt := 31) hx hb dL_field_16 (by decide) ?_
    refine lv_iconst (v := (0 : Int32)) hx hb dL_field_31 (by decide) ?_
    exact vx_ret (g_iret hx hb hr hlocks hM (by show 0 + mc ≤ mc; omega) (by show 0 + ms ≤ ms; omega) ⟨by rw [hk0]; rfl, Or.inl ⟨hk0, r, M1, _, hq, rfl, rfl⟩⟩ dL_field_32)
set_option maxHeartbeats 4000000 in
set_option maxRecDepth 100000 in
theorem w_crop (l : Launch) (G : GG) (M : HM) (xa rx oa ro k fr lo mc ms : Nat) (fs : List Value) (p0 p1 p2 : Int32) (P : Int32 → HM → Prop) (hC : Xi l yX6_crop (.code yX6_crop cX6_crop 6 (some .int) :: AL) fr lo mc ms [.ref xa, .int p0, .int p1, .int p2] G M P (EX k)) (hxa : M xa = some (rx, .inr (7, fs))) (hk : k = 0 ∨ k = 1 ∨ k = 2) (hP : ∀ v M1, P v M1 → k = 0 ∧ ∃ f, M1 oa = some (ro, loE G f)) : Wi l yL_crop (.codeWith yL_crop cL_crop 6 (some .int) [(0, 12, 15, 13), (0, 12, 19, 15)] :: AL) (fr + 1) (8 + (6 + 11) + lo) mc ms [.ref xa, .int p0, .int p1, .int p2, .ref oa] G M (WQ G M oa ro k (pcd 1 2 0) P) := by
  refine Wi.go (by decide) (Nat.le_of_ble_eq_true rfl) ?_
  intro p e s m below meth c ls hx hb hr hml hown hlocks ht hts hY hK hX hM hl
  have hown : s.vm.findClass RL = some m.cls := hown
  have hl : lv_has ls 6 [(0, .ref xa), (1, .int p0), (2, .int p1), (3, .int p2), (4, .ref oa)] := hl
  refine lv_aload hx hb dL_crop_0 (lv_at hl 4 rfl) ?_
  refine lv_iconst (v := (0 : Int32)) hx hb dL_crop_2 (by decide) ?_
  refine lv_aload_n hx hb dL_crop_3 rfl (lv_at hl 0 rfl) ?_
  refine lv_iload_n hx hb dL_crop_4 rfl (lv_at hl 1 rfl) ?_
  refine lv_iload_n hx hb dL_crop_5 rfl (lv_at hl 2 rfl) ?_
  refine lv_iload_n hx hb dL_crop_6 rfl (lv_at hl 3 rfl) ?_
  refine g_callXi (n9 := 3) (As := [.int p0, .int p1, .int p2]) (rest := [.int 0, .ref oa]) hx hb hml hl.1 hown hts hK hX hM hC wm_L_19 wi_X6_crop wl_X6_crop wn_X6 wc_X6_crop (by decide +kernel) (hM.recv hK (ci := 7) rfl hxa) ⟨Nat.le_refl _, Nat.le_refl _⟩ ⟨by show 0 + mc ≤ mc; omega, by show 0 + ms ≤ ms; omega⟩ rfl (Nat.le_of_ble_eq_true rfl) rfl dL_crop_7 (fun E0 ce q9 H1 locs1 hE hM1 hce hv hcl => ?_) (fun r M1 H locs hq hM => ?_)
  · rcases hE with ⟨rfl, rfl⟩ | ⟨rfl, rfl⟩ | ⟨rfl, rfl⟩
    · refine vx_catch (own := RL) (name := exI) (E := exI) hown [] ⟨0, 12, 15, 13⟩ [⟨0, 12, 19, 15⟩] (by rw [ht]; rfl) (fun z hz => absurd hz List.not_mem_nil) (by decide) (by decide) (hts _ wk_L_13) (va_Nw.use rfl (hX.2.2.2.2 exI (by decide))) hce hv hcl ?_
      refine lv_astore (lv' := [(5, .ref q9), (0, .ref xa), (1, .int p0), (2, .int p1), (3, .int p2), (4, .ref oa)]) hx hb dL_crop_15 hl (by decide) rfl (fun ls hl => ?_)
      refine lv_iconst (v := (1 : Int32)) hx hb dL_crop_17 (by decide) ?_
      exact vx_ret (g_iret hx hb hr hlocks hM1 (by show 0 + mc ≤ mc; omega) (by show 0 + ms ≤ ms; omega) ⟨rfl, Or.inr ⟨by decide, rfl⟩⟩ dL_crop_18)
    · refine vx_catch (own := RL) (name := exA) (E := exA) hown [⟨0, 12, 15, 13⟩] ⟨0, 12, 19, 15⟩ [] (by rw [ht]; rfl) (fun z hz => by
          simp only [List.mem_cons, List.not_mem_nil, or_false] at hz
          subst hz
          exact Or.inr ⟨by decide, exI, hts _ wk_L_13, hY.1⟩) (by decide) (by decide) (hts _ wk_L_15) (va_Nw.use rfl (hX.2.2.2.2 exA (by decide))) hce hv hcl ?_
      refine lv_astore (lv' := [(5, .ref q9), (0, .ref xa), (1, .int p0), (2, .int p1), (3, .int p2), (4, .ref oa)]) hx hb dL_crop_19 hl (by decide) rfl (fun ls hl => ?_)
      refine lv_iconst (v := (2 : Int32)) hx hb dL_crop_21 (by decide) ?_
      exact vx_ret (g_iret hx hb hr hlocks hM1 (by show 0 + mc ≤ mc; omega) (by show 0 + ms ≤ ms; omega) ⟨rfl, Or.inr ⟨by decide, rfl⟩⟩ dL_crop_22)
    · exact absurd hk (by decide)
  · obtain ⟨hk0, f0, ho⟩ := hP _ _ hq
    refine lv_i2l (v := r.toInt64) hx hb dL_crop_10 rfl ?_
    refine g_last hx hb hK hM ho (i := (0 : Int32)) (vp_ix ⟨by decide, by decide⟩) dL_crop_11 (fun H locs hM => ?_)
    refine lv_goto (tgt := 23) hx hb dL_crop_12 (by decide) ?_
    refine lv_iconst (v := (0 : Int32)) hx hb dL_crop_23 (by decide) ?_
    exact vx_ret (g_iret hx hb hr hlocks hM (by show 0 + mc ≤ mc; omega) (by show 0 + ms ≤ ms; omega) ⟨by rw [hk0]; rfl, Or.inl ⟨hk0, r, M1, _, hq, rfl, rfl⟩⟩ dL_crop_24)
set_option maxHeartbeats 4000000 in
set_option maxRecDepth 100000 in
theorem w_combine (l : Launch) (G : GG) (M : HM) (xa rx oa ro k fr lo mc ms : Nat) (fs : List Value) (p0 p1 : Int32) (P : Int32 → HM → Prop) (hC : Xi l yX6_combine (.code yX6_combine cX6_combine 3 (some .int) :: AL) fr lo mc ms [.ref xa, .int p0, .int p1] G M P (EX k)) (hxa : M xa = some (rx, .inr (7, fs))) (hk : k = 0 ∨ k = 2 ∨ k = 3) (hP : ∀ v M1, P v M1 → k = 0 ∧ ∃ f, M1 oa = some (ro, loE G f)) : Wi l yL_combine (.codeWith yL_combine cL_combine 5 (some .int) [(0, 10, 13, 15), (0, 10, 17, 17)] :: AL) (fr + 1) (8 + (3 + 11) + lo) mc ms [.ref xa, .int p0, .int p1, .ref oa] G M (WQ G M oa ro k (pcd 0 1 2) P) := by
  refine Wi.go (by decide) (Nat.le_of_ble_eq_true rfl) ?_
  intro p e s m below meth c ls hx hb hr hml hown hlocks ht hts hY hK hX hM hl
  have hown : s.vm.findClass RL = some m.cls := hown
  have hl : lv_has ls 5 [(0, .ref xa), (1, .int p0), (2, .int p1), (3, .ref oa)] := hl
  refine lv_aload_n hx hb dL_combine_0 rfl (lv_at hl 3 rfl) ?_
  refine lv_iconst (v := (0 : Int32)) hx hb dL_combine_1 (by decide) ?_
  refine lv_aload_n hx hb dL_combine_2 rfl (lv_at hl 0 rfl) ?_
  refine lv_iload_n hx hb dL_combine_3 rfl (lv_at hl 1 rfl) ?_
  refine lv_iload_n hx hb dL_combine_4 rfl (lv_at hl 2 rfl) ?_
  refine g_callXi (n9 := 2) (As := [.int p0, .int p1]) (rest := [.int 0, .ref oa]) hx hb hml hl.1 hown hts hK hX hM hC wm_L_23 wi_X6_combine wl_X6_combine wn_X6 wc_X6_combine (by decide +kernel) (hM.recv hK (ci := 7) rfl hxa) ⟨Nat.le_refl _, Nat.le_refl _⟩ ⟨by show 0 + mc ≤ mc; omega, by show 0 + ms ≤ ms; omega⟩ rfl (Nat.le_of_ble_eq_true rfl) rfl dL_combine_5 (fun E0 ce q9 H1 locs1 hE hM1 hce hv hcl => ?_) (fun r M1 H locs hq hM => ?_)
  · rcases hE with ⟨rfl, rfl⟩ | ⟨rfl, rfl⟩ | ⟨rfl, rfl⟩
    · exact absurd hk (by decide)
    · refine vx_catch (own := RL) (name := exA) (E := exA) hown [] ⟨0, 10, 13, 15⟩ [⟨0, 10, 17, 17⟩] (by rw [ht]; rfl) (fun z hz => absurd hz List.not_mem_nil) (by decide) (by decide) (hts _ wk_L_15) (va_Nw.use rfl (hX.2.2.2.2 exA (by decide))) hce hv hcl ?_
      refine lv_astore (lv' := [(4, .ref q9), (0, .ref xa), (1, .int p0), (2, .int p1), (3, .ref oa)]) hx hb dL_combine_13 hl (by decide) rfl (fun ls hl => ?_)
      refine lv_iconst (v := (1 : Int32)) hx hb dL_combine_15 (by decide) ?_
      exact vx_ret (g_iret hx hb hr hlocks hM1 (by show 0 + mc ≤ mc; omega) (by show 0 + ms ≤ ms; omega) ⟨rfl, Or.inr ⟨by decide, rfl⟩⟩ dL_combine_16)
    · refine vx_catch (own := RL) (name := exS) (E := exS) hown [⟨0, 10, 13, 15⟩] ⟨0, 10, 17, 17⟩ [] (by rw [ht]; rfl) (fun z hz => by
          simp only [List.mem_cons, List.not_mem_nil, or_false] at hz
          subst hz
          exact Or.inr ⟨by decide, exA, hts _ wk_L_15, hY.2.2⟩) (by decide) (by decide) (hts _ wk_L_17) (va_Nw.use rfl (hX.2.2.2.2 exS (by decide))) hce hv hcl ?_
      refine lv_astore (lv' := [(4, .ref q9), (0, .ref xa), (1, .int p0), (2, .int p1), (3, .ref oa)]) hx hb dL_combine_17 hl (by decide) rfl (fun ls hl => ?_)
      refine lv_iconst (v := (2 : Int32)) hx hb dL_combine_19 (by decide) ?_
      exact vx_ret (g_iret hx hb hr hlocks hM1 (by show 0 + mc ≤ mc; omega) (by show 0 + ms ≤ ms; omega) ⟨rfl, Or.inr ⟨by decide, rfl⟩⟩ dL_combine_20)
  · obtain ⟨hk0, f0, ho⟩ := hP _ _ hq
    refine lv_i2l (v := r.toInt64) hx hb dL_combine_8 rfl ?_
    refine g_last hx hb hK hM ho (i := (0 : Int32)) (vp_ix ⟨by decide, by decide⟩) dL_combine_9 (fun H locs hM => ?_)
    refine lv_goto (tgt := 21) hx hb dL_combine_10 (by decide) ?_
    refine lv_iconst (v := (0 : Int32)) hx hb dL_combine_21 (by decide) ?_
    exact vx_ret (g_iret hx hb hr hlocks hM (by show 0 + mc ≤ mc; omega) (by show 0 + ms ≤ ms; omega) ⟨by rw [hk0]; rfl, Or.inl ⟨hk0, r, M1, _, hq, rfl, rfl⟩⟩ dL_combine_22)
set_option maxHeartbeats 4000000 in
set_option maxRecDepth 100000 in
theorem w_truck (l : Launch) (G : GG) (M : HM) (xa rx oa ro k fr lo mc ms : Nat) (fs : List Value) (p0 : Int32) (P : Int32 → HM → Prop) (hC : Xi l yX6_truck (.code yX6_truck cX6_truck 2 (some .int) :: AL) fr lo mc ms [.ref xa, .int p0] G M P (EX k)) (hxa : M xa = some (rx, .inr (7, fs))) (hk : k = 0 ∨ k = 2 ∨ k = 3) (hP : ∀ v M1, P v M1 → k = 0 ∧ ∃ f, M1 oa = some (ro, loE G f)) : Wi l yL_truck (.codeWith yL_truck cL_truck 4 (some .int) [(0, 9, 12, 15), (0, 9, 15, 17)] :: AL) (fr + 1) (8 + (2 + 11) + lo) mc ms [.ref xa, .int p0, .ref oa] G M (WQ G M oa ro k (pcd 0 1 2) P) := by
  refine Wi.go (by decide) (Nat.le_of_ble_eq_true rfl) ?_
  intro p e s m below meth c ls hx hb hr hml hown hlocks ht hts hY hK hX hM hl
  have hown : s.vm.findClass RL = some m.cls := hown
  have hl : lv_has ls 4 [(0, .ref xa), (1, .int p0), (2, .ref oa)] := hl
  refine lv_aload_n hx hb dL_truck_0 rfl (lv_at hl 2 rfl) ?_
  refine lv_iconst (v := (0 : Int32)) hx hb dL_truck_1 (by decide) ?_
  refine lv_aload_n hx hb dL_truck_2 rfl (lv_at hl 0 rfl) ?_
  refine lv_iload_n hx hb dL_truck_3 rfl (lv_at hl 1 rfl) ?_
  refine g_callXi (n9 := 1) (As := [.int p0]) (rest := [.int 0, .ref oa]) hx hb hml hl.1 hown hts hK hX hM hC wm_L_27 wi_X6_truck wl_X6_truck wn_X6 wc_X6_truck (by decide +kernel) (hM.recv hK (ci := 7) rfl hxa) ⟨Nat.le_refl _, Nat.le_refl _⟩ ⟨by show 0 + mc ≤ mc; omega, by show 0 + ms ≤ ms; omega⟩ rfl (Nat.le_of_ble_eq_true rfl) rfl dL_truck_4 (fun E0 ce q9 H1 locs1 hE hM1 hce hv hcl => ?_) (fun r M1 H locs hq hM => ?_)
  · rcases hE with ⟨rfl, rfl⟩ | ⟨rfl, rfl⟩ | ⟨rfl, rfl⟩
    · exact absurd hk (by decide)
    · refine vx_catch (own := RL) (name := exA) (E := exA) hown [] ⟨0, 9, 12, 15⟩ [⟨0, 9, 15, 17⟩] (by rw [ht]; rfl) (fun z hz => absurd hz List.not_mem_nil) (by decide) (by decide) (hts _ wk_L_15) (va_Nw.use rfl (hX.2.2.2.2 exA (by decide))) hce hv hcl ?_
      refine lv_astore_n (lv' := [(3, .ref q9), (0, .ref xa), (1, .int p0), (2, .ref oa)]) hx hb dL_truck_12 rfl hl (by decide) rfl (fun ls hl => ?_)
      refine lv_iconst (v := (1 : Int32)) hx hb dL_truck_13 (by decide) ?_
      exact vx_ret (g_iret hx hb hr hlocks hM1 (by show 0 + mc ≤ mc; omega) (by show 0 + ms ≤ ms; omega) ⟨rfl, Or.inr ⟨by decide, rfl⟩⟩ dL_truck_14)
    · refine vx_catch (own := RL) (name := exS) (E := exS) hown [⟨0, 9, 12, 15⟩] ⟨0, 9, 15, 17⟩ [] (by rw [ht]; rfl) (fun z hz => by
          simp only [List.mem_cons, List.not_mem_nil, or_false] at hz
          subst hz
          exact Or.inr ⟨by decide, exA, hts _ wk_L_15, hY.2.2⟩) (by decide) (by decide) (hts _ wk_L_17) (va_Nw.use rfl (hX.2.2.2.2 exS (by decide))) hce hv hcl ?_
      refine lv_astore_n (lv' := [(3, .ref q9), (0, .ref xa), (1, .int p0), (2, .ref oa)]) hx hb dL_truck_15 rfl hl (by decide) rfl (fun ls hl => ?_)
      refine lv_iconst (v := (2 : Int32)) hx hb dL_truck_16 (by decide) ?_
      exact vx_ret (g_iret hx hb hr hlocks hM1 (by show 0 + mc ≤ mc; omega) (by show 0 + ms ≤ ms; omega) ⟨rfl, Or.inr ⟨by decide, rfl⟩⟩ dL_truck_17)
  · obtain ⟨hk0, f0, ho⟩ := hP _ _ hq
    refine lv_i2l (v := r.toInt64) hx hb dL_truck_7 rfl ?_
    refine g_last hx hb hK hM ho (i := (0 : Int32)) (vp_ix ⟨by decide, by decide⟩) dL_truck_8 (fun H locs hM => ?_)
    refine lv_goto (tgt := 18) hx hb dL_truck_9 (by decide) ?_
    refine lv_iconst (v := (0 : Int32)) hx hb dL_truck_18 (by decide) ?_
    exact vx_ret (g_iret hx hb hr hlocks hM (by show 0 + mc ≤ mc; omega) (by show 0 + ms ≤ ms; omega) ⟨by rw [hk0]; rfl, Or.inl ⟨hk0, r, M1, _, hq, rfl, rfl⟩⟩ dL_truck_19)
set_option maxHeartbeats 4000000 in
set_option maxRecDepth 100000 in
theorem w_elevator (l : Launch) (G : GG) (M : HM) (xa rx oa ro k fr lo mc ms : Nat) (fs : List Value) (p0 p1 p2 p3 p4 p5 : Int32) (P : Int32 → HM → Prop) (hC : Xi l yX6_elevator (.code yX6_elevator cX6_elevator 7 (some .int) :: AL) fr lo mc ms [.ref xa, .int p0, .int p1, .int p2, .int p3, .int p4, .int p5] G M P (EX k)) (hxa : M xa = some (rx, .inr (7, fs))) (hk : k = 0 ∨ k = 2 ∨ k = 3) (hP : ∀ v M1, P v M1 → k = 0 ∧ ∃ f, M1 oa = some (ro, loE G f)) : Wi l yL_elevator (.codeWith yL_elevator cL_elevator 9 (some .int) [(0, 18, 21, 15), (0, 18, 25, 17)] :: AL) (fr + 1) (8 + (7 + 11) + lo) mc ms [.ref xa, .int p0, .int p1, .int p2, .int p3, .int p4, .int p5, .ref oa] G M (WQ G M oa ro k (pcd 0 1 2) P) := by
  refine Wi.go (by decide) (Nat.le_of_ble_eq_true rfl) ?_
  intro p e s m below meth c ls hx hb hr hml hown hlocks ht hts hY hK hX hM hl
  have hown : s.vm.findClass RL = some m.cls := hown
  have hl : lv_has ls 9 [(0, .ref xa), (1, .int p0), (2, .int p1), (3, .int p2), (4, .int p3), (5, .int p4), (6, .int p5), (7, .ref oa)] := hl
  refine lv_aload hx hb dL_elevator_0 (lv_at hl 7 rfl) ?_
  refine lv_iconst (v := (0 : Int32)) hx hb dL_elevator_2 (by decide) ?_
  refine lv_aload_n hx hb dL_elevator_3 rfl (lv_at hl 0 rfl) ?_
  refine lv_iload_n hx hb dL_elevator_4 rfl (lv_at hl 1 rfl) ?_
  refine lv_iload_n hx hb dL_elevator_5 rfl (lv_at hl 2 rfl) ?_
  refine lv_iload_n hx hb dL_elevator_6 rfl (lv_at hl 3 rfl) ?_
  refine lv_iload hx hb dL_elevator_7 (lv_at hl 4 rfl) ?_
  refine lv_iload hx hb dL_elevator_9 (lv_at hl 5 rfl) ?_
  refine lv_iload hx hb dL_elevator_11 (lv_at hl 6 rfl) ?_
  refine g_callXi (n9 := 6) (As := [.int p0, .int p1, .int p2, .int p3, .int p4, .int p5]) (rest := [.int 0, .ref oa]) hx hb hml hl.1 hown hts hK hX hM hC wm_L_31 wi_X6_elevator wl_X6_elevator wn_X6 wc_X6_elevator (by decide +kernel) (hM.recv hK (ci := 7) rfl hxa) ⟨Nat.le_refl _, Nat.le_refl _⟩ ⟨by show 0 + mc ≤ mc; omega, by show 0 + ms ≤ ms; omega⟩ rfl (Nat.le_of_ble_eq_true rfl) rfl dL_elevator_13 (fun E0 ce q9 H1 locs1 hE hM1 hce hv hcl => ?_) (fun r M1 H locs hq hM => ?_)
  · rcases hE with ⟨rfl, rfl⟩ | ⟨rfl, rfl⟩ | ⟨rfl, rfl⟩
    · exact absurd hk (by decide)
    · refine vx_catch (own := RL) (name := exA) (E := exA) hown [] ⟨0, 18, 21, 15⟩ [⟨0, 18, 25, 17⟩] (by rw [ht]; rfl) (fun z hz => absurd hz List.not_mem_nil) (by decide) (by decide) (hts _ wk_L_15) (va_Nw.use rfl (hX.2.2.2.2 exA (by decide))) hce hv hcl ?_
      refine lv_astore (lv' := [(8, .ref q9), (0, .ref xa), (1, .int p0), (2, .int p1), (3, .int p2), (4, .int p3), (5, .int p4), (6, .int p5), (7, .ref oa)]) hx hb dL_elevator_21 hl (by decide) rfl (fun ls hl => ?_)
      refine lv_iconst (v := (1 : Int32)) hx hb dL_elevator_23 (by decide) ?_
      exact vx_ret (g_iret hx hb hr hlocks hM1 (by show 0 + mc ≤ mc; omega) (by show 0 + ms ≤ ms; omega) ⟨rfl, Or.inr ⟨by decide, rfl⟩⟩ dL_elevator_24)
    · refine vx_catch (own := RL) (name := exS) (E := exS) hown [⟨0, 18, 21, 15⟩] ⟨0, 18, 25, 17⟩ [] (by rw [ht]; rfl) (fun z hz => by
          simp only [List.mem_cons, List.not_mem_nil, or_false] at hz
          subst hz
          exact Or.inr ⟨by decide, exA, hts _ wk_L_15, hY.2.2⟩) (by decide) (by decide) (hts _ wk_L_17) (va_Nw.use rfl (hX.2.2.2.2 exS (by decide))) hce hv hcl ?_
      refine lv_astore (lv' := [(8, .ref q9), (0, .ref xa), (1, .int p0), (2, .int p1), (3, .int p2), (4, .int p3), (5, .int p4), (6, .int p5), (7, .ref oa)]) hx hb dL_elevator_25 hl (by decide) rfl (fun ls hl => ?_)
      refine lv_iconst (v := (2 : Int32)) hx hb dL_elevator_27 (by decide) ?_
      exact vx_ret (g_iret hx hb hr hlocks hM1 (by show 0 + mc ≤ mc; omega) (by show 0 + ms ≤ ms; omega) ⟨rfl, Or.inr ⟨by decide, rfl⟩⟩ dL_elevator_28)
  · obtain ⟨hk0, f0, ho⟩ := hP _ _ hq
    refine lv_i2l (v := r.toInt64) hx hb dL_elevator_16 rfl ?_
    refine g_last hx hb hK hM ho (i := (0 : Int32)) (vp_ix ⟨by decide, by decide⟩) dL_elevator_17 (fun H locs hM => ?_)
    refine lv_goto (tgt := 29) hx hb dL_elevator_18 (by decide) ?_
    refine lv_iconst (v := (0 : Int32)) hx hb dL_elevator_29 (by decide) ?_
    exact vx_ret (g_iret hx hb hr hlocks hM (by show 0 + mc ≤ mc; omega) (by show 0 + ms ≤ ms; omega) ⟨by rw [hk0]; rfl, Or.inl ⟨hk0, r, M1, _, hq, rfl, rfl⟩⟩ dL_elevator_30)
set_option maxHeartbeats 4000000 in
set_option maxRecDepth 100000 in
theorem w_price (l : Launch) (G : GG) (M : HM) (xa rx oa ro k fr lo mc ms : Nat) (fs : List Value) (p0 : Int32) (P : Int32 → HM → Prop) (hC : Xi l yX6_price (.code yX6_price cX6_price 3 (some .int) :: AL) fr lo mc ms [.ref xa, .int p0] G M P (EX k)) (hxa : M xa = some (rx, .inr (7, fs))) (hk : k = 0 ∨ k = 2) (hP : ∀ v M1, P v M1 → k = 0 ∧ ∃ f, M1 oa = some (ro, loE G f)) : Wi l yL_price (.codeWith yL_price cL_price 4 (some .int) [(0, 9, 12, 15)] :: AL) (fr + 1) (8 + (3 + 11) + lo) mc ms [.ref xa, .int p0, .ref oa] G M (WQ G M oa ro k (pcd 0 1 0) P) := by
  refine Wi.go (by decide) (Nat.le_of_ble_eq_true rfl) ?_
  intro p e s m below meth c ls hx hb hr hml hown hlocks ht hts hY hK hX hM hl
  have hown : s.vm.findClass RL = some m.cls := hown
  have hl : lv_has ls 4 [(0, .ref xa), (1, .int p0), (2, .ref oa)] := hl
  refine lv_aload_n hx hb dL_price_0 rfl (lv_at hl 2 rfl) ?_
  refine lv_iconst (v := (0 : Int32)) hx hb dL_price_1 (by decide) ?_
  refine lv_aload_n hx hb dL_price_2 rfl (lv_at hl 0 rfl) ?_
  refine lv_iload_n hx hb dL_price_3 rfl (lv_at hl 1 rfl) ?_
  refine g_callXi (n9 := 1) (As := [.int p0]) (rest := [.int 0, .ref oa]) hx hb hml hl.1 hown hts hK hX hM hC wm_L_35 wi_X6_price wl_X6_price wn_X6 wc_X6_price (by decide +kernel) (hM.recv hK (ci := 7) rfl hxa) ⟨Nat.le_refl _, Nat.le_refl _⟩ ⟨by show 0 + mc ≤ mc; omega, by show 0 + ms ≤ ms; omega⟩ rfl (Nat.le_of_ble_eq_true rfl) rfl dL_price_4 (fun E0 ce q9 H1 locs1 hE hM1 hce hv hcl => ?_) (fun r M1 H locs hq hM => ?_)
  · rcases hE with ⟨rfl, rfl⟩ | ⟨rfl, rfl⟩ | ⟨rfl, rfl⟩
    · exact absurd hk (by decide)
    · refine vx_catch (own := RL) (name := exA) (E := exA) hown [] ⟨0, 9, 12, 15⟩ [] (by rw [ht]; rfl) (fun z hz => absurd hz List.not_mem_nil) (by decide) (by decide) (hts _ wk_L_15) (va_Nw.use rfl (hX.2.2.2.2 exA (by decide))) hce hv hcl ?_
      refine lv_astore_n (lv' := [(3, .ref q9), (0, .ref xa), (1, .int p0), (2, .ref oa)]) hx hb dL_price_12 rfl hl (by decide) rfl (fun ls hl => ?_)
      refine lv_iconst (v := (1 : Int32)) hx hb dL_price_13 (by decide) ?_
      exact vx_ret (g_iret hx hb hr hlocks hM1 (by show 0 + mc ≤ mc; omega) (by show 0 + ms ≤ ms; omega) ⟨rfl, Or.inr ⟨by decide, rfl⟩⟩ dL_price_14)
    · exact absurd hk (by decide)
  · obtain ⟨hk0, f0, ho⟩ := hP _ _ hq
    refine lv_i2l (v := r.toInt64) hx hb dL_price_7 rfl ?_
    refine g_last hx hb hK hM ho (i := (0 : Int32)) (vp_ix ⟨by decide, by decide⟩) dL_price_8 (fun H locs hM => ?_)
    refine lv_goto (tgt := 15) hx hb dL_price_9 (by decide) ?_
    refine lv_iconst (v := (0 : Int32)) hx hb dL_price_15 (by decide) ?_
    exact vx_ret (g_iret hx hb hr hlocks hM (by show 0 + mc ≤ mc; omega) (by show 0 + ms ≤ ms; omega) ⟨by rw [hk0]; rfl, Or.inl ⟨hk0, r, M1, _, hq, rfl, rfl⟩⟩ dL_price_16)
set_option maxHeartbeats 4000000 in
set_option maxRecDepth 100000 in
theorem w_cut (l : Launch) (G : GG) (M : HM) (xa rx oa ro k fr lo mc ms : Nat) (fs : List Value) (p0 p1 : Int32) (P : Int32 → HM → Prop) (hC : Xi l yX6_cut (.code yX6_cut cX6_cut 4 (some .int) :: AL) fr lo mc ms [.ref xa, .int p0, .int p1] G M P (EX k)) (hxa : M xa = some (rx, .inr (7, fs))) (hk : k = 0 ∨ k = 1) (hP : ∀ v M1, P v M1 → k = 0 ∧ ∃ f, M1 oa = some (ro, loE G f)) : Wi l yL_cut (.codeWith yL_cut cL_cut 5 (some .int) [(0, 10, 13, 13)] :: AL) (fr + 1) (8 + (4 + 11) + lo) mc ms [.ref xa, .int p0, .int p1, .ref oa] G M (WQ G M oa ro k (pcd 1 0 0) P) := by
  refine Wi.go (by decide) (Nat.le_of_ble_eq_true rfl) ?_
  intro p e s m below meth c ls hx hb hr hml hown hlocks ht hts hY hK hX hM hl
  have hown : s.vm.findClass RL = some m.cls := hown
  have hl : lv_has ls 5 [(0, .ref xa), (1, .int p0), (2, .int p1), (3, .ref oa)] := hl
  refine lv_aload_n hx hb dL_cut_0 rfl (lv_at hl 3 rfl) ?_
  refine lv_iconst (v := (0 : Int32)) hx hb dL_cut_1 (by decide) ?_
  refine lv_aload_n hx hb dL_cut_2 rfl (lv_at hl 0 rfl) ?_
  refine lv_iload_n hx hb dL_cut_3 rfl (lv_at hl 1 rfl) ?_
  refine lv_iload_n hx hb dL_cut_4 rfl (lv_at hl 2 rfl) ?_
  refine g_callXi (n9 := 2) (As := [.int p0, .int p1]) (rest := [.int 0, .ref oa]) hx hb hml hl.1 hown hts hK hX hM hC wm_L_38 wi_X6_cut wl_X6_cut wn_X6 wc_X6_cut (by decide +kernel) (hM.recv hK (ci := 7) rfl hxa) ⟨Nat.le_refl _, Nat.le_refl _⟩ ⟨by show 0 + mc ≤ mc; omega, by show 0 + ms ≤ ms; omega⟩ rfl (Nat.le_of_ble_eq_true rfl) rfl dL_cut_5 (fun E0 ce q9 H1 locs1 hE hM1 hce hv hcl => ?_) (fun r M1 H locs hq hM => ?_)
  · rcases hE with ⟨rfl, rfl⟩ | ⟨rfl, rfl⟩ | ⟨rfl, rfl⟩
    · refine vx_catch (own := RL) (name := exI) (E := exI) hown [] ⟨0, 10, 13, 13⟩ [] (by rw [ht]; rfl) (fun z hz => absurd hz List.not_mem_nil) (by decide) (by decide) (hts _ wk_L_13) (va_Nw.use rfl (hX.2.2.2.2 exI (by decide))) hce hv hcl ?_
      refine lv_astore (lv' := [(4, .ref q9), (0, .ref xa), (1, .int p0), (2, .int p1), (3, .ref oa)]) hx hb dL_cut_13 hl (by decide) rfl (fun ls hl => ?_)
      refine lv_iconst (v := (1 : Int32)) hx hb dL_cut_15 (by decide) ?_
      exact vx_ret (g_iret hx hb hr hlocks hM1 (by show 0 + mc ≤ mc; omega) (by show 0 + ms ≤ ms; omega) ⟨rfl, Or.inr ⟨by decide, rfl⟩⟩ dL_cut_16)
    · exact absurd hk (by decide)
    · exact absurd hk (by decide)
  · obtain ⟨hk0, f0, ho⟩ := hP _ _ hq
    refine lv_i2l (v := r.toInt64) hx hb dL_cut_8 rfl ?_
    refine g_last hx hb hK hM ho (i := (0 : Int32)) (vp_ix ⟨by decide, by decide⟩) dL_cut_9 (fun H locs hM => ?_)
    refine lv_goto (tgt := 17) hx hb dL_cut_10 (by decide) ?_
    refine lv_iconst (v := (0 : Int32)) hx hb dL_cut_17 (by decide) ?_
    exact vx_ret (g_iret hx hb hr hlocks hM (by show 0 + mc ≤ mc; omega) (by show 0 + ms ≤ ms; omega) ⟨by rw [hk0]; rfl, Or.inl ⟨hk0, r, M1, _, hq, rfl, rfl⟩⟩ dL_cut_18)
set_option maxHeartbeats 4000000 in
set_option maxRecDepth 100000 in
theorem w_fetch (l : Launch) (G : GG) (M : HM) (xa rx oa ro k fr lo mc ms : Nat) (fs : List Value) (p0 p1 : Int32) (P : Int32 → HM → Prop) (hC : Xi l yX6_fetch (.code yX6_fetch cX6_fetch 5 (some .int) :: AL) fr lo mc ms [.ref xa, .int p0, .int p1] G M P (EX k)) (hxa : M xa = some (rx, .inr (7, fs))) (hk : k = 0 ∨ k = 1) (hP : ∀ v M1, P v M1 → k = 0 ∧ ∃ f, M1 oa = some (ro, loE G f)) : Wi l yL_fetch (.codeWith yL_fetch cL_fetch 5 (some .int) [(0, 10, 13, 13)] :: AL) (fr + 1) (8 + (5 + 11) + lo) mc ms [.ref xa, .int p0, .int p1, .ref oa] G M (WQ G M oa ro k (pcd 1 0 0) P) := by
  refine Wi.go (by decide) (Nat.le_of_ble_eq_true rfl) ?_
  intro p e s m below meth c ls hx hb hr hml hown hlocks ht hts hY hK hX hM hl
  have hown : s.vm.findClass RL = some m.cls := hown
  have hl : lv_has ls 5 [(0, .ref xa), (1, .int p0), (2, .int p1), (3, .ref oa)] := hl
  refine lv_aload_n hx hb dL_fetch_0 rfl (lv_at hl 3 rfl) ?_
  refine lv_iconst (v := (0 : Int32)) hx hb dL_fetch_1 (by decide) ?_
  refine lv_aload_n hx hb dL_fetch_2 rfl (lv_at hl 0 rfl) ?_
  refine lv_iload_n hx hb dL_fetch_3 rfl (lv_at hl 1 rfl) ?_
  refine lv_iload_n hx hb dL_fetch_4 rfl (lv_at hl 2 rfl) ?_
  refine g_callXi (n9 := 2) (As := [.int p0, .int p1]) (rest := [.int 0, .ref oa]) hx hb hml hl.1 hown hts hK hX hM hC wm_L_41 wi_X6_fetch wl_X6_fetch wn_X6 wc_X6_fetch (by decide +kernel) (hM.recv hK (ci := 7) rfl hxa) ⟨Nat.le_refl _, Nat.le_refl _⟩ ⟨by show 0 + mc ≤ mc; omega, by show 0 + ms ≤ ms; omega⟩ rfl (Nat.le_of_ble_eq_true rfl) rfl dL_fetch_5 (fun E0 ce q9 H1 locs1 hE hM1 hce hv hcl => ?_) (fun r M1 H locs hq hM => ?_)
  · rcases hE with ⟨rfl, rfl⟩ | ⟨rfl, rfl⟩ | ⟨rfl, rfl⟩
    · refine vx_catch (own := RL) (name := exI) (E := exI) hown [] ⟨0, 10, 13, 13⟩ [] (by rw [ht]; rfl) (fun z hz => absurd hz List.not_mem_nil) (by decide) (by decide) (hts _ wk_L_13) (va_Nw.use rfl (hX.2.2.2.2 exI (by decide))) hce hv hcl ?_
      refine lv_astore (lv' := [(4, .ref q9), (0, .ref xa), (1, .int p0), (2, .int p1), (3, .ref oa)]) hx hb dL_fetch_13 hl (by decide) rfl (fun ls hl => ?_)
      refine lv_iconst (v := (1 : Int32)) hx hb dL_fetch_15 (by decide) ?_
      exact vx_ret (g_iret hx hb hr hlocks hM1 (by show 0 + mc ≤ mc; omega) (by show 0 + ms ≤ ms; omega) ⟨rfl, Or.inr ⟨by decide, rfl⟩⟩ dL_fetch_16)
    · exact absurd hk (by decide)
    · exact absurd hk (by decide)
  · obtain ⟨hk0, f0, ho⟩ := hP _ _ hq
    refine lv_i2l (v := r.toInt64) hx hb dL_fetch_8 rfl ?_
    refine g_last hx hb hK hM ho (i := (0 : Int32)) (vp_ix ⟨by decide, by decide⟩) dL_fetch_9 (fun H locs hM => ?_)
    refine lv_goto (tgt := 17) hx hb dL_fetch_10 (by decide) ?_
    refine lv_iconst (v := (0 : Int32)) hx hb dL_fetch_17 (by decide) ?_
    exact vx_ret (g_iret hx hb hr hlocks hM (by show 0 + mc ≤ mc; omega) (by show 0 + ms ≤ ms; omega) ⟨by rw [hk0]; rfl, Or.inl ⟨hk0, r, M1, _, hq, rfl, rfl⟩⟩ dL_fetch_18)
set_option maxHeartbeats 4000000 in
set_option maxRecDepth 100000 in
theorem w_haul (l : Launch) (G : GG) (M : HM) (xa rx oa ro k fr lo mc ms : Nat) (fs : List Value) (p0 p1 : Int32) (P : Int32 → HM → Prop) (hC : Xi l yX6_haul (.code yX6_haul cX6_haul 5 (some .int) :: AL) fr lo mc ms [.ref xa, .int p0, .int p1] G M P (EX k)) (hxa : M xa = some (rx, .inr (7, fs))) (hk : k = 0 ∨ k = 1) (hP : ∀ v M1, P v M1 → k = 0 ∧ ∃ f, M1 oa = some (ro, loE G f)) : Wi l yL_haul (.codeWith yL_haul cL_haul 5 (some .int) [(0, 10, 13, 13)] :: AL) (fr + 1) (8 + (5 + 11) + lo) mc ms [.ref xa, .int p0, .int p1, .ref oa] G M (WQ G M oa ro k (pcd 1 0 0) P) := by
  refine Wi.go (by decide) (Nat.le_of_ble_eq_true rfl) ?_
  intro p e s m below meth c ls hx hb hr hml hown hlocks ht hts hY hK hX hM hl
  have hown : s.vm.findClass RL = some m.cls := hown
  have hl : lv_has ls 5 [(0, .ref xa), (1, .int p0), (2, .int p1), (3, .ref oa)] := hl
  refine lv_aload_n hx hb dL_haul_0 rfl (lv_at hl 3 rfl) ?_
  refine lv_iconst (v := (0 : Int32)) hx hb dL_haul_1 (by decide) ?_
  refine lv_aload_n hx hb dL_haul_2 rfl (lv_at hl 0 rfl) ?_
  refine lv_iload_n hx hb dL_haul_3 rfl (lv_at hl 1 rfl) ?_
  refine lv_iload_n hx hb dL_haul_4 rfl (lv_at hl 2 rfl) ?_
  refine g_callXi (n9 := 2) (As := [.int p0, .int p1]) (rest := [.int 0, .ref oa]) hx hb hml hl.1 hown hts hK hX hM hC wm_L_44 wi_X6_haul wl_X6_haul wn_X6 wc_X6_haul (by decide +kernel) (hM.recv hK (ci := 7) rfl hxa) ⟨Nat.le_refl _, Nat.le_refl _⟩ ⟨by show 0 + mc ≤ mc; omega, by show 0 + ms ≤ ms; omega⟩ rfl (Nat.le_of_ble_eq_true rfl) rfl dL_haul_5 (fun E0 ce q9 H1 locs1 hE hM1 hce hv hcl => ?_) (fun r M1 H locs hq hM => ?_)
  · rcases hE with ⟨rfl, rfl⟩ | ⟨rfl, rfl⟩ | ⟨rfl, rfl⟩
    · refine vx_catch (own := RL) (name := exI) (E := exI) hown [] ⟨0, 10, 13, 13⟩ [] (by rw [ht]; rfl) (fun z hz => absurd hz List.not_mem_nil) (by decide) (by decide) (hts _ wk_L_13) (va_Nw.use rfl (hX.2.2.2.2 exI (by decide))) hce hv hcl ?_
      refine lv_astore (lv' := [(4, .ref q9), (0, .ref xa), (1, .int p0), (2, .int p1), (3, .ref oa)]) hx hb dL_haul_13 hl (by decide) rfl (fun ls hl => ?_)
      refine lv_iconst (v := (1 : Int32)) hx hb dL_haul_15 (by decide) ?_
      exact vx_ret (g_iret hx hb hr hlocks hM1 (by show 0 + mc ≤ mc; omega) (by show 0 + ms ≤ ms; omega) ⟨rfl, Or.inr ⟨by decide, rfl⟩⟩ dL_haul_16)
    · exact absurd hk (by decide)
    · exact absurd hk (by decide)
  · obtain ⟨hk0, f0, ho⟩ := hP _ _ hq
    refine lv_i2l (v := r.toInt64) hx hb dL_haul_8 rfl ?_
    refine g_last hx hb hK hM ho (i := (0 : Int32)) (vp_ix ⟨by decide, by decide⟩) dL_haul_9 (fun H locs hM => ?_)
    refine lv_goto (tgt := 17) hx hb dL_haul_10 (by decide) ?_
    refine lv_iconst (v := (0 : Int32)) hx hb dL_haul_17 (by decide) ?_
    exact vx_ret (g_iret hx hb hr hlocks hM (by show 0 + mc ≤ mc; omega) (by show 0 + ms ≤ ms; omega) ⟨by rw [hk0]; rfl, Or.inl ⟨hk0, r, M1, _, hq, rfl, rfl⟩⟩ dL_haul_18)
set_option maxHeartbeats 4000000 in
set_option maxRecDepth 100000 in
theorem w_stop (l : Launch) (G : GG) (M : HM) (xa rx oa ro k fr lo mc ms : Nat) (fs : List Value) (p0 : Int32) (P : Int32 → HM → Prop) (hC : Xi l yX6_stop (.code yX6_stop cX6_stop 3 (some .int) :: AL) fr lo mc ms [.ref xa, .int p0] G M P (EX k)) (hxa : M xa = some (rx, .inr (7, fs))) (hk : k = 0 ∨ k = 1) (hP : ∀ v M1, P v M1 → k = 0 ∧ ∃ f, M1 oa = some (ro, loE G f)) : Wi l yL_stop (.codeWith yL_stop cL_stop 4 (some .int) [(0, 9, 12, 13)] :: AL) (fr + 1) (8 + (3 + 11) + lo) mc ms [.ref xa, .int p0, .ref oa] G M (WQ G M oa ro k (pcd 1 0 0) P) := by
  refine Wi.go (by decide) (Nat.le_of_ble_eq_true rfl) ?_
  intro p e s m below meth c ls hx hb hr hml hown hlocks ht hts hY hK hX hM hl
  have hown : s.vm.findClass RL = some m.cls := hown
  have hl : lv_has ls 4 [(0, .ref xa), (1, .int p0), (2, .ref oa)] := hl
  refine lv_aload_n hx hb dL_stop_0 rfl (lv_at hl 2 rfl) ?_
  refine lv_iconst (v := (0 : Int32)) hx hb dL_stop_1 (by decide) ?_
  refine lv_aload_n hx hb dL_stop_2 rfl (lv_at hl 0 rfl) ?_
  refine lv_iload_n hx hb dL_stop_3 rfl (lv_at hl 1 rfl) ?_
  refine g_callXi (n9 := 1) (As := [.int p0]) (rest := [.int 0, .ref oa]) hx hb hml hl.1 hown hts hK hX hM hC wm_L_47 wi_X6_stop wl_X6_stop wn_X6 wc_X6_stop (by decide +kernel) (hM.recv hK (ci := 7) rfl hxa) ⟨Nat.le_refl _, Nat.le_refl _⟩ ⟨by show 0 + mc ≤ mc; omega, by show 0 + ms ≤ ms; omega⟩ rfl (Nat.le_of_ble_eq_true rfl) rfl dL_stop_4 (fun E0 ce q9 H1 locs1 hE hM1 hce hv hcl => ?_) (fun r M1 H locs hq hM => ?_)
  · rcases hE with ⟨rfl, rfl⟩ | ⟨rfl, rfl⟩ | ⟨rfl, rfl⟩
    · refine vx_catch (own := RL) (name := exI) (E := exI) hown [] ⟨0, 9, 12, 13⟩ [] (by rw [ht]; rfl) (fun z hz => absurd hz List.not_mem_nil) (by decide) (by decide) (hts _ wk_L_13) (va_Nw.use rfl (hX.2.2.2.2 exI (by decide))) hce hv hcl ?_
      refine lv_astore_n (lv' := [(3, .ref q9), (0, .ref xa), (1, .int p0), (2, .ref oa)]) hx hb dL_stop_12 rfl hl (by decide) rfl (fun ls hl => ?_)
      refine lv_iconst (v := (1 : Int32)) hx hb dL_stop_13 (by decide) ?_
      exact vx_ret (g_iret hx hb hr hlocks hM1 (by show 0 + mc ≤ mc; omega) (by show 0 + ms ≤ ms; omega) ⟨rfl, Or.inr ⟨by decide, rfl⟩⟩ dL_stop_14)
    · exact absurd hk (by decide)
    · exact absurd hk (by decide)
  · obtain ⟨hk0, f0, ho⟩ := hP _ _ hq
    refine lv_i2l (v := r.toInt64) hx hb dL_stop_7 rfl ?_
    refine g_last hx hb hK hM ho (i := (0 : Int32)) (vp_ix ⟨by decide, by decide⟩) dL_stop_8 (fun H locs hM => ?_)
    refine lv_goto (tgt := 15) hx hb dL_stop_9 (by decide) ?_
    refine lv_iconst (v := (0 : Int32)) hx hb dL_stop_15 (by decide) ?_
    exact vx_ret (g_iret hx hb hr hlocks hM (by show 0 + mc ≤ mc; omega) (by show 0 + ms ≤ ms; omega) ⟨by rw [hk0]; rfl, Or.inl ⟨hk0, r, M1, _, hq, rfl, rfl⟩⟩ dL_stop_16)
set_option maxHeartbeats 4000000 in
set_option maxRecDepth 100000 in
theorem w_mend (l : Launch) (G : GG) (M : HM) (xa rx oa ro k fr lo mc ms : Nat) (fs : List Value) (p0 : Int32) (P : Int32 → HM → Prop) (hC : Xi l yX6_mend (.code yX6_mend cX6_mend 4 (some .int) :: AL) fr lo mc ms [.ref xa, .int p0] G M P (EX k)) (hxa : M xa = some (rx, .inr (7, fs))) (hk : k = 0 ∨ k = 1 ∨ k = 3) (hP : ∀ v M1, P v M1 → k = 0 ∧ ∃ f, M1 oa = some (ro, loE G f)) : Wi l yL_mend (.codeWith yL_mend cL_mend 4 (some .int) [(0, 9, 12, 13), (0, 9, 15, 17)] :: AL) (fr + 1) (8 + (4 + 11) + lo) mc ms [.ref xa, .int p0, .ref oa] G M (WQ G M oa ro k (pcd 1 0 2) P) := by
  refine Wi.go (by decide) (Nat.le_of_ble_eq_true rfl) ?_
  intro p e s m below meth c ls hx hb hr hml hown hlocks ht hts hY hK hX hM hl
  have hown : s.vm.findClass RL = some m.cls := hown
  have hl : lv_has ls 4 [(0, .ref xa), (1, .int p0), (2, .ref oa)] := hl
  refine lv_aload_n hx hb dL_mend_0 rfl (lv_at hl 2 rfl) ?_
  refine lv_iconst (v := (0 : Int32)) hx hb dL_mend_1 (by decide) ?_
  refine lv_aload_n hx hb dL_mend_2 rfl (lv_at hl 0 rfl) ?_
  refine lv_iload_n hx hb dL_mend_3 rfl (lv_at hl 1 rfl) ?_
  refine g_callXi (n9 := 1) (As := [.int p0]) (rest := [.int 0, .ref oa]) hx hb hml hl.1 hown hts hK hX hM hC wm_L_50 wi_X6_mend wl_X6_mend wn_X6 wc_X6_mend (by decide +kernel) (hM.recv hK (ci := 7) rfl hxa) ⟨Nat.le_refl _, Nat.le_refl _⟩ ⟨by show 0 + mc ≤ mc; omega, by show 0 + ms ≤ ms; omega⟩ rfl (Nat.le_of_ble_eq_true rfl) rfl dL_mend_4 (fun E0 ce q9 H1 locs1 hE hM1 hce hv hcl => ?_) (fun r M1 H locs hq hM => ?_)
  · rcases hE with ⟨rfl, rfl⟩ | ⟨rfl, rfl⟩ | ⟨rfl, rfl⟩
    · refine vx_catch (own := RL) (name := exI) (E := exI) hown [] ⟨0, 9, 12, 13⟩ [⟨0, 9, 15, 17⟩] (by rw [ht]; rfl) (fun z hz => absurd hz List.not_mem_nil) (by decide) (by decide) (hts _ wk_L_13) (va_Nw.use rfl (hX.2.2.2.2 exI (by decide))) hce hv hcl ?_
      refine lv_astore_n (lv' := [(3, .ref q9), (0, .ref xa), (1, .int p0), (2, .ref oa)]) hx hb dL_mend_12 rfl hl (by decide) rfl (fun ls hl => ?_)
      refine lv_iconst (v := (1 : Int32)) hx hb dL_mend_13 (by decide) ?_
      exact vx_ret (g_iret hx hb hr hlocks hM1 (by show 0 + mc ≤ mc; omega) (by show 0 + ms ≤ ms; omega) ⟨rfl, Or.inr ⟨by decide, rfl⟩⟩ dL_mend_14)
    · exact absurd hk (by decide)
    · refine vx_catch (own := RL) (name := exS) (E := exS) hown [⟨0, 9, 12, 13⟩] ⟨0, 9, 15, 17⟩ [] (by rw [ht]; rfl) (fun z hz => by
          simp only [List.mem_cons, List.not_mem_nil, or_false] at hz
          subst hz
          exact Or.inr ⟨by decide, exI, hts _ wk_L_13, hY.2.1⟩) (by decide) (by decide) (hts _ wk_L_17) (va_Nw.use rfl (hX.2.2.2.2 exS (by decide))) hce hv hcl ?_
      refine lv_astore_n (lv' := [(3, .ref q9), (0, .ref xa), (1, .int p0), (2, .ref oa)]) hx hb dL_mend_15 rfl hl (by decide) rfl (fun ls hl => ?_)
      refine lv_iconst (v := (2 : Int32)) hx hb dL_mend_16 (by decide) ?_
      exact vx_ret (g_iret hx hb hr hlocks hM1 (by show 0 + mc ≤ mc; omega) (by show 0 + ms ≤ ms; omega) ⟨rfl, Or.inr ⟨by decide, rfl⟩⟩ dL_mend_17)
  · obtain ⟨hk0, f0, ho⟩ := hP _ _ hq
    refine lv_i2l (v := r.toInt64) hx hb dL_mend_7 rfl ?_
    refine g_last hx hb hK hM ho (i := (0 : Int32)) (vp_ix ⟨by decide, by decide⟩) dL_mend_8 (fun H locs hM => ?_)
    refine lv_goto (tgt := 18) hx hb dL_mend_9 (by decide) ?_
    refine lv_iconst (v := (0 : Int32)) hx hb dL_mend_18 (by decide) ?_
    exact vx_ret (g_iret hx hb hr hlocks hM (by show 0 + mc ≤ mc; omega) (by show 0 + ms ≤ ms; omega) ⟨by rw [hk0]; rfl, Or.inl ⟨hk0, r, M1, _, hq, rfl, rfl⟩⟩ dL_mend_19)
set_option maxHeartbeats 4000000 in
set_option maxRecDepth 100000 in
theorem w_train (l : Launch) (G : GG) (M : HM) (xa rx oa ro k fr lo mc ms : Nat) (fs : List Value) (p0 p1 : Int32) (P : Int32 → HM → Prop) (hC : Xi l yX6_train (.code yX6_train cX6_train 4 (some .int) :: AL) fr lo mc ms [.ref xa, .int p0, .int p1] G M P (EX k)) (hxa : M xa = some (rx, .inr (7, fs))) (hk : k = 0 ∨ k = 1 ∨ k = 2) (hP : ∀ v M1, P v M1 → k = 0 ∧ ∃ f, M1 oa = some (ro, loE G f)) : Wi l yL_train (.codeWith yL_train cL_train 5 (some .int) [(0, 10, 13, 13), (0, 10, 17, 15)] :: AL) (fr + 1) (8 + (4 + 11) + lo) mc ms [.ref xa, .int p0, .int p1, .ref oa] G M (WQ G M oa ro k (pcd 1 2 0) P) := by
  refine Wi.go (by decide) (Nat.le_of_ble_eq_true rfl) ?_
  intro p e s m below meth c ls hx hb hr hml hown hlocks ht hts hY hK hX hM hl
  have hown : s.vm.findClass RL = some m.cls := hown
  have hl : lv_has ls 5 [(0, .ref xa), (1, .int p0), (2, .int p1), (3, .ref oa)] := hl
  refine lv_aload_n hx hb dL_train_0 rfl (lv_at hl 3 rfl) ?_
  refine lv_iconst (v := (0 : Int32)) hx hb dL_train_1 (by decide) ?_
  refine lv_aload_n hx hb dL_train_2 rfl (lv_at hl 0 rfl) ?_
  refine lv_iload_n hx hb dL_train_3 rfl (lv_at hl 1 rfl) ?_
  refine lv_iload_n hx hb dL_train_4 rfl (lv_at hl 2 rfl) ?_
  refine g_callXi (n9 := 2) (As := [.int p0, .int p1]) (rest := [.int 0, .ref oa]) hx hb hml hl.1 hown hts hK hX hM hC wm_L_53 wi_X6_train wl_X6_train wn_X6 wc_X6_train (by decide +kernel) (hM.recv hK (ci := 7) rfl hxa) ⟨Nat.le_refl _, Nat.le_refl _⟩ ⟨by show 0 + mc ≤ mc; omega, by show 0 + ms ≤ ms; omega⟩ rfl (Nat.le_of_ble_eq_true rfl) rfl dL_train_5 (fun E0 ce q9 H1 locs1 hE hM1 hce hv hcl => ?_) (fun r M1 H locs hq hM => ?_)
  · rcases hE with ⟨rfl, rfl⟩ | ⟨rfl, rfl⟩ | ⟨rfl, rfl⟩
    · refine vx_catch (own := RL) (name := exI) (E := exI) hown [] ⟨0, 10, 13, 13⟩ [⟨0, 10, 17, 15⟩] (by rw [ht]; rfl) (fun z hz => absurd hz List.not_mem_nil) (by decide) (by decide) (hts _ wk_L_13) (va_Nw.use rfl (hX.2.2.2.2 exI (by decide))) hce hv hcl ?_
      refine lv_astore (lv' := [(4, .ref q9), (0, .ref xa), (1, .int p0), (2, .int p1), (3, .ref oa)]) hx hb dL_train_13 hl (by decide) rfl (fun ls hl => ?_)
      refine lv_iconst (v := (1 : Int32)) hx hb dL_train_15 (by decide) ?_
      exact vx_ret (g_iret hx hb hr hlocks hM1 (by show 0 + mc ≤ mc; omega) (by show 0 + ms ≤ ms; omega) ⟨rfl, Or.inr ⟨by decide, rfl⟩⟩ dL_train_16)
    · refine vx_catch (own := RL) (name := exA) (E := exA) hown [⟨0, 10, 13, 13⟩] ⟨0, 10, 17, 15⟩ [] (by rw [ht]; rfl) (fun z hz => by
          simp only [List.mem_cons, List.not_mem_nil, or_false] at hz
          subst hz
          exact Or.inr ⟨by decide, exI, hts _ wk_L_13, hY.1⟩) (by decide) (by decide) (hts _ wk_L_15) (va_Nw.use rfl (hX.2.2.2.2 exA (by decide))) hce hv hcl ?_
      refine lv_astore (lv' := [(4, .ref q9), (0, .ref xa), (1, .int p0), (2, .int p1), (3, .ref oa)]) hx hb dL_train_17 hl (by decide) rfl (fun ls hl => ?_)
      refine lv_iconst (v := (2 : Int32)) hx hb dL_train_19 (by decide) ?_
      exact vx_ret (g_iret hx hb hr hlocks hM1 (by show 0 + mc ≤ mc; omega) (by show 0 + ms ≤ ms; omega) ⟨rfl, Or.inr ⟨by decide, rfl⟩⟩ dL_train_20)
    · exact absurd hk (by decide)
  · obtain ⟨hk0, f0, ho⟩ := hP _ _ hq
    refine lv_i2l (v := r.toInt64) hx hb dL_train_8 rfl ?_
    refine g_last hx hb hK hM ho (i := (0 : Int32)) (vp_ix ⟨by decide, by decide⟩) dL_train_9 (fun H locs hM => ?_)
    refine lv_goto (tgt := 21) hx hb dL_train_10 (by decide) ?_
    refine lv_iconst (v := (0 : Int32)) hx hb dL_train_21 (by decide) ?_
    exact vx_ret (g_iret hx hb hr hlocks hM (by show 0 + mc ≤ mc; omega) (by show 0 + ms ≤ ms; omega) ⟨by rw [hk0]; rfl, Or.inl ⟨hk0, r, M1, _, hq, rfl, rfl⟩⟩ dL_train_22)
set_option maxHeartbeats 4000000 in
set_option maxRecDepth 100000 in
theorem w_pass (l : Launch) (G : GG) (M : HM) (xa rx oa ro k fr lo mc ms : Nat) (fs : List Value) (p0 p1 p2 p3 : Int32) (P : Int32 → HM → Prop) (hC : Xi l yX6_pass (.code yX6_pass cX6_pass 7 (some .int) :: AL) fr lo mc ms [.ref xa, .int p0, .int p1, .int p2, .int p3] G M P (EX k)) (hxa : M xa = some (rx, .inr (7, fs))) (hk : k = 0 ∨ k = 2 ∨ k = 3) (hP : ∀ v M1, P v M1 → k = 0 ∧ ∃ f, M1 oa = some (ro, loE G f)) : Wi l yL_pass (.codeWith yL_pass cL_pass 7 (some .int) [(0, 14, 17, 15), (0, 14, 21, 17)] :: AL) (fr + 1) (8 + (7 + 11) + lo) mc ms [.ref xa, .int p0, .int p1, .int p2, .int p3, .ref oa] G M (WQ G M oa ro k (pcd 0 1 2) P) := by
  refine Wi.go (by decide) (Nat.le_of_ble_eq_true rfl) ?_
  intro p e s m below meth c ls hx hb hr hml hown hlocks ht hts hY hK hX hM hl
  have hown : s.vm.findClass RL = some m.cls := hown
  have hl : lv_has ls 7 [(0, .ref xa), (1, .int p0), (2, .int p1), (3, .int p2), (4, .int p3), (5, .ref oa)] := hl
  refine lv_aload hx hb dL_pass_0 (lv_at hl 5 rfl) ?_
  refine lv_iconst (v := (0 : Int32)) hx hb dL_pass_2 (by decide) ?_
  refine lv_aload_n hx hb dL_pass_3 rfl (lv_at hl 0 rfl) ?_
  refine lv_iload_n hx hb dL_pass_4 rfl (lv_at hl 1 rfl) ?_
  refine lv_iload_n hx hb dL_pass_5 rfl (lv_at hl 2 rfl) ?_
  refine lv_iload_n hx hb dL_pass_6 rfl (lv_at hl 3 rfl) ?_
  refine lv_iload hx hb dL_pass_7 (lv_at hl 4 rfl) ?_
  refine g_callXi (n9 := 4) (As := [.int p0, .int p1, .int p2, .int p3]) (rest := [.int 0, .ref oa]) hx hb hml hl.1 hown hts hK hX hM hC wm_L_56 wi_X6_pass wl_X6_pass wn_X6 wc_X6_pass (by decide +kernel) (hM.recv hK (ci := 7) rfl hxa) ⟨Nat.le_refl _, Nat.le_refl _⟩ ⟨by show 0 + mc ≤ mc; omega, by show 0 + ms ≤ ms; omega⟩ rfl (Nat.le_of_ble_eq_true rfl) rfl dL_pass_9 (fun E0 ce q9 H1 locs1 hE hM1 hce hv hcl => ?_) (fun r M1 H locs hq hM => ?_)
  · rcases hE with ⟨rfl, rfl⟩ | ⟨rfl, rfl⟩ | ⟨rfl, rfl⟩
    · exact absurd hk (by decide)
    · refine vx_catch (own := RL) (name := exA) (E := exA) hown [] ⟨0, 14, 17, 15⟩ [⟨0, 14, 21, 17⟩] (by rw [ht]; rfl) (fun z hz => absurd hz List.not_mem_nil) (by decide) (by decide) (hts _ wk_L_15) (va_Nw.use rfl (hX.2.2.2.2 exA (by decide))) hce hv hcl ?_
      refine lv_astore (lv' := [(6, .ref q9), (0, .ref xa), (1, .int p0), (2, .int p1), (3, .int p2), (4, .int p3), (5, .ref oa)]) hx hb dL_pass_17 hl (by decide) rfl (fun ls hl => ?_)
      refine lv_iconst (v := (1 : Int32)) hx hb dL_pass_19 (by decide) ?_
      exact vx_ret (g_iret hx hb hr hlocks hM1 (by show 0 + mc ≤ mc; omega) (by show 0 + ms ≤ ms; omega) ⟨rfl, Or.inr ⟨by decide, rfl⟩⟩ dL_pass_20)
    · refine vx_catch (own := RL) (name := exS) (E := exS) hown [⟨0, 14, 17, 15⟩] ⟨0, 14, 21, 17⟩ [] (by rw [ht]; rfl) (fun z hz => by
          simp only [List.mem_cons, List.not_mem_nil, or_false] at hz
          subst hz
          exact Or.inr ⟨by decide, exA, hts _ wk_L_15, hY.2.2⟩) (by decide) (by decide) (hts _ wk_L_17) (va_Nw.use rfl (hX.2.2.2.2 exS (by decide))) hce hv hcl ?_
      refine lv_astore (lv' := [(6, .ref q9), (0, .ref xa), (1, .int p0), (2, .int p1), (3, .int p2), (4, .int p3), (5, .ref oa)]) hx hb dL_pass_21 hl (by decide) rfl (fun ls hl => ?_)
      refine lv_iconst (v := (2 : Int32)) hx hb dL_pass_23 (by decide) ?_
      exact vx_ret (g_iret hx hb hr hlocks hM1 (by show 0 + mc ≤ mc; omega) (by show 0 + ms ≤ ms; omega) ⟨rfl, Or.inr ⟨by decide, rfl⟩⟩ dL_pass_24)
  · obtain ⟨hk0, f0, ho⟩ := hP _ _ hq
    refine lv_i2l (v := r.toInt64) hx hb dL_pass_12 rfl ?_
    refine g_last hx hb hK hM ho (i := (0 : Int32)) (vp_ix ⟨by decide, by decide⟩) dL_pass_13 (fun H locs hM => ?_)
    refine lv_goto (tgt := 25) hx hb dL_pass_14 (by decide) ?_
    refine lv_iconst (v := (0 : Int32)) hx hb dL_pass_25 (by decide) ?_
    exact vx_ret (g_iret hx hb hr hlocks hM (by show 0 + mc ≤ mc; omega) (by show 0 + ms ≤ ms; omega) ⟨by rw [hk0]; rfl, Or.inl ⟨hk0, r, M1, _, hq, rfl, rfl⟩⟩ dL_pass_26)
set_option maxHeartbeats 4000000 in
set_option maxRecDepth 100000 in
theorem w_ofField (l : Launch) (G : GG) (M : HM) (xa rx oa ro k fr lo mc ms : Nat) (fs : List Value) (p0 p1 : Int32) (P : Int32 → HM → Prop) (hC : Xi l yX6_ofField (.code yX6_ofField cX6_ofField 4 (some .int) :: AL) fr lo mc ms [.ref xa, .int p0, .int p1] G M P (EX k)) (hxa : M xa = some (rx, .inr (7, fs))) (hk : k = 0 ∨ k = 1 ∨ k = 2) (hP : ∀ v M1, P v M1 → k = 0 ∧ ∃ f, M1 oa = some (ro, loE G f)) : Wi l yL_ofField (.codeWith yL_ofField cL_ofField 5 (some .int) [(0, 10, 13, 13), (0, 10, 17, 15)] :: AL) (fr + 1) (8 + (4 + 11) + lo) mc ms [.ref xa, .int p0, .int p1, .ref oa] G M (WQ G M oa ro k (pcd 1 2 0) P) := by
  refine Wi.go (by decide) (Nat.le_of_ble_eq_true rfl) ?_
  intro p e s m below meth c ls hx hb hr hml hown hlocks ht hts hY hK hX hM hl
  have hown : s.vm.findClass RL = some m.cls := hown
  have hl : lv_has ls 5 [(0, .ref xa), (1, .int p0), (2, .int p1), (3, .ref oa)] := hl
  refine lv_aload_n hx hb dL_ofField_0 rfl (lv_at hl 3 rfl) ?_
  refine lv_iconst (v := (0 : Int32)) hx hb dL_ofField_1 (by decide) ?_
  refine lv_aload_n hx hb dL_ofField_2 rfl (lv_at hl 0 rfl) ?_
  refine lv_iload_n hx hb dL_ofField_3 rfl (lv_at hl 1 rfl) ?_
  refine lv_iload_n hx hb dL_ofField_4 rfl (lv_at hl 2 rfl) ?_
  refine g_callXi (n9 := 2) (As := [.int p0, .int p1]) (rest := [.int 0, .ref oa]) hx hb hml hl.1 hown hts hK hX hM hC wm_L_60 wi_X6_ofField wl_X6_ofField wn_X6 wc_X6_ofField (by decide +kernel) (hM.recv hK (ci := 7) rfl hxa) ⟨Nat.le_refl _, Nat.le_refl _⟩ ⟨by show 0 + mc ≤ mc; omega, by show 0 + ms ≤ ms; omega⟩ rfl (Nat.le_of_ble_eq_true rfl) rfl dL_ofField_5 (fun E0 ce q9 H1 locs1 hE hM1 hce hv hcl => ?_) (fun r M1 H locs hq hM => ?_)
  · rcases hE with ⟨rfl, rfl⟩ | ⟨rfl, rfl⟩ | ⟨rfl, rfl⟩
    · refine vx_catch (own := RL) (name := exI) (E := exI) hown [] ⟨0, 10, 13, 13⟩ [⟨0, 10, 17, 15⟩] (by rw [ht]; rfl) (fun z hz => absurd hz List.not_mem_nil) (by decide) (by decide) (hts _ wk_L_13) (va_Nw.use rfl (hX.2.2.2.2 exI (by decide))) hce hv hcl ?_
      refine lv_astore (lv' := [(4, .ref q9), (0, .ref xa), (1, .int p0), (2, .int p1), (3, .ref oa)]) hx hb dL_ofField_13 hl (by decide) rfl (fun ls hl => ?_)
      refine lv_iconst (v := (1 : Int32)) hx hb dL_ofField_15 (by decide) ?_
      exact vx_ret (g_iret hx hb hr hlocks hM1 (by show 0 + mc ≤ mc; omega) (by show 0 + ms ≤ ms; omega) ⟨rfl, Or.inr ⟨by decide, rfl⟩⟩ dL_ofField_16)
    · refine vx_catch (own := RL) (name := exA) (E := exA) hown [⟨0, 10, 13, 13⟩] ⟨0, 10, 17, 15⟩ [] (by rw [ht]; rfl) (fun z hz => by
          simp only [List.mem_cons, List.not_mem_nil, or_false] at hz
          subst hz
          exact Or.inr ⟨by decide, exI, hts _ wk_L_13, hY.1⟩) (by decide) (by decide) (hts _ wk_L_15) (va_Nw.use rfl (hX.2.2.2.2 exA (by decide))) hce hv hcl ?_
      refine lv_astore (lv' := [(4, .ref q9), (0, .ref xa), (1, .int p0), (2, .int p1), (3, .ref oa)]) hx hb dL_ofField_17 hl (by decide) rfl (fun ls hl => ?_)
      refine lv_iconst (v := (2 : Int32)) hx hb dL_ofField_19 (by decide) ?_
      exact vx_ret (g_iret hx hb hr hlocks hM1 (by show 0 + mc ≤ mc; omega) (by show 0 + ms ≤ ms; omega) ⟨rfl, Or.inr ⟨by decide, rfl⟩⟩ dL_ofField_20)
    · exact absurd hk (by decide)
  · obtain ⟨hk0, f0, ho⟩ := hP _ _ hq
    refine lv_i2l (v := r.toInt64) hx hb dL_ofField_8 rfl ?_
    refine g_last hx hb hK hM ho (i := (0 : Int32)) (vp_ix ⟨by decide, by decide⟩) dL_ofField_9 (fun H locs hM => ?_)
    refine lv_goto (tgt := 21) hx hb dL_ofField_10 (by decide) ?_
    refine lv_iconst (v := (0 : Int32)) hx hb dL_ofField_21 (by decide) ?_
    exact vx_ret (g_iret hx hb hr hlocks hM (by show 0 + mc ≤ mc; omega) (by show 0 + ms ≤ ms; omega) ⟨by rw [hk0]; rfl, Or.inl ⟨hk0, r, M1, _, hq, rfl, rfl⟩⟩ dL_ofField_22)
set_option maxHeartbeats 4000000 in
set_option maxRecDepth 100000 in
theorem w_ofCombine (l : Launch) (G : GG) (M : HM) (xa rx oa ro k fr lo mc ms : Nat) (fs : List Value) (p0 p1 : Int32) (P : Int32 → HM → Prop) (hC : Xi l yX6_ofCombine (.code yX6_ofCombine cX6_ofCombine 4 (some .int) :: AL) fr lo mc ms [.ref xa, .int p0, .int p1] G M P (EX k)) (hxa : M xa = some (rx, .inr (7, fs))) (hk : k = 0 ∨ k = 1 ∨ k = 2) (hP : ∀ v M1, P v M1 → k = 0 ∧ ∃ f, M1 oa = some (ro, loE G f)) : Wi l yL_ofCombine (.codeWith yL_ofCombine cL_ofCombine 5 (some .int) [(0, 10, 13, 13), (0, 10, 17, 15)] :: AL) (fr + 1) (8 + (4 + 11) + lo) mc ms [.ref xa, .int p0, .int p1, .ref oa] G M (WQ G M oa ro k (pcd 1 2 0) P) := by
  refine Wi.go (by decide) (Nat.le_of_ble_eq_true rfl) ?_
  intro p e s m below meth c ls hx hb hr hml hown hlocks ht hts hY hK hX hM hl
  have hown : s.vm.findClass RL = some m.cls := hown
  have hl : lv_has ls 5 [(0, .ref xa), (1, .int p0), (2, .int p1), (3, .ref oa)] := hl
  refine lv_aload_n hx hb dL_ofCombine_0 rfl (lv_at hl 3 rfl) ?_
  refine lv_iconst (v := (0 : Int32)) hx hb dL_ofCombine_1 (by decide) ?_
  refine lv_aload_n hx hb dL_ofCombine_2 rfl (lv_at hl 0 rfl) ?_
  refine lv_iload_n hx hb dL_ofCombine_3 rfl (lv_at hl 1 rfl) ?_
  refine lv_iload_n hx hb dL_ofCombine_4 rfl (lv_at hl 2 rfl) ?_
  refine g_callXi (n9 := 2) (As := [.int p0, .int p1]) (rest := [.int 0, .ref oa]) hx hb hml hl.1 hown hts hK hX hM hC wm_L_63 wi_X6_ofCombine wl_X6_ofCombine wn_X6 wc_X6_ofCombine (by decide +kernel) (hM.recv hK (ci := 7) rfl hxa) ⟨Nat.le_refl _, Nat.le_refl _⟩ ⟨by show 0 + mc ≤ mc; omega, by show 0 + ms ≤ ms; omega⟩ rfl (Nat.le_of_ble_eq_true rfl) rfl dL_ofCombine_5 (fun E0 ce q9 H1 locs1 hE hM1 hce hv hcl => ?_) (fun r M1 H locs hq hM => ?_)
  · rcases hE with ⟨rfl, rfl⟩ | ⟨rfl, rfl⟩ | ⟨rfl, rfl⟩
    · refine vx_catch (own := RL) (name := exI) (E := exI) hown [] ⟨0, 10, 13, 13⟩ [⟨0, 10, 17, 15⟩] (by rw [ht]; rfl) (fun z hz => absurd hz List.not_mem_nil) (by decide) (by decide) (hts _ wk_L_13) (va_Nw.use rfl (hX.2.2.2.2 exI (by decide))) hce hv hcl ?_
      refine lv_astore (lv' := [(4, .ref q9), (0, .ref xa), (1, .int p0), (2, .int p1), (3, .ref oa)]) hx hb dL_ofCombine_13 hl (by decide) rfl (fun ls hl => ?_)
      refine lv_iconst (v := (1 : Int32)) hx hb dL_ofCombine_15 (by decide) ?_
      exact vx_ret (g_iret hx hb hr hlocks hM1 (by show 0 + mc ≤ mc; omega) (by show 0 + ms ≤ ms; omega) ⟨rfl, Or.inr ⟨by decide, rfl⟩⟩ dL_ofCombine_16)
    · refine vx_catch (own := RL) (name := exA) (E := exA) hown [⟨0, 10, 13, 13⟩] ⟨0, 10, 17, 15⟩ [] (by rw [ht]; rfl) (fun z hz => by
          simp only [List.mem_cons, List.not_mem_nil, or_false] at hz
          subst hz
          exact Or.inr ⟨by decide, exI, hts _ wk_L_13, hY.1⟩) (by decide) (by decide) (hts _ wk_L_15) (va_Nw.use rfl (hX.2.2.2.2 exA (by decide))) hce hv hcl ?_
      refine lv_astore (lv' := [(4, .ref q9), (0, .ref xa), (1, .int p0), (2, .int p1), (3, .ref oa)]) hx hb dL_ofCombine_17 hl (by decide) rfl (fun ls hl => ?_)
      refine lv_iconst (v := (2 : Int32)) hx hb dL_ofCombine_19 (by decide) ?_
      exact vx_ret (g_iret hx hb hr hlocks hM1 (by show 0 + mc ≤ mc; omega) (by show 0 + ms ≤ ms; omega) ⟨rfl, Or.inr ⟨by decide, rfl⟩⟩ dL_ofCombine_20)
    · exact absurd hk (by decide)
  · obtain ⟨hk0, f0, ho⟩ := hP _ _ hq
    refine lv_i2l (v := r.toInt64) hx hb dL_ofCombine_8 rfl ?_
    refine g_last hx hb hK hM ho (i := (0 : Int32)) (vp_ix ⟨by decide, by decide⟩) dL_ofCombine_9 (fun H locs hM => ?_)
    refine lv_goto (tgt := 21) hx hb dL_ofCombine_10 (by decide) ?_
    refine lv_iconst (v := (0 : Int32)) hx hb dL_ofCombine_21 (by decide) ?_
    exact vx_ret (g_iret hx hb hr hlocks hM (by show 0 + mc ≤ mc; omega) (by show 0 + ms ≤ ms; omega) ⟨by rw [hk0]; rfl, Or.inl ⟨hk0, r, M1, _, hq, rfl, rfl⟩⟩ dL_ofCombine_22)
set_option maxHeartbeats 4000000 in
set_option maxRecDepth 100000 in
theorem w_ofTruck (l : Launch) (G : GG) (M : HM) (xa rx oa ro k fr lo mc ms : Nat) (fs : List Value) (p0 p1 : Int32) (P : Int32 → HM → Prop) (hC : Xi l yX6_ofTruck (.code yX6_ofTruck cX6_ofTruck 4 (some .int) :: AL) fr lo mc ms [.ref xa, .int p0, .int p1] G M P (EX k)) (hxa : M xa = some (rx, .inr (7, fs))) (hk : k = 0 ∨ k = 1 ∨ k = 2) (hP : ∀ v M1, P v M1 → k = 0 ∧ ∃ f, M1 oa = some (ro, loE G f)) : Wi l yL_ofTruck (.codeWith yL_ofTruck cL_ofTruck 5 (some .int) [(0, 10, 13, 13), (0, 10, 17, 15)] :: AL) (fr + 1) (8 + (4 + 11) + lo) mc ms [.ref xa, .int p0, .int p1, .ref oa] G M (WQ G M oa ro k (pcd 1 2 0) P) := by
  refine Wi.go (by decide) (Nat.le_of_ble_eq_true rfl) ?_
  intro p e s m below meth c ls hx hb hr hml hown hlocks ht hts hY hK hX hM hl
  have hown : s.vm.findClass RL = some m.cls := hown
  have hl : lv_has ls 5 [(0, .ref xa), (1, .int p0), (2, .int p1), (3, .ref oa)] := hl
  refine lv_aload_n hx hb dL_ofTruck_0 rfl (lv_at hl 3 rfl) ?_
  refine lv_iconst (v := (0 : Int32)) hx hb dL_ofTruck_1 (by decide) ?_
  refine lv_aload_n hx hb dL_ofTruck_2 rfl (lv_at hl 0 rfl) ?_
  refine lv_iload_n hx hb dL_ofTruck_3 rfl (lv_at hl 1 rfl) ?_
  refine lv_iload_n hx hb dL_ofTruck_4 rfl (lv_at hl 2 rfl) ?_
  refine g_callXi (n9 := 2) (As := [.int p0, .int p1]) (rest := [.int 0, .ref oa]) hx hb hml hl.1 hown hts hK hX hM hC wm_L_66 wi_X6_ofTruck wl_X6_ofTruck wn_X6 wc_X6_ofTruck (by decide +kernel) (hM.recv hK (ci := 7) rfl hxa) ⟨Nat.le_refl _, Nat.le_refl _⟩ ⟨by show 0 + mc ≤ mc; omega, by show 0 + ms ≤ ms; omega⟩ rfl (Nat.le_of_ble_eq_true rfl) rfl dL_ofTruck_5 (fun E0 ce q9 H1 locs1 hE hM1 hce hv hcl => ?_) (fun r M1 H locs hq hM => ?_)
  · rcases hE with ⟨rfl, rfl⟩ | ⟨rfl, rfl⟩ | ⟨rfl, rfl⟩
    · refine vx_catch (own := RL) (name := exI) (E := exI) hown [] ⟨0, 10, 13, 13⟩ [⟨0, 10, 17, 15⟩] (by rw [ht]; rfl) (fun z hz => absurd hz List.not_mem_nil) (by decide) (by decide) (hts _ wk_L_13) (va_Nw.use rfl (hX.2.2.2.2 exI (by decide))) hce hv hcl ?_
      refine lv_astore (lv' := [(4, .ref q9), (0, .ref xa), (1, .int p0), (2, .int p1), (3, .ref oa)]) hx hb dL_ofTruck_13 hl (by decide) rfl (fun ls hl => ?_)
      refine lv_iconst (v := (1 : Int32)) hx hb dL_ofTruck_15 (by decide) ?_
      exact vx_ret (g_iret hx hb hr hlocks hM1 (by show 0 + mc ≤ mc; omega) (by show 0 + ms ≤ ms; omega) ⟨rfl, Or.inr ⟨by decide, rfl⟩⟩ dL_ofTruck_16)
    · refine vx_catch (own := RL) (name := exA) (E := exA) hown [⟨0, 10, 13, 13⟩] ⟨0, 10, 17, 15⟩ [] (by rw [ht]; rfl) (fun z hz => by
          simp only [List.mem_cons, List.not_mem_nil, or_false] at hz
          subst hz
          exact Or.inr ⟨by decide, exI, hts _ wk_L_13, hY.1⟩) (by decide) (by decide) (hts _ wk_L_15) (va_Nw.use rfl (hX.2.2.2.2 exA (by decide))) hce hv hcl ?_
      refine lv_astore (lv' := [(4, .ref q9), (0, .ref xa), (1, .int p0), (2, .int p1), (3, .ref oa)]) hx hb dL_ofTruck_17 hl (by decide) rfl (fun ls hl => ?_)
      refine lv_iconst (v := (2 : Int32)) hx hb dL_ofTruck_19 (by decide) ?_
      exact vx_ret (g_iret hx hb hr hlocks hM1 (by show 0 + mc ≤ mc; omega) (by show 0 + ms ≤ ms; omega) ⟨rfl, Or.inr ⟨by decide, rfl⟩⟩ dL_ofTruck_20)
    · exact absurd hk (by decide)
  · obtain ⟨hk0, f0, ho⟩ := hP _ _ hq
    refine lv_i2l (v := r.toInt64) hx hb dL_ofTruck_8 rfl ?_
    refine g_last hx hb hK hM ho (i := (0 : Int32)) (vp_ix ⟨by decide, by decide⟩) dL_ofTruck_9 (fun H locs hM => ?_)
    refine lv_goto (tgt := 21) hx hb dL_ofTruck_10 (by decide) ?_
    refine lv_iconst (v := (0 : Int32)) hx hb dL_ofTruck_21 (by decide) ?_
    exact vx_ret (g_iret hx hb hr hlocks hM (by show 0 + mc ≤ mc; omega) (by show 0 + ms ≤ ms; omega) ⟨by rw [hk0]; rfl, Or.inl ⟨hk0, r, M1, _, hq, rfl, rfl⟩⟩ dL_ofTruck_22)
set_option maxHeartbeats 4000000 in
set_option maxRecDepth 100000 in
theorem w_ofTicket (l : Launch) (G : GG) (M : HM) (xa rx oa ro k fr lo mc ms : Nat) (fs : List Value) (p0 p1 : Int32) (P : Int32 → HM → Prop) (hC : Xi l yX6_ofTicket (.code yX6_ofTicket cX6_ofTicket 4 (some .int) :: AL) fr lo mc ms [.ref xa, .int p0, .int p1] G M P (EX k)) (hxa : M xa = some (rx, .inr (7, fs))) (hk : k = 0 ∨ k = 1 ∨ k = 2) (hP : ∀ v M1, P v M1 → k = 0 ∧ ∃ f, M1 oa = some (ro, loE G f)) : Wi l yL_ofTicket (.codeWith yL_ofTicket cL_ofTicket 5 (some .int) [(0, 10, 13, 13), (0, 10, 17, 15)] :: AL) (fr + 1) (8 + (4 + 11) + lo) mc ms [.ref xa, .int p0, .int p1, .ref oa] G M (WQ G M oa ro k (pcd 1 2 0) P) := by
  refine Wi.go (by decide) (Nat.le_of_ble_eq_true rfl) ?_
  intro p e s m below meth c ls hx hb hr hml hown hlocks ht hts hY hK hX hM hl
  have hown : s.vm.findClass RL = some m.cls := hown
  have hl : lv_has ls 5 [(0, .ref xa), (1, .int p0), (2, .int p1), (3, .ref oa)] := hl
  refine lv_aload_n hx hb dL_ofTicket_0 rfl (lv_at hl 3 rfl) ?_
  refine lv_iconst (v := (0 : Int32)) hx hb dL_ofTicket_1 (by decide) ?_
  refine lv_aload_n hx hb dL_ofTicket_2 rfl (lv_at hl 0 rfl) ?_
  refine lv_iload_n hx hb dL_ofTicket_3 rfl (lv_at hl 1 rfl) ?_
  refine lv_iload_n hx hb dL_ofTicket_4 rfl (lv_at hl 2 rfl) ?_
  refine g_callXi (n9 := 2) (As := [.int p0, .int p1]) (rest := [.int 0, .ref oa]) hx hb hml hl.1 hown hts hK hX hM hC wm_L_69 wi_X6_ofTicket wl_X6_ofTicket wn_X6 wc_X6_ofTicket (by decide +kernel) (hM.recv hK (ci := 7) rfl hxa) ⟨Nat.le_refl _, Nat.le_refl _⟩ ⟨by show 0 + mc ≤ mc; omega, by show 0 + ms ≤ ms; omega⟩ rfl (Nat.le_of_ble_eq_true rfl) rfl dL_ofTicket_5 (fun E0 ce q9 H1 locs1 hE hM1 hce hv hcl => ?_) (fun r M1 H locs hq hM => ?_)
  · rcases hE with ⟨rfl, rfl⟩ | ⟨rfl, rfl⟩ | ⟨rfl, rfl⟩
    · refine vx_catch (own := RL) (name := exI) (E := exI) hown [] ⟨0, 10, 13, 13⟩ [⟨0, 10, 17, 15⟩] (by rw [ht]; rfl) (fun z hz => absurd hz List.not_mem_nil) (by decide) (by decide) (hts _ wk_L_13) (va_Nw.use rfl (hX.2.2.2.2 exI (by decide))) hce hv hcl ?_
      refine lv_astore (lv' := [(4, .ref q9), (0, .ref xa), (1, .int p0), (2, .int p1), (3, .ref oa)]) hx hb dL_ofTicket_13 hl (by decide) rfl (fun ls hl => ?_)
      refine lv_iconst (v := (1 : Int32)) hx hb dL_ofTicket_15 (by decide) ?_
      exact vx_ret (g_iret hx hb hr hlocks hM1 (by show 0 + mc ≤ mc; omega) (by show 0 + ms ≤ ms; omega) ⟨rfl, Or.inr ⟨by decide, rfl⟩⟩ dL_ofTicket_16)
    · refine vx_catch (own := RL) (name := exA) (E := exA) hown [⟨0, 10, 13, 13⟩] ⟨0, 10, 17, 15⟩ [] (by rw [ht]; rfl) (fun z hz => by
          simp only [List.mem_cons, List.not_mem_nil, or_false] at hz
          subst hz
          exact Or.inr ⟨by decide, exI, hts _ wk_L_13, hY.1⟩) (by decide) (by decide) (hts _ wk_L_15) (va_Nw.use rfl (hX.2.2.2.2 exA (by decide))) hce hv hcl ?_
      refine lv_astore (lv' := [(4, .ref q9), (0, .ref xa), (1, .int p0), (2, .int p1), (3, .ref oa)]) hx hb dL_ofTicket_17 hl (by decide) rfl (fun ls hl => ?_)
      refine lv_iconst (v := (2 : Int32)) hx hb dL_ofTicket_19 (by decide) ?_
      exact vx_ret (g_iret hx hb hr hlocks hM1 (by show 0 + mc ≤ mc; omega) (by show 0 + ms ≤ ms; omega) ⟨rfl, Or.inr ⟨by decide, rfl⟩⟩ dL_ofTicket_20)
    · exact absurd hk (by decide)
  · obtain ⟨hk0, f0, ho⟩ := hP _ _ hq
    refine lv_i2l (v := r.toInt64) hx hb dL_ofTicket_8 rfl ?_
    refine g_last hx hb hK hM ho (i := (0 : Int32)) (vp_ix ⟨by decide, by decide⟩) dL_ofTicket_9 (fun H locs hM => ?_)
    refine lv_goto (tgt := 21) hx hb dL_ofTicket_10 (by decide) ?_
    refine lv_iconst (v := (0 : Int32)) hx hb dL_ofTicket_21 (by decide) ?_
    exact vx_ret (g_iret hx hb hr hlocks hM (by show 0 + mc ≤ mc; omega) (by show 0 + ms ≤ ms; omega) ⟨by rw [hk0]; rfl, Or.inl ⟨hk0, r, M1, _, hq, rfl, rfl⟩⟩ dL_ofTicket_22)
set_option maxHeartbeats 4000000 in
set_option maxRecDepth 100000 in
theorem w_owed (l : Launch) (G : GG) (M : HM) (xa rx oa ro k fr lo mc ms : Nat) (fs : List Value) (p0 p1 : Int32) (P : Int32 → HM → Prop) (hC : Xi l yX6_owed (.code yX6_owed cX6_owed 6 (some .int) :: AL) fr lo mc ms [.ref xa, .int p0, .int p1] G M P (EX k)) (hxa : M xa = some (rx, .inr (7, fs))) (hk : k = 0 ∨ k = 1) (hP : ∀ v M1, P v M1 → k = 0 ∧ ∃ f, M1 oa = some (ro, loE G f)) : Wi l yL_owed (.codeWith yL_owed cL_owed 5 (some .int) [(0, 10, 13, 13)] :: AL) (fr + 1) (8 + (6 + 11) + lo) mc ms [.ref xa, .int p0, .int p1, .ref oa] G M (WQ G M oa ro k (pcd 1 0 0) P) := by
  refine Wi.go (by decide) (Nat.le_of_ble_eq_true rfl) ?_
  intro p e s m below meth c ls hx hb hr hml hown hlocks ht hts hY hK hX hM hl
  have hown : s.vm.findClass RL = some m.cls := hown
  have hl : lv_has ls 5 [(0, .ref xa), (1, .int p0), (2, .int p1), (3, .ref oa)] := hl
  refine lv_aload_n hx hb dL_owed_0 rfl (lv_at hl 3 rfl) ?_
  refine lv_iconst (v := (0 : Int32)) hx hb dL_owed_1 (by decide) ?_
  refine lv_aload_n hx hb dL_owed_2 rfl (lv_at hl 0 rfl) ?_
  refine lv_iload_n hx hb dL_owed_3 rfl (lv_at hl 1 rfl) ?_
  refine lv_iload_n hx hb dL_owed_4 rfl (lv_at hl 2 rfl) ?_
  refine g_callXi (n9 := 2) (As := [.int p0, .int p1]) (rest := [.int 0, .ref oa]) hx hb hml hl.1 hown hts hK hX hM hC wm_L_72 wi_X6_owed wl_X6_owed wn_X6 wc_X6_owed (by decide +kernel) (hM.recv hK (ci := 7) rfl hxa) ⟨Nat.le_refl _, Nat.le_refl _⟩ ⟨by show 0 + mc ≤ mc; omega, by show 0 + ms ≤ ms; omega⟩ rfl (Nat.le_of_ble_eq_true rfl) rfl dL_owed_5 (fun E0 ce q9 H1 locs1 hE hM1 hce hv hcl => ?_) (fun r M1 H locs hq hM => ?_)
  · rcases hE with ⟨rfl, rfl⟩ | ⟨rfl, rfl⟩ | ⟨rfl, rfl⟩
    · refine vx_catch (own := RL) (name := exI) (E := exI) hown [] ⟨0, 10, 13, 13⟩ [] (by rw [ht]; rfl) (fun z hz => absurd hz List.not_mem_nil) (by decide) (by decide) (hts _ wk_L_13) (va_Nw.use rfl (hX.2.2.2.2 exI (by decide))) hce hv hcl ?_
      refine lv_astore (lv' := [(4, .ref q9), (0, .ref xa), (1, .int p0), (2, .int p1), (3, .ref oa)]) hx hb dL_owed_13 hl (by decide) rfl (fun ls hl => ?_)
      refine lv_iconst (v := (1 : Int32)) hx hb dL_owed_15 (by decide) ?_
      exact vx_ret (g_iret hx hb hr hlocks hM1 (by show 0 + mc ≤ mc; omega) (by show 0 + ms ≤ ms; omega) ⟨rfl, Or.inr ⟨by decide, rfl⟩⟩ dL_owed_16)
    · exact absurd hk (by decide)
    · exact absurd hk (by decide)
  · obtain ⟨hk0, f0, ho⟩ := hP _ _ hq
    refine lv_i2l (v := r.toInt64) hx hb dL_owed_8 rfl ?_
    refine g_last hx hb hK hM ho (i := (0 : Int32)) (vp_ix ⟨by decide, by decide⟩) dL_owed_9 (fun H locs hM => ?_)
    refine lv_goto (tgt := 17) hx hb dL_owed_10 (by decide) ?_
    refine lv_iconst (v := (0 : Int32)) hx hb dL_owed_17 (by decide) ?_
    exact vx_ret (g_iret hx hb hr hlocks hM (by show 0 + mc ≤ mc; omega) (by show 0 + ms ≤ ms; omega) ⟨by rw [hk0]; rfl, Or.inl ⟨hk0, r, M1, _, hq, rfl, rfl⟩⟩ dL_owed_18)
set_option maxHeartbeats 4000000 in
set_option maxRecDepth 100000 in
theorem w_many (l : Launch) (G : GG) (M : HM) (xa rx oa ro k fr lo mc ms : Nat) (fs : List Value) (p0 : Int32) (P : Int32 → HM → Prop) (hC : Xi l yX6_many (.code yX6_many cX6_many 2 (some .int) :: AL) fr lo mc ms [.ref xa, .int p0] G M P (EX k)) (hxa : M xa = some (rx, .inr (7, fs))) (hk : k = 0 ∨ k = 2) (hP : ∀ v M1, P v M1 → k = 0 ∧ ∃ f, M1 oa = some (ro, loE G f)) : Wi l yL_many (.codeWith yL_many cL_many 4 (some .int) [(0, 9, 12, 15)] :: AL) (fr + 1) (8 + (2 + 11) + lo) mc ms [.ref xa, .int p0, .ref oa] G M (WQ G M oa ro k (pcd 0 1 0) P) := by
  refine Wi.go (by decide) (Nat.le_of_ble_eq_true rfl) ?_
  intro p e s m below meth c ls hx hb hr hml hown hlocks ht hts hY hK hX hM hl
  have hown : s.vm.findClass RL = some m.cls := hown
  have hl : lv_has ls 4 [(0, .ref xa), (1, .int p0), (2, .ref oa)] := hl
  refine lv_aload_n hx hb dL_many_0 rfl (lv_at hl 2 rfl) ?_
  refine lv_iconst (v := (0 : Int32)) hx hb dL_many_1 (by decide) ?_
  refine lv_aload_n hx hb dL_many_2 rfl (lv_at hl 0 rfl) ?_
  refine lv_iload_n hx hb dL_many_3 rfl (lv_at hl 1 rfl) ?_
  refine g_callXi (n9 := 1) (As := [.int p0]) (rest := [.int 0, .ref oa]) hx hb hml hl.1 hown hts hK hX hM hC wm_L_76 wi_X6_many wl_X6_many wn_X6 wc_X6_many (by decide +kernel) (hM.recv hK (ci := 7) rfl hxa) ⟨Nat.le_refl _, Nat.le_refl _⟩ ⟨by show 0 + mc ≤ mc; omega, by show 0 + ms ≤ ms; omega⟩ rfl (Nat.le_of_ble_eq_true rfl) rfl dL_many_4 (fun E0 ce q9 H1 locs1 hE hM1 hce hv hcl => ?_) (fun r M1 H locs hq hM => ?_)
  · rcases hE with ⟨rfl, rfl⟩ | ⟨rfl, rfl⟩ | ⟨rfl, rfl⟩
    · exact absurd hk (by decide)
    · refine vx_catch (own := RL) (name := exA) (E := exA) hown [] ⟨0, 9, 12, 15⟩ [] (by rw [ht]; rfl) (fun z hz => absurd hz List.not_mem_nil) (by decide) (by decide) (hts _ wk_L_15) (va_Nw.use rfl (hX.2.2.2.2 exA (by decide))) hce hv hcl ?_
      refine lv_astore_n (lv' := [(3, .ref q9), (0, .ref xa), (1, .int p0), (2, .ref oa)]) hx hb dL_many_12 rfl hl (by decide) rfl (fun ls hl => ?_)
      refine lv_iconst (v := (1 : Int32)) hx hb dL_many_13 (by decide) ?_
      exact vx_ret (g_iret hx hb hr hlocks hM1 (by show 0 + mc ≤ mc; omega) (by show 0 + ms ≤ ms; omega) ⟨rfl, Or.inr ⟨by decide, rfl⟩⟩ dL_many_14)
    · exact absurd hk (by decide)
  · obtain ⟨hk0, f0, ho⟩ := hP _ _ hq
    refine lv_i2l (v := r.toInt64) hx hb dL_many_7 rfl ?_
    refine g_last hx hb hK hM ho (i := (0 : Int32)) (vp_ix ⟨by decide, by decide⟩) dL_many_8 (fun H locs hM => ?_)
    refine lv_goto (tgt := 15) hx hb dL_many_9 (by decide) ?_
    refine lv_iconst (v := (0 : Int32)) hx hb dL_many_15 (by decide) ?_
    exact vx_ret (g_iret hx hb hr hlocks hM (by show 0 + mc ≤ mc; omega) (by show 0 + ms ≤ ms; omega) ⟨by rw [hk0]; rfl, Or.inl ⟨hk0, r, M1, _, hq, rfl, rfl⟩⟩ dL_many_16)
set_option maxHeartbeats 4000000 in
set_option maxRecDepth 100000 in
theorem w_readyIn (l : Launch) (G : GG) (M : HM) (xa rx oa ro k fr lo mc ms : Nat) (fs : List Value) (p0 p1 p2 : Int32) (P : Int32 → HM → Prop) (hC : Xi l yX6_readyIn (.code yX6_readyIn cX6_readyIn 7 (some .int) :: AL) fr lo mc ms [.ref xa, .int p0, .int p1, .int p2] G M P (EX k)) (hxa : M xa = some (rx, .inr (7, fs))) (hk : k = 0 ∨ k = 1 ∨ k = 2) (hP : ∀ v M1, P v M1 → k = 0 ∧ ∃ f, M1 oa = some (ro, loE G f)) : Wi l yL_readyIn (.codeWith yL_readyIn cL_readyIn 6 (some .int) [(0, 12, 15, 13), (0, 12, 19, 15)] :: AL) (fr + 1) (8 + (7 + 11) + lo) mc ms [.ref xa, .int p0, .int p1, .int p2, .ref oa] G M (WQ G M oa ro k (pcd 1 2 0) P) := by
  refine Wi.go (by decide) (Nat.le_of_ble_eq_true rfl) ?_
  intro p e s m below meth c ls hx hb hr hml hown hlocks ht hts hY hK hX hM hl
  have hown : s.vm.findClass RL = some m.cls := hown
  have hl : lv_has ls 6 [(0, .ref xa), (1, .int p0), (2, .int p1), (3, .int p2), (4, .ref oa)] := hl
  refine lv_aload hx hb dL_readyIn_0 (lv_at hl 4 rfl) ?_
  refine lv_iconst (v := (0 : Int32)) hx hb dL_readyIn_2 (by decide) ?_
  refine lv_aload_n hx hb dL_readyIn_3 rfl (lv_at hl 0 rfl) ?_
  refine lv_iload_n hx hb dL_readyIn_4 rfl (lv_at hl 1 rfl) ?_
  refine lv_iload_n hx hb dL_readyIn_5 rfl (lv_at hl 2 rfl) ?_
  refine lv_iload_n hx hb dL_readyIn_6 rfl (lv_at hl 3 rfl) ?_
  refine g_callXi (n9 := 3) (As := [.int p0, .int p1, .int p2]) (rest := [.int 0, .ref oa]) hx hb hml hl.1 hown hts hK hX hM hC wm_L_79 wi_X6_readyIn wl_X6_readyIn wn_X6 wc_X6_readyIn (by decide +kernel) (hM.recv hK (ci := 7) rfl hxa) ⟨Nat.le_refl _, Nat.le_refl _⟩ ⟨by show 0 + mc ≤ mc; omega, by show 0 + ms ≤ ms; omega⟩ rfl (Nat.le_of_ble_eq_true rfl) rfl dL_readyIn_7 (fun E0 ce q9 H1 locs1 hE hM1 hce hv hcl => ?_) (fun r M1 H locs hq hM => ?_)
  · rcases hE with ⟨rfl, rfl⟩ | ⟨rfl, rfl⟩ | ⟨rfl, rfl⟩
    · refine vx_catch (own := RL) (name := exI) (E := exI) hown [] ⟨0, 12, 15, 13⟩ [⟨0, 12, 19, 15⟩] (by rw [ht]; rfl) (fun z hz => absurd hz List.not_mem_nil) (by decide) (by decide) (hts _ wk_L_13) (va_Nw.use rfl (hX.2.2.2.2 exI (by decide))) hce hv hcl ?_
      refine lv_astore (lv' := [(5, .ref q9), (0, .ref xa), (1, .int p0), (2, .int p1), (3, .int p2), (4, .ref oa)]) hx hb dL_readyIn_15 hl (by decide) rfl (fun ls hl => ?_)
      refine lv_iconst (v := (1 : Int32)) hx hb dL_readyIn_17 (by decide) ?_
      exact vx_ret (g_iret hx hb hr hlocks hM1 (by show 0 + mc ≤ mc; omega) (by show 0 + ms ≤ ms; omega) ⟨rfl, Or.inr ⟨by decide, rfl⟩⟩ dL_readyIn_18)
    · refine vx_catch (own := RL) (name := exA) (E := exA) hown [⟨0, 12, 15, 13⟩] ⟨0, 12, 19, 15⟩ [] (by rw [ht]; rfl) (fun z hz => by
          simp only [List.mem_cons, List.not_mem_nil, or_false] at hz
          subst hz
          exact Or.inr ⟨by decide, exI, hts _ wk_L_13, hY.1⟩) (by decide) (by decide) (hts _ wk_L_15) (va_Nw.use rfl (hX.2.2.2.2 exA (by decide))) hce hv hcl ?_
      refine lv_astore (lv' := [(5, .ref q9), (0, .ref xa), (1, .int p0), (2, .int p1), (3, .int p2), (4, .ref oa)]) hx hb dL_readyIn_19 hl (by decide) rfl (fun ls hl => ?_)
      refine lv_iconst (v := (2 : Int32)) hx hb dL_readyIn_21 (by decide) ?_
      exact vx_ret (g_iret hx hb hr hlocks hM1 (by show 0 + mc ≤ mc; omega) (by show 0 + ms ≤ ms; omega) ⟨rfl, Or.inr ⟨by decide, rfl⟩⟩ dL_readyIn_22)
    · exact absurd hk (by decide)
  · obtain ⟨hk0, f0, ho⟩ := hP _ _ hq
    refine lv_i2l (v := r.toInt64) hx hb dL_readyIn_10 rfl ?_
    refine g_last hx hb hK hM ho (i := (0 : Int32)) (vp_ix ⟨by decide, by decide⟩) dL_readyIn_11 (fun H locs hM => ?_)
    refine lv_goto (tgt := 23) hx hb dL_readyIn_12 (by decide) ?_
    refine lv_iconst (v := (0 : Int32)) hx hb dL_readyIn_23 (by decide) ?_
    exact vx_ret (g_iret hx hb hr hlocks hM (by show 0 + mc ≤ mc; omega) (by show 0 + ms ≤ ms; omega) ⟨by rw [hk0]; rfl, Or.inl ⟨hk0, r, M1, _, hq, rfl, rfl⟩⟩ dL_readyIn_24)
set_option maxHeartbeats 4000000 in
set_option maxRecDepth 100000 in
theorem w_nextField (l : Launch) (G : GG) (M : HM) (xa rx oa ro k fr lo mc ms : Nat) (fs : List Value) (p0 p1 p2 p3 : Int32) (P : Int32 → HM → Prop) (hC : Xi l yX6_nextField (.code yX6_nextField cX6_nextField 11 (some .int) :: AL) fr lo mc ms [.ref xa, .int p0, .int p1, .int p2, .int p3] G M P (EX k)) (hxa : M xa = some (rx, .inr (7, fs))) (hk : k = 0 ∨ k = 1 ∨ k = 2) (hP : ∀ v M1, P v M1 → k = 0 ∧ ∃ f, M1 oa = some (ro, loE G f)) : Wi l yL_nextField (.codeWith yL_nextField cL_nextField 7 (some .int) [(0, 14, 17, 13), (0, 14, 21, 15)] :: AL) (fr + 1) (8 + (11 + 11) + lo) mc ms [.ref xa, .int p0, .int p1, .int p2, .int p3, .ref oa] G M (WQ G M oa ro k (pcd 1 2 0) P) := by
  refine Wi.go (by decide) (Nat.le_of_ble_eq_true rfl) ?_
  intro p e s m below meth c ls hx hb hr hml hown hlocks ht hts hY hK hX hM hl
  have hown : s.vm.findClass RL = some m.cls := hown
  have hl : lv_has ls 7 [(0, .ref xa), (1, .int p0), (2, .int p1), (3, .int p2), (4, .int p3), (5, .ref oa)] := hl
  refine lv_aload hx hb dL_nextField_0 (lv_at hl 5 rfl) ?_
  refine lv_iconst (v := (0 : Int32)) hx hb dL_nextField_2 (by decide) ?_
  refine lv_aload_n hx hb dL_nextField_3 rfl (lv_at hl 0 rfl) ?_
  refine lv_iload_n hx hb dL_nextField_4 rfl (lv_at hl 1 rfl) ?_
  refine lv_iload_n hx hb dL_nextField_5 rfl (lv_at hl 2 rfl) ?_
  refine lv_iload_n hx hb dL_nextField_6 rfl (lv_at hl 3 rfl) ?_
  refine lv_iload hx hb dL_nextField_7 (lv_at hl 4 rfl) ?_
  refine g_callXi (n9 := 4) (As := [.int p0, .int p1, .int p2, .int p3]) (rest := [.int 0, .ref oa]) hx hb hml hl.1 hown hts hK hX hM hC wm_L_82 wi_X6_nextField wl_X6_nextField wn_X6 wc_X6_nextField (by decide +kernel) (hM.recv hK (ci := 7) rfl hxa) ⟨Nat.le_refl _, Nat.le_refl _⟩ ⟨by show 0 + mc ≤ mc; omega, by show 0 + ms ≤ ms; omega⟩ rfl (Nat.le_of_ble_eq_true rfl) rfl dL_nextField_9 (fun E0 ce q9 H1 locs1 hE hM1 hce hv hcl => ?_) (fun r M1 H locs hq hM => ?_)
  · rcases hE with ⟨rfl, rfl⟩ | ⟨rfl, rfl⟩ | ⟨rfl, rfl⟩
    · refine vx_catch (own := RL) (name := exI) (E := exI) hown [] ⟨0, 14, 17, 13⟩ [⟨0, 14, 21, 15⟩] (by rw [ht]; rfl) (fun z hz => absurd hz List.not_mem_nil) (by decide) (by decide) (hts _ wk_L_13) (va_Nw.use rfl (hX.2.2.2.2 exI (by decide))) hce hv hcl ?_
      refine lv_astore (lv' := [(6, .ref q9), (0, .ref xa), (1, .int p0), (2, .int p1), (3, .int p2), (4, .int p3), (5, .ref oa)]) hx hb dL_nextField_17 hl (by decide) rfl (fun ls hl => ?_)
      refine lv_iconst (v := (1 : Int32)) hx hb dL_nextField_19 (by decide) ?_
      exact vx_ret (g_iret hx hb hr hlocks hM1 (by show 0 + mc ≤ mc; omega) (by show 0 + ms ≤ ms; omega) ⟨rfl, Or.inr ⟨by decide, rfl⟩⟩ dL_nextField_20)
    · refine vx_catch (own := RL) (name := exA) (E := exA) hown [⟨0, 14, 17, 13⟩] ⟨0, 14, 21, 15⟩ [] (by rw [ht]; rfl) (fun z hz => by
          simp only [List.mem_cons, List.not_mem_nil, or_false] at hz
          subst hz
          exact Or.inr ⟨by decide, exI, hts _ wk_L_13, hY.1⟩) (by decide) (by decide) (hts _ wk_L_15) (va_Nw.use rfl (hX.2.2.2.2 exA (by decide))) hce hv hcl ?_
      refine lv_astore (lv' := [(6, .ref q9), (0, .ref xa), (1, .int p0), (2, .int p1), (3, .int p2), (4, .int p3), (5, .ref oa)]) hx hb dL_nextField_21 hl (by decide) rfl (fun ls hl => ?_)
      refine lv_iconst (v := (2 : Int32)) hx hb dL_nextField_23 (by decide) ?_
      exact vx_ret (g_iret hx hb hr hlocks hM1 (by show 0 + mc ≤ mc; omega) (by show 0 + ms ≤ ms; omega) ⟨rfl, Or.inr ⟨by decide, rfl⟩⟩ dL_nextField_24)
    · exact absurd hk (by decide)
  · obtain ⟨hk0, f0, ho⟩ := hP _ _ hq
    refine lv_i2l (v := r.toInt64) hx hb dL_nextField_12 rfl ?_
    refine g_last hx hb hK hM ho (i := (0 : Int32)) (vp_ix ⟨by decide, by decide⟩) dL_nextField_13 (fun H locs hM => ?_)
    refine lv_goto (tgt := 25) hx hb dL_nextField_14 (by decide) ?_
    refine lv_iconst (v := (0 : Int32)) hx hb dL_nextField_25 (by decide) ?_
    exact vx_ret (g_iret hx hb hr hlocks hM (by show 0 + mc ≤ mc; omega) (by show 0 + ms ≤ ms; omega) ⟨by rw [hk0]; rfl, Or.inl ⟨hk0, r, M1, _, hq, rfl, rfl⟩⟩ dL_nextField_26)
set_option maxHeartbeats 4000000 in
set_option maxRecDepth 100000 in
theorem w_waiting (l : Launch) (G : GG) (M : HM) (xa rx oa ro k fr lo mc ms : Nat) (fs : List Value) (p0 p1 p2 p3 p4 : Int32) (P : Int32 → HM → Prop) (hC : Xi l yX6_waiting (.code yX6_waiting cX6_waiting 8 (some .int) :: AL) fr lo mc ms [.ref xa, .int p0, .int p1, .int p2, .int p3, .int p4] G M P (EX k)) (hxa : M xa = some (rx, .inr (7, fs))) (hk : k = 0 ∨ k = 1 ∨ k = 2) (hP : ∀ v M1, P v M1 → k = 0 ∧ ∃ f, M1 oa = some (ro, loE G f)) : Wi l yL_waiting (.codeWith yL_waiting cL_waiting 8 (some .int) [(0, 16, 19, 13), (0, 16, 23, 15)] :: AL) (fr + 1) (8 + (8 + 11) + lo) mc ms [.ref xa, .int p0, .int p1, .int p2, .int p3, .int p4, .ref oa] G M (WQ G M oa ro k (pcd 1 2 0) P) := by
  refine Wi.go (by decide) (Nat.le_of_ble_eq_true rfl) ?_
  intro p e s m below meth c ls hx hb hr hml hown hlocks ht hts hY hK hX hM hl
  have hown : s.vm.findClass RL = some m.cls := hown
  have hl : lv_has ls 8 [(0, .ref xa), (1, .int p0), (2, .int p1), (3, .int p2), (4, .int p3), (5, .int p4), (6, .ref oa)] := hl
  refine lv_aload hx hb dL_waiting_0 (lv_at hl 6 rfl) ?_
  refine lv_iconst (v := (0 : Int32)) hx hb dL_waiting_2 (by decide) ?_
  refine lv_aload_n hx hb dL_waiting_3 rfl (lv_at hl 0 rfl) ?_
  refine lv_iload_n hx hb dL_waiting_4 rfl (lv_at hl 1 rfl) ?_
  refine lv_iload_n hx hb dL_waiting_5 rfl (lv_at hl 2 rfl) ?_
  refine lv_iload_n hx hb dL_waiting_6 rfl (lv_at hl 3 rfl) ?_
  refine lv_iload hx hb dL_waiting_7 (lv_at hl 4 rfl) ?_
  refine lv_iload hx hb dL_waiting_9 (lv_at hl 5 rfl) ?_
  refine g_callXi (n9 := 5) (As := [.int p0, .int p1, .int p2, .int p3, .int p4]) (rest := [.int 0, .ref oa]) hx hb hml hl.1 hown hts hK hX hM hC wm_L_85 wi_X6_waiting wl_X6_waiting wn_X6 wc_X6_waiting (by decide +kernel) (hM.recv hK (ci := 7) rfl hxa) ⟨Nat.le_refl _, Nat.le_refl _⟩ ⟨by show 0 + mc ≤ mc; omega, by show 0 + ms ≤ ms; omega⟩ rfl (Nat.le_of_ble_eq_true rfl) rfl dL_waiting_11 (fun E0 ce q9 H1 locs1 hE hM1 hce hv hcl => ?_) (fun r M1 H locs hq hM => ?_)
  · rcases hE with ⟨rfl, rfl⟩ | ⟨rfl, rfl⟩ | ⟨rfl, rfl⟩
    · refine vx_catch (own := RL) (name := exI) (E := exI) hown [] ⟨0, 16, 19, 13⟩ [⟨0, 16, 23, 15⟩] (by rw [ht]; rfl) (fun z hz => absurd hz List.not_mem_nil) (by decide) (by decide) (hts _ wk_L_13) (va_Nw.use rfl (hX.2.2.2.2 exI (by decide))) hce hv hcl ?_
      refine lv_astore (lv' := [(7, .ref q9), (0, .ref xa), (1, .int p0), (2, .int p1), (3, .int p2), (4, .int p3), (5, .int p4), (6, .ref oa)]) hx hb dL_waiting_19 hl (by decide) rfl (fun ls hl => ?_)
      refine lv_iconst (v := (1 : Int32)) hx hb dL_waiting_21 (by decide) ?_
      exact vx_ret (g_iret hx hb hr hlocks hM1 (by show 0 + mc ≤ mc; omega) (by show 0 + ms ≤ ms; omega) ⟨rfl, Or.inr ⟨by decide, rfl⟩⟩ dL_waiting_22)
    · refine vx_catch (own := RL) (name := exA) (E := exA) hown [⟨0, 16, 19, 13⟩] ⟨0, 16, 23, 15⟩ [] (by rw [ht]; rfl) (fun z hz => by
          simp only [List.mem_cons, List.not_mem_nil, or_false] at hz
          subst hz
          exact Or.inr ⟨by decide, exI, hts _ wk_L_13, hY.1⟩) (by decide) (by decide) (hts _ wk_L_15) (va_Nw.use rfl (hX.2.2.2.2 exA (by decide))) hce hv hcl ?_
      refine lv_astore (lv' := [(7, .ref q9), (0, .ref xa), (1, .int p0), (2, .int p1), (3, .int p2), (4, .int p3), (5, .int p4), (6, .ref oa)]) hx hb dL_waiting_23 hl (by decide) rfl (fun ls hl => ?_)
      refine lv_iconst (v := (2 : Int32)) hx hb dL_waiting_25 (by decide) ?_
      exact vx_ret (g_iret hx hb hr hlocks hM1 (by show 0 + mc ≤ mc; omega) (by show 0 + ms ≤ ms; omega) ⟨rfl, Or.inr ⟨by decide, rfl⟩⟩ dL_waiting_26)
    · exact absurd hk (by decide)
  · obtain ⟨hk0, f0, ho⟩ := hP _ _ hq
    refine lv_i2l (v := r.toInt64) hx hb dL_waiting_14 rfl ?_
    refine g_last hx hb hK hM ho (i := (0 : Int32)) (vp_ix ⟨by decide, by decide⟩) dL_waiting_15 (fun H locs hM => ?_)
    refine lv_goto (tgt := 27) hx hb dL_waiting_16 (by decide) ?_
    refine lv_iconst (v := (0 : Int32)) hx hb dL_waiting_27 (by decide) ?_
    exact vx_ret (g_iret hx hb hr hlocks hM (by show 0 + mc ≤ mc; omega) (by show 0 + ms ≤ ms; omega) ⟨by rw [hk0]; rfl, Or.inl ⟨hk0, r, M1, _, hq, rfl, rfl⟩⟩ dL_waiting_28)

/-! ArrayList's members over a world -/
/-- what may be put into a list here: an object of a class that may be cast to Object, or an int array -/
def okv (G : GG) (en : va_E) : Prop := (∃ (ci : Nat) (fs : List Value), en = .inr (ci, fs) ∧ (ci = 1 ∨ ci = 2 ∨ ci = 3 ∨ ci = 5 ∨ ci = 6)) ∨ ∃ (n : Nat) (f : Nat → Int32), en = .inl (G.2.1 0, n, .inl f)
theorem va_any_of {G : GG} {M : HM} {s : State} {H : Heap} {locs : List Loc} {v rv : Nat} {en : va_E} (hK : Kw G s) (hM : Wd G M s H locs) (hv : M v = some (rv, en)) (hok : okv G en) : va_Any "java/lang/Object" s H v := by
  have cast : ∀ C ∈ kdL, ∀ comp c0 : ClassId, s.vm.findClass "java/lang/Object" = some comp → s.vm.findClass C = some c0 → s.vm.assignable c0 comp = true := fun C hC comp c0 h1 h2 => by
    obtain ⟨c3, c4, f1, f2, f3⟩ := Cond.castable_spec (va_Nw.use (A := #[]) rfl (hK.2.2.2.1.2.1 C hC))
    cases h1.symm.trans f2
    cases h2.symm.trans f1
    exact f3
  obtain ⟨ws, hP, hD, hw⟩ := hM.1
  obtain ⟨k, hk⟩ := hw _ _ _ hv
  rcases hok with ⟨ci, fs, rfl, h⟩ | ⟨n, f, rfl⟩
  · have key : ∀ q : vw_C, vwCl[ci]? = some q → q.1 ∈ kdL → va_Any "java/lang/Object" s H v := fun q h1 h2 => va_rAny hK.1 hP hk h1 (cast q.1 h2)
    rcases h with rfl | rfl | rfl | rfl | rfl
    · exact key (RX0, TX0, 12) rfl (by decide)
    · exact key (RX1, TX1, 6) rfl (by decide)
    · exact key (RX2, TX2, 13) rfl (by decide)
    · exact key (RX4, TX4, 7) rfl (by decide)
    · exact key (RX5, TX5, 10) rfl (by decide)
  · have hfc : s.vm.findClass "[I" = some (G.2.1 0) := (hK.1.2 0 _ rfl).2
    obtain ⟨kC, hkC, -⟩ := Vm.findClass_spec hfc
    exact ⟨_, hP k _ hk, rfl, ⟨kC, hkC⟩, fun comp h => cast "[I" (by decide) comp _ h hfc⟩
abbrev qarr (G : GG) (cap : Nat) (g : Nat → Option Nat) : va_E := .inl (G.2.1 2, cap, .inr (.inr (.inr (.inr g))))
abbrev lsE (mc : Int32) (ar : Nat) (n : Int32) : va_E := .inr (0, [.int mc, .ref ar, .int n])
set_option maxHeartbeats 4000000 in
set_option maxRecDepth 100000 in
theorem c_elementData (l : Launch) (G : GG) (M : HM) (h0 r0 q1 r1 cap : Nat) (g : Nat → Option Nat) (a0 a2 p0 : Int32) (ha : M h0 = some (r0, lsE a0 q1 a2)) (hq : M q1 = some (r1, qarr G cap g)) (hin : vp_in p0 cap) : Mq l yJx4a65c_elementData_915e3 (.code yJx4a65c_elementData_915e3 cJx4a65c_elementData_915e3 2 (some (.object "java/lang/Object")) :: AL) 0 0 0 0 [.ref h0, .int p0] G M (fun r M' => r = g p0.toNatClampNeg ∧ M' = M) := by
  refine Mq.go (by decide) (Nat.le_of_ble_eq_true rfl) ?_
  intro p e s m below meth c ls hx hb hr hml hown hlocks hname hts hK hM hl
  have hown : s.vm.findClass RJx4a65c = some m.cls := hown
  have hl : lv_has ls 2 [(0, .ref h0), (1, .int p0)] := hl
  refine lv_aload_n hx hb dJx4a65c_elementData_915e3_0 rfl (lv_at hl 0 rfl) ?_
  refine fg_Jx4a65c_9 hx hb hts hown hK hM ha dJx4a65c_elementData_915e3_1 ?_
  refine lv_iload_n hx hb dJx4a65c_elementData_915e3_4 rfl (lv_at hl 1 rfl) ?_
  refine g_aald hx hb hK hM hq rfl rfl hin dJx4a65c_elementData_915e3_5 ?_
  exact g_qret hx hb hr (Or.inl ⟨_, rfl⟩) hlocks hM (Nat.zero_le _) (Nat.zero_le _) ⟨rfl, rfl⟩ dJx4a65c_elementData_915e3_6
set_option maxHeartbeats 4000000 in
set_option maxRecDepth 100000 in
theorem c_pcheck (l : Launch) (G : GG) (M : HM) (p0 p1 : Int32) (h1 : ¬ p0 < 0) (h2 : p0 < p1) : Mi l yJ3_checkIndex_8e157 (.code yJ3_checkIndex_8e157 cJ3_checkIndex_8e157 3 (some .int) :: AL) 0 0 0 0 [.int p0, .int p1, .null] G M (fun r M' => r = p0 ∧ M' = M) := by
  refine Mi.go (by decide) (Nat.le_of_ble_eq_true rfl) ?_
  intro p e s m below meth c ls hx hb hr hml hown hlocks hname hts hK hM hl
  have hl : lv_has ls 3 [(0, .int p0), (1, .int p1), (2, .null)] := hl
  refine lv_iload_n hx hb dJ3_checkIndex_8e157_0 rfl (lv_at hl 0 rfl) ?_
  refine lv_if_lt (tgt := 9) hx hb dJ3_checkIndex_8e157_1 (by decide) (fun c1 => absurd c1 h1) (fun c1 => ?_)
  refine lv_iload_n hx hb dJ3_checkIndex_8e157_4 rfl (lv_at hl 0 rfl) ?_
  refine lv_iload_n hx hb dJ3_checkIndex_8e157_5 rfl (lv_at hl 1 rfl) ?_
  refine lv_icmp_lt (tgt := 16) hx hb dJ3_checkIndex_8e157_6 (by decide) (fun c2 => ?_) (fun c2 => absurd h2 c2)
  refine lv_iload_n hx hb dJ3_checkIndex_8e157_16 rfl (lv_at hl 0 rfl) ?_
  exact g_iret hx hb hr hlocks hM (Nat.zero_le _) (Nat.zero_le _) ⟨rfl, rfl⟩ dJ3_checkIndex_8e157_17
set_option maxHeartbeats 4000000 in
set_option maxRecDepth 100000 in
theorem c_ocheck (l : Launch) (G : GG) (M : HM) (p0 p1 : Int32) (h1 : ¬ p0 < 0) (h2 : p0 < p1) : Mi l yJ15_checkIndex_7cf53 (.code yJ15_checkIndex_7cf53 cJ15_checkIndex_7cf53 2 (some .int) :: AL) 1 22 0 0 [.int p0, .int p1] G M (fun r M' => r = p0 ∧ M' = M) := by
  refine Mi.go (by decide) (Nat.le_of_ble_eq_true rfl) ?_
  intro p e s m below meth c ls hx hb hr hml hown hlocks hname hts hK hM hl
  have hown : s.vm.findClass RJ15 = some m.cls := hown
  have hl : lv_has ls 2 [(0, .int p0), (1, .int p1)] := hl
  refine lv_iload_n hx hb dJ15_checkIndex_7cf53_0 rfl (lv_at hl 0 rfl) ?_
  refine lv_iload_n hx hb dJ15_checkIndex_7cf53_1 rfl (lv_at hl 1 rfl) ?_
  refine lv_null hx hb dJ15_checkIndex_7cf53_2 ?_
  refine g_callSi (n9 := 3) (As := [.int p0, .int p1, .null]) (rest := []) hx hb hml hl.1 hown hts hK hM (c_pcheck l G _ p0 p1 h1 h2) wm_J15_105 wt_J3_checkIndex_8e157 wn_J3 wc_J3_checkIndex_8e157 (by decide +kernel) ⟨Nat.le_of_ble_eq_true rfl, Nat.le_of_ble_eq_true rfl⟩ ⟨Nat.le_of_ble_eq_true rfl, Nat.le_of_ble_eq_true rfl⟩ rfl (Nat.le_of_ble_eq_true rfl) rfl dJ15_checkIndex_7cf53_3 (fun r M1 H locs hq hM => ?_)
  have hq1 := hq.1.symm
  have hq2 := hq.2.symm
  subst hq1 hq2
  exact g_iret hx hb hr hlocks hM (Nat.zero_le _) (Nat.zero_le _) ⟨rfl, rfl⟩ dJ15_checkIndex_7cf53_6
set_option maxHeartbeats 4000000 in
set_option maxRecDepth 100000 in
theorem c_get (l : Launch) (G : GG) (M : HM) (h0 r0 q1 r1 cap n i : Nat) (g : Nat → Option Nat) (a0 : Int32) (ha : M h0 = some (r0, lsE a0 q1 (nI n))) (hq : M q1 = some (r1, qarr G cap g)) (hin : i < n) (hc : n ≤ cap) (hb3 : cap < 2 ^ 31) : Mq l yJx4a65c_get_915e3 (.code yJx4a65c_get_915e3 cJx4a65c_get_915e3 2 (some (.object "java/lang/Object")) :: AL) 2 43 0 0 [.ref h0, .int (nI i)] G M (fun r M' => r = g i ∧ M' = M) := by
  refine Mq.go (by decide) (Nat.le_of_ble_eq_true rfl) ?_
  intro p e s m below meth c ls hx hb hr hml hown hlocks hname hts hK hM hl
  have hown : s.vm.findClass RJx4a65c = some m.cls := hown
  have hl : lv_has ls 2 [(0, .ref h0), (1, .int (nI i))] := hl
  refine lv_iload_n hx hb dJx4a65c_get_915e3_0 rfl (lv_at hl 1 rfl) ?_
  refine lv_aload_n hx hb dJx4a65c_get_915e3_1 rfl (lv_at hl 0 rfl) ?_
  refine fg_Jx4a65c_48 hx hb hts hown hK hM ha dJx4a65c_get_915e3_2 ?_
  refine g_callSi (n9 := 2) (As := [.int (nI i), .int (nI n)]) (rest := []) hx hb hml hl.1 hown hts hK hM (c_ocheck l G _ (nI i) (nI n) (nI_pos (by omega)) (nI_lt hin (by omega))) wm_Jx4a65c_118 wt_J15_checkIndex_7cf53 wn_J15 wc_J15_checkIndex_7cf53 (by decide +kernel) ⟨Nat.le_of_ble_eq_true rfl, Nat.le_of_ble_eq_true rfl⟩ ⟨Nat.le_of_ble_eq_true rfl, Nat.le_of_ble_eq_true rfl⟩ rfl (Nat.le_of_ble_eq_true rfl) rfl dJx4a65c_get_915e3_5 (fun r M1 H locs hq9 hM => ?_)
  have hq1 := hq9.1.symm
  have hq2 := hq9.2.symm
  subst hq1 hq2
  refine lv_pop hx hb dJx4a65c_get_915e3_8 rfl ?_
  refine lv_aload_n hx hb dJx4a65c_get_915e3_9 rfl (lv_at hl 0 rfl) ?_
  refine lv_iload_n hx hb dJx4a65c_get_915e3_10 rfl (lv_at hl 1 rfl) ?_
  refine g_callVq (n9 := 1) (As := [.int (nI i)]) (rest := []) hx hb hml hl.1 hown hts hK hM (c_elementData l G _ h0 r0 q1 r1 cap g a0 (nI n) (nI i) ha hq (vp_in_nI (by omega) hb3)) wm_Jx4a65c_123 wi_Jx4a65c_elementData_915e3 wl_Jx4a65c_elementData_915e3 wn_Jx4a65c wc_Jx4a65c_elementData_915e3 (by decide +kernel) (hM.recv hK (ci := 0) rfl ha) ⟨Nat.le_of_ble_eq_true rfl, Nat.le_of_ble_eq_true rfl⟩ ⟨Nat.le_of_ble_eq_true rfl, Nat.le_of_ble_eq_true rfl⟩ rfl (Nat.le_of_ble_eq_true rfl) rfl dJx4a65c_get_915e3_11 (fun r M1 H locs hq9 hM => ?_)
  have hq1 := hq9.1.symm
  have hq2 := hq9.2.symm
  subst hq1 hq2
  exact g_qret hx hb hr (Or.inl ⟨_, rfl⟩) hlocks hM (Nat.zero_le _) (Nat.zero_le _) ⟨by rw [nI_clamp (by omega)], rfl⟩ dJx4a65c_get_915e3_14
section GL
variable {p : Program} {l : Launch} {e : Env} {R : Room} {s : State} {m : MethodId} {args : Array Value} {below : List Frame} {meth : Method} {c : Code} {H : Heap} {locs : List Loc} {cells slots : Nat} {Q : State → Prop}
variable {cc : ByteArray} {pc : Nat} {ls : Array Slot} {rest : List Value} {a : Nat} {G : GG} {M : HM}
theorem g_copyq (hx : p.tables.exec = Jvm.exec) (hb : c.code = cc) (hml : c.maxLocals = ls.size) {own : String} {index : Nat} (hts : ∀ w ∈ AL, w.before args s = true) (hown : s.vm.findClass own = some m.cls) (hK : Kw G s) (hM : Wd G M s H locs) (hlink : Cond.methodLink own index arraycopyName ∈ AL) {a0 n0 n1 r0 r1 : Nat} {f g : Nat → Option Nat} (ha0 : M a0 = some (r0, qarr G n0 f)) (ha : M a = some (r1, qarr G n1 g)) {sp dp n : Int32} (h1 : ¬ sp < 0) (h2 : ¬ dp < 0) (h3 : ¬ n < 0) (h4 : sp.toNatClampNeg + n.toNatClampNeg ≤ n0) (h5 : dp.toNatClampNeg + n.toNatClampNeg ≤ n1) (hel : ∀ i : Nat, i < n.toNatClampNeg → ∀ y : Nat, f (sp.toNatClampNeg + i) = some y → ∃ rv en, M y = some (rv, en) ∧ okv G en) (hfr : 1 ≤ R.frames) (hlo : (rest.map fun v => v.category).sum + (nativeFrameWords "java/lang/System" "arraycopy" 5 + 11) ≤ R.locals) (hdg : decode cc pc = .ok (.invokestatic index, 3))
    (kk : ∀ (H : Heap) (locs : List Loc), Wd G (hu M a r1 (qarr G n1 (va_cpy f g sp.toNatClampNeg dp.toNatClampNeg n.toNatClampNeg))) s H locs → W p l e R s m args below meth c H locs cells slots Q (F0 m (pc + 3) ls rest)) : W p l e R s m args below meth c H locs cells slots Q (F0 m pc ls (.int n :: .int dp :: .ref a :: .int sp :: .ref a0 :: rest)) := by
  obtain ⟨ws, hP, hD, hw⟩ := hM.1
  obtain ⟨k0, hk0⟩ := hw _ _ _ ha
  obtain ⟨k1, hk1⟩ := hw _ _ _ ha0
  exact va_copyM (D := G.1) hx hb hml hown (hts _ hlink) (hts _ wv_acopy) (hts _ wt_acopy) (hts _ wn_java_lang_System) hK.1 hP hD hM.2.1 k1 k0 2 2 hk1 hk0 rfl rfl h1 h2 h3 h4 h5 (fun i hi y hy => by
    obtain ⟨rv, en, q1, q2⟩ := hel i hi y hy
    exact va_any_of hK hM q1 q2) hfr hlo hdg (fun H1 locs1 hP1 hD1 hS1 => kk H1 locs1 ⟨hm.set hw hk0 hP1 hD1, hS1, hM.2.2⟩)
end GL
set_option maxHeartbeats 4000000 in
set_option maxRecDepth 100000 in
/-- grow(1) of a list that was never added to -/
theorem c_growI0 (l : Launch) (G : GG) (M : HM) (h0 r0 : Nat) (a0 a2 : Int32) (ha : M h0 = some (r0, lsE a0 (G.2.2 1) a2)) : Mq l yJx4a65c_grow_92f84 (.code yJx4a65c_grow_92f84 cJx4a65c_grow_92f84 4 (some (.array (.object "java/lang/Object"))) :: AL) 1 21 1 10 [.ref h0, .int 1] G M (fun r M' => ∃ q, r = some q ∧ M q = none ∧ M' = hu (hu M q r0 (qarr G 10 (fun _ => none))) h0 r0 (lsE a0 q a2)) := by
  refine Mq.go (by decide) (Nat.le_of_ble_eq_true rfl) ?_
  intro p e s m below meth c ls hx hb hr hml hown hlocks hname hts hK hM hl
  have hown : s.vm.findClass RJx4a65c = some m.cls := hown
  have hl : lv_has ls 4 [(0, .ref h0), (1, .int 1)] := hl
  obtain ⟨fv, hT⟩ := hK.2.2.2.2.2.1
  refine lv_aload_n hx hb dJx4a65c_grow_92f84_0 rfl (lv_at hl 0 rfl) ?_
  refine fg_Jx4a65c_9 hx hb hts hown hK hM ha dJx4a65c_grow_92f84_1 ?_
  refine va_tlen hx hb hT hM.2.1 (v := 0) rfl dJx4a65c_grow_92f84_4 ?_
  refine lv_istore_n (lv' := [(2, .int 0), (0, .ref h0), (1, .int 1)]) hx hb dJx4a65c_grow_92f84_5 rfl hl (by decide) rfl (fun ls hl => ?_)
  refine lv_iload_n hx hb dJx4a65c_grow_92f84_6 rfl (lv_at hl 0 rfl) ?_
  refine lv_if_gt (tgt := 20) hx hb dJx4a65c_grow_92f84_7 (by decide) (fun c1 => absurd c1 (by decide)) (fun c1 => ?_)
  refine lv_aload_n hx hb dJx4a65c_grow_92f84_10 rfl (lv_at hl 1 rfl) ?_
  refine fg_Jx4a65c_9 hx hb hts hown hK hM ha dJx4a65c_grow_92f84_11 ?_
  refine va_gets hx hb hK.2.2.2.2.1 hM.2.1 hown (hts _ wf_Jx4a65c_39) (fun _ h => h) dJx4a65c_grow_92f84_14 ?_
  refine lv_acmp_eq (rx := some (G.2.2 1)) (ry := some (G.2.2 1)) (tgt := 45) hx hb dJx4a65c_grow_92f84_17 (by decide) (fun c2 => ?_) (fun c2 => absurd rfl c2)
  refine lv_aload_n hx hb dJx4a65c_grow_92f84_45 rfl (lv_at hl 1 rfl) ?_
  refine lv_bipush (v := 10) hx hb dJx4a65c_grow_92f84_46 (by decide) ?_
  refine lv_iload_n hx hb dJx4a65c_grow_92f84_48 rfl (lv_at hl 2 rfl) ?_
  refine va_mmax hx hb (hml.trans hl.1.symm) hown (hts _ wm_Jx4a65c_79) (hts _ wt_mmax) (hts _ wn_java_lang_Math) (hts _ wc_mmax) (Nat.le_of_ble_eq_true rfl) (Nat.le_of_ble_eq_true rfl) (Nat.zero_le _) (Nat.zero_le _) dJx4a65c_grow_92f84_49 ?_
  refine g_newq hx hb hts hown hK hM wk_Jx4a65c_7 (N' := 10) (by decide) (by decide) (by decide) r0 (Nat.le_of_ble_eq_true rfl) (Nat.le_of_ble_eq_true rfl) dJx4a65c_grow_92f84_52 (fun q H hqn hM => ?_)
  refine lv_dup_x1 hx hb dJx4a65c_grow_92f84_55 rfl rfl ?_
  have hne : h0 ≠ q := hu_ne ha hqn (by simp)
  refine fp_Jx4a65c_9 hx hb hts hown hK hM (hu_n hne ha) dJx4a65c_grow_92f84_56 (fun H locs hM => ?_)
  exact g_qret (v := some q) hx hb hr (Or.inr ⟨_, rfl⟩) hlocks hM (Nat.le_of_ble_eq_true rfl) (Nat.le_of_ble_eq_true rfl) ⟨q, rfl, hqn, rfl⟩ dJx4a65c_grow_92f84_59
set_option maxHeartbeats 4000000 in
set_option maxRecDepth 100000 in
theorem c_grow0 (l : Launch) (G : GG) (M : HM) (h0 r0 : Nat) (a0 : Int32) (ha : M h0 = some (r0, lsE a0 (G.2.2 1) 0)) : Mq l yJx4a65c_grow_d5877 (.code yJx4a65c_grow_d5877 cJx4a65c_grow_d5877 1 (some (.array (.object "java/lang/Object"))) :: AL) 2 44 1 10 [.ref h0] G M (fun r M' => ∃ q, r = some q ∧ M q = none ∧ M' = hu (hu M q r0 (qarr G 10 (fun _ => none))) h0 r0 (lsE a0 q 0)) := by
  refine Mq.go (by decide) (Nat.le_of_ble_eq_true rfl) ?_
  intro p e s m below meth c ls hx hb hr hml hown hlocks hname hts hK hM hl
  have hown : s.vm.findClass RJx4a65c = some m.cls := hown
  have hl : lv_has ls 1 [(0, .ref h0)] := hl
  refine lv_aload_n hx hb dJx4a65c_grow_d5877_0 rfl (lv_at hl 0 rfl) ?_
  refine lv_aload_n hx hb dJx4a65c_grow_d5877_1 rfl (lv_at hl 0 rfl) ?_
  refine fg_Jx4a65c_48 hx hb hts hown hK hM ha dJx4a65c_grow_d5877_2 ?_
  refine lv_iconst (v := 1) hx hb dJx4a65c_grow_d5877_5 (by decide) ?_
  refine lv_iadd hx hb dJx4a65c_grow_d5877_6 ?_
  rw [show (0 : Int32) + 1 = 1 from by decide]
  refine g_callVq (n9 := 1) (As := [.int 1]) (rest := []) hx hb hml hl.1 hown hts hK hM (c_growI0 l G _ h0 r0 a0 0 ha) wm_Jx4a65c_69 wi_Jx4a65c_grow_92f84 wl_Jx4a65c_grow_92f84 wn_Jx4a65c wc_Jx4a65c_grow_92f84 (by decide +kernel) (hM.recv hK (ci := 0) rfl ha) ⟨Nat.le_of_ble_eq_true rfl, Nat.le_of_ble_eq_true rfl⟩ ⟨Nat.le_of_ble_eq_true rfl, Nat.le_of_ble_eq_true rfl⟩ rfl (Nat.le_of_ble_eq_true rfl) rfl dJx4a65c_grow_d5877_7 (fun r M1 H locs hq hM => ?_)
  obtain ⟨q, hq1, hq2, hq3⟩ := hq
  subst hq1 hq3
  exact g_qret (v := some q) hx hb hr (Or.inr ⟨_, rfl⟩) hlocks hM (Nat.le_of_ble_eq_true rfl) (Nat.le_of_ble_eq_true rfl) ⟨q, rfl, hq2, rfl⟩ dJx4a65c_grow_d5877_10
set_option maxHeartbeats 4000000 in
set_option maxRecDepth 100000 in
/-- newLength(n, 1, n / 2) -/
theorem c_newLength (l : Launch) (G : GG) (M : HM) (n : Nat) (h2 : 2 ≤ n) (hn : n ≤ 40000) : Mi l yJ8_newLength_cabcc (.code yJ8_newLength_cabcc cJ8_newLength_cabcc 4 (some .int) :: AL) 1 21 0 0 [.int (nI n), .int 1, .int (nI (n / 2))] G M (fun r M' => r = nI (n + n / 2) ∧ M' = M) := by
  refine Mi.go (by decide) (Nat.le_of_ble_eq_true rfl) ?_
  intro p e s m below meth c ls hx hb hr hml hown hlocks hname hts hK hM hl
  have hown : s.vm.findClass RJ8 = some m.cls := hown
  have hl : lv_has ls 4 [(0, .int (nI n)), (1, .int 1), (2, .int (nI (n / 2)))] := hl
  refine lv_iload_n hx hb dJ8_newLength_cabcc_0 rfl (lv_at hl 0 rfl) ?_
  refine lv_iload_n hx hb dJ8_newLength_cabcc_1 rfl (lv_at hl 1 rfl) ?_
  refine lv_iload_n hx hb dJ8_newLength_cabcc_2 rfl (lv_at hl 2 rfl) ?_
  refine va_mmax hx hb (hml.trans hl.1.symm) hown (hts _ wm_J8_194) (hts _ wt_mmax) (hts _ wn_java_lang_Math) (hts _ wc_mmax) (Nat.le_of_ble_eq_true rfl) (Nat.le_of_ble_eq_true rfl) (Nat.zero_le _) (Nat.zero_le _) dJ8_newLength_cabcc_3 ?_
  refine lv_iadd hx hb dJ8_newLength_cabcc_6 ?_
  have e1 : nI n + (if (1 : Int32) < nI (n / 2) then nI (n / 2) else 1) = nI (n + n / 2) := by
    by_cases c : 1 < n / 2
    · rw [if_pos (show (1 : Int32) < nI (n / 2) from nI_lt (a := 1) c (by omega))]
      exact nI_add n (n / 2)
    · rw [if_neg (show ¬ (1 : Int32) < nI (n / 2) from nI_nlt (b := n / 2) (a := 1) (by omega) (by decide))]
      rw [show n / 2 = 1 by omega]
      exact nI_add n 1
  rw [e1]
  refine lv_istore_n (lv' := [(3, .int (nI (n + n / 2))), (0, .int (nI n)), (1, .int 1), (2, .int (nI (n / 2)))]) hx hb dJ8_newLength_cabcc_7 rfl hl (by decide) rfl (fun ls hl => ?_)
  refine lv_iconst (v := 0) hx hb dJ8_newLength_cabcc_8 (by decide) ?_
  refine lv_iload_n hx hb dJ8_newLength_cabcc_9 rfl (lv_at hl 0 rfl) ?_
  refine lv_icmp_ge (tgt := 21) hx hb dJ8_newLength_cabcc_10 (by decide) (fun c1 => absurd c1 (nI_nle (by omega) (by omega))) (fun c1 => ?_)
  refine lv_iload_n hx hb dJ8_newLength_cabcc_13 rfl (lv_at hl 0 rfl) ?_
  refine lv_ldc hx hb hown (hts _ wq_J8_200) dJ8_newLength_cabcc_14 ?_
  refine lv_icmp_gt (tgt := 21) hx hb dJ8_newLength_cabcc_16 (by decide) (fun c2 => absurd c2 (show ¬ nI 2147483639 < nI (n + n / 2) from nI_nlt (by omega) (by decide))) (fun c2 => ?_)
  refine lv_iload_n hx hb dJ8_newLength_cabcc_19 rfl (lv_at hl 0 rfl) ?_
  exact g_iret hx hb hr hlocks hM (Nat.zero_le _) (Nat.zero_le _) ⟨rfl, rfl⟩ dJ8_newLength_cabcc_20
set_option maxHeartbeats 4000000 in
set_option maxRecDepth 100000 in
/-- copyOf(a, k, Object[].class), k no less than the length -/
theorem c_copyOf3 (l : Launch) (G : GG) (M : HM) (h0 r0 n k : Nat) (g : Nat → Option Nat) (ha : M h0 = some (r0, qarr G n g)) (hnk : n ≤ k) (hk : k ≤ 100000) (hel : ∀ i : Nat, i < n → ∀ y : Nat, g i = some y → ∃ rv en, M y = some (rv, en) ∧ okv G en) : Mq l yJ7_copyOf_6403c (.code yJ7_copyOf_6403c cJ7_copyOf_6403c 4 (some (.array (.object "java/lang/Object"))) :: AL) 1 40 1 k [.ref h0, .int (nI k), .ref (G.2.2 2)] G M (fun r M' => ∃ q, r = some q ∧ M q = none ∧ M' = hu M q r0 (qarr G k (va_cpy g (fun _ => none) 0 0 n))) := by
  refine Mq.go (by decide) (Nat.le_of_ble_eq_true rfl) ?_
  intro p e s m below meth c ls hx hb hr hml hown hlocks hname hts hK hM hl
  have hown : s.vm.findClass RJ7 = some m.cls := hown
  have hl : lv_has ls 4 [(0, .ref h0), (1, .int (nI k)), (2, .ref (G.2.2 2))] := hl
  refine lv_aload_n hx hb dJ7_copyOf_6403c_0 rfl (lv_at hl 2 rfl) ?_
  refine va_ldcM hx hb hown (hts _ wk_J7_110) hK.2.2.2.2.2.2.1 dJ7_copyOf_6403c_1 ?_
  refine lv_acmp_ne (rx := some (G.2.2 2)) (ry := some (G.2.2 2)) (tgt := 13) hx hb dJ7_copyOf_6403c_3 (by decide) (fun c2 => absurd rfl c2) (fun c2 => ?_)
  refine lv_iload_n hx hb dJ7_copyOf_6403c_6 rfl (lv_at hl 1 rfl) ?_
  refine g_newq hx hb hts hown hK hM wk_J7_2 (N' := k) (nI_pos (by omega)) (nI_clamp (by omega)) (by omega) r0 (Nat.le_of_ble_eq_true rfl) (by show 0 + k ≤ k; omega) dJ7_copyOf_6403c_7 (fun q H hqn hM => ?_)
  refine lv_goto (tgt := 24) hx hb dJ7_copyOf_6403c_10 (by decide) ?_
  refine lv_astore_n (lv' := [(3, .ref q), (0, .ref h0), (1, .int (nI k)), (2, .ref (G.2.2 2))]) hx hb dJ7_copyOf_6403c_24 rfl hl (by decide) rfl (fun ls hl => ?_)
  have hne : h0 ≠ q := hu_ne ha hqn (by simp)
  refine lv_aload_n hx hb dJ7_copyOf_6403c_25 rfl (lv_at hl 1 rfl) ?_
  refine lv_iconst (v := 0) hx hb dJ7_copyOf_6403c_26 (by decide) ?_
  refine lv_aload_n hx hb dJ7_copyOf_6403c_27 rfl (lv_at hl 0 rfl) ?_
  refine lv_iconst (v := 0) hx hb dJ7_copyOf_6403c_28 (by decide) ?_
  refine lv_aload_n hx hb dJ7_copyOf_6403c_29 rfl (lv_at hl 1 rfl) ?_
  refine g_alen hx hb hK hM (hu_n hne ha) (j := 2) rfl rfl dJ7_copyOf_6403c_30 ?_
  refine lv_iload_n hx hb dJ7_copyOf_6403c_31 rfl (lv_at hl 2 rfl) ?_
  refine va_mmin hx hb (hml.trans hl.1.symm) hown (hts _ wm_J7_304) (hts _ wt_mmin) (hts _ wn_java_lang_Math) (hts _ wc_mmin) (Nat.le_of_ble_eq_true rfl) (Nat.le_of_ble_eq_true rfl) (Nat.le_of_ble_eq_true rfl) (by show 0 + k ≤ k; omega) dJ7_copyOf_6403c_32 ?_
  have ei : (if nI k < Int32.ofNat n then nI k else Int32.ofNat n) = nI n := if_neg (nI_nlt hnk (by omega))
  rw [ei]
  have ec : (nI n).toNatClampNeg = n := nI_clamp (by omega)
  refine g_copyq hx hb (hml.trans hl.1.symm) hts hown hK hM wm_J7_150 (f := g) (g := fun _ => none) (hu_n hne ha) hu_s (by decide) (by decide) (nI_pos (by omega)) (by rw [ec]; show 0 + n ≤ n; omega) (by rw [ec]; show 0 + n ≤ k; omega) (fun i hi y hy => by
    rw [ec] at hi
    obtain ⟨rv, en, h1, h2⟩ := hel i hi y (by rw [show (0 : Int32).toNatClampNeg = 0 from by decide, Nat.zero_add] at hy; exact hy)
    exact ⟨rv, en, hu_n (hu_ne h1 hqn (by simp)) h1, h2⟩) (Nat.le_of_ble_eq_true rfl) (Nat.le_of_ble_eq_true rfl) dJ7_copyOf_6403c_35 (fun H locs hM => ?_)
  rw [ec, show (0 : Int32).toNatClampNeg = 0 from by decide, hu_u] at hM
  refine lv_aload_n hx hb dJ7_copyOf_6403c_38 rfl (lv_at hl 0 rfl) ?_
  exact g_qret (v := some q) hx hb hr (Or.inr ⟨_, rfl⟩) hlocks hM (Nat.le_of_ble_eq_true rfl) (by show 0 + k ≤ k; omega) ⟨q, rfl, hqn, rfl⟩ dJ7_copyOf_6403c_39
set_option maxHeartbeats 4000000 in
set_option maxRecDepth 100000 in
theorem c_copyOf2 (l : Launch) (G : GG) (M : HM) (h0 r0 n k : Nat) (g : Nat → Option Nat) (ha : M h0 = some (r0, qarr G n g)) (hnk : n ≤ k) (hk : k ≤ 100000) (hel : ∀ i : Nat, i < n → ∀ y : Nat, g i = some y → ∃ rv en, M y = some (rv, en) ∧ okv G en) : Mq l yJ7_copyOf_1904c (.code yJ7_copyOf_1904c cJ7_copyOf_1904c 2 (some (.array (.object "java/lang/Object"))) :: AL) 2 63 1 k [.ref h0, .int (nI k)] G M (fun r M' => ∃ q, r = some q ∧ M q = none ∧ M' = hu M q r0 (qarr G k (va_cpy g (fun _ => none) 0 0 n))) := by
  refine Mq.go (by decide) (Nat.le_of_ble_eq_true rfl) ?_
  intro p e s m below meth c ls hx hb hr hml hown hlocks hname hts hK hM hl
  have hown : s.vm.findClass RJ7 = some m.cls := hown
  have hl : lv_has ls 2 [(0, .ref h0), (1, .int (nI k))] := hl
  refine lv_aload_n hx hb dJ7_copyOf_1904c_0 rfl (lv_at hl 0 rfl) ?_
  refine lv_iload_n hx hb dJ7_copyOf_1904c_1 rfl (lv_at hl 1 rfl) ?_
  refine lv_aload_n hx hb dJ7_copyOf_1904c_2 rfl (lv_at hl 0 rfl) ?_
  obtain ⟨ws, hP, hD, hw⟩ := id hM.1
  obtain ⟨k0, hk0⟩ := hw _ _ _ ha
  have hcell := hP k0 _ hk0
  refine va_getC hx hb (hml.trans hl.1.symm) hown (hts _ wm_J7_86) (va_Dc.use hK.2.2.2.2.2.2.2) (hts _ wl_getClass_on_arr) (hts _ wi_getClass) (hts _ wv_getClass) hK.2.2.2.2.2.2.1 ⟨_, hcell, rfl, by
    obtain ⟨_, _, _, _, _, h4⟩ := (hK.1.2 2 _ rfl).2
    exact h4⟩ (Nat.le_of_ble_eq_true rfl) (Nat.le_of_ble_eq_true rfl) dJ7_copyOf_1904c_3 ?_
  refine g_callSq (n9 := 3) (As := [.ref h0, .int (nI k), .ref (G.2.2 2)]) (rest := []) hx hb hml hl.1 hown hts hK hM (c_copyOf3 l G _ h0 r0 n k g ha hnk hk hel) wm_J7_300 wt_J7_copyOf_6403c wn_J7 wc_J7_copyOf_6403c (by decide +kernel) ⟨Nat.le_of_ble_eq_true rfl, Nat.le_of_ble_eq_true rfl⟩ ⟨Nat.le_of_ble_eq_true rfl, by show 0 + k ≤ k; omega⟩ rfl (Nat.le_of_ble_eq_true rfl) rfl dJ7_copyOf_1904c_6 (fun r M1 H locs hq hM => ?_)
  obtain ⟨q, hq1, hq2, hq3⟩ := hq
  subst hq1 hq3
  exact g_qret (v := some q) hx hb hr (Or.inr ⟨_, rfl⟩) hlocks hM (Nat.le_of_ble_eq_true rfl) (by show 0 + k ≤ k; omega) ⟨q, rfl, hq2, rfl⟩ dJ7_copyOf_1904c_9
set_option maxHeartbeats 4000000 in
set_option maxRecDepth 100000 in
/-- grow(n + 1) of a full list -/
theorem c_growIN (l : Launch) (G : GG) (M : HM) (h0 r0 q0 r1 n : Nat) (g : Nat → Option Nat) (a0 a2 : Int32) (ha : M h0 = some (r0, lsE a0 q0 a2)) (hq : M q0 = some (r1, qarr G n g)) (h2 : 2 ≤ n) (hn : n ≤ 40000) (hel : ∀ i : Nat, i < n → ∀ y : Nat, g i = some y → ∃ rv en, M y = some (rv, en) ∧ okv G en) : Mq l yJx4a65c_grow_92f84 (.code yJx4a65c_grow_92f84 cJx4a65c_grow_92f84 4 (some (.array (.object "java/lang/Object"))) :: AL) 3 84 1 (n + n / 2) [.ref h0, .int (nI (n + 1))] G M (fun r M' => ∃ q, r = some q ∧ M q = none ∧ M' = hu (hu M q r1 (qarr G (n + n / 2) (va_cpy g (fun _ => none) 0 0 n))) h0 r0 (lsE a0 q a2)) := by
  refine Mq.go (by decide) (Nat.le_of_ble_eq_true rfl) ?_
  intro p e s m below meth c ls hx hb hr hml hown hlocks hname hts hK hM hl
  have hown : s.vm.findClass RJx4a65c = some m.cls := hown
  have hl : lv_has ls 4 [(0, .ref h0), (1, .int (nI (n + 1)))] := hl
  refine lv_aload_n hx hb dJx4a65c_grow_92f84_0 rfl (lv_at hl 0 rfl) ?_
  refine fg_Jx4a65c_9 hx hb hts hown hK hM ha dJx4a65c_grow_92f84_1 ?_
  refine g_alen hx hb hK hM hq (j := 2) (v := nI n) rfl rfl dJx4a65c_grow_92f84_4 ?_
  refine lv_istore_n (lv' := [(2, .int (nI n)), (0, .ref h0), (1, .int (nI (n + 1)))]) hx hb dJx4a65c_grow_92f84_5 rfl hl (by decide) rfl (fun ls hl => ?_)
  refine lv_iload_n hx hb dJx4a65c_grow_92f84_6 rfl (lv_at hl 0 rfl) ?_
  refine lv_if_gt (tgt := 20) hx hb dJx4a65c_grow_92f84_7 (by decide) (fun c1 => ?_) (fun c1 => absurd (show nI 0 < nI n from nI_lt (by omega) (by omega)) c1)
  refine lv_iload_n hx hb dJx4a65c_grow_92f84_20 rfl (lv_at hl 0 rfl) ?_
  refine lv_iload_n hx hb dJx4a65c_grow_92f84_21 rfl (lv_at hl 2 rfl) ?_
  refine lv_iload_n hx hb dJx4a65c_grow_92f84_22 rfl (lv_at hl 0 rfl) ?_
  refine lv_isub hx hb dJx4a65c_grow_92f84_23 ?_
  refine lv_iload_n hx hb dJx4a65c_grow_92f84_24 rfl (lv_at hl 0 rfl) ?_
  refine lv_iconst (v := 1) hx hb dJx4a65c_grow_92f84_25 (by decide) ?_
  refine lv_ishr hx hb dJx4a65c_grow_92f84_26 ?_
  have es : nI n >>> ((1 : Int32) &&& 31) = nI (n / 2) := by
    have k := pk_shrN (n := n) (by omega) ((1 : Int32) &&& 31) 1 (by decide)
    rw [Nat.pow_one] at k
    exact k
  have ed : nI (n + 1) - nI n = 1 := by
    have k := pk_sub (a := n + 1) (b := n) (by omega)
    rw [Nat.add_sub_cancel_left] at k
    exact k
  rw [es, ed]
  refine g_callSi (n9 := 3) (As := [.int (nI n), .int 1, .int (nI (n / 2))]) (rest := []) hx hb hml hl.1 hown hts hK hM (c_newLength l G _ n h2 hn) wm_Jx4a65c_73 wt_J8_newLength_cabcc wn_J8 wc_J8_newLength_cabcc (by decide +kernel) ⟨Nat.le_of_ble_eq_true rfl, Nat.le_of_ble_eq_true rfl⟩ ⟨Nat.le_of_ble_eq_true rfl, Nat.zero_le _⟩ rfl (Nat.le_of_ble_eq_true rfl) rfl dJx4a65c_grow_92f84_27 (fun r M1 H locs hq9 hM => ?_)
  have hq1 := hq9.1.symm
  have hq2 := hq9.2.symm
  subst hq1 hq2
  refine lv_istore_n (lv' := [(3, .int (nI (n + n / 2))), (2, .int (nI n)), (0, .ref h0), (1, .int (nI (n + 1)))]) hx hb dJx4a65c_grow_92f84_30 rfl hl (by decide) rfl (fun ls hl => ?_)
  refine lv_aload_n hx hb dJx4a65c_grow_92f84_31 rfl (lv_at hl 2 rfl) ?_
  refine lv_aload_n hx hb dJx4a65c_grow_92f84_32 rfl (lv_at hl 2 rfl) ?_
  refine fg_Jx4a65c_9 hx hb hts hown hK hM ha dJx4a65c_grow_92f84_33 ?_
  refine lv_iload_n hx hb dJx4a65c_grow_92f84_36 rfl (lv_at hl 0 rfl) ?_
  refine g_callSq (n9 := 2) (As := [.ref q0, .int (nI (n + n / 2))]) (rest := [.ref h0]) hx hb hml hl.1 hown hts hK hM (c_copyOf2 l G _ q0 r1 n (n + n / 2) g hq (by omega) (by omega) hel) wm_Jx4a65c_66 wt_J7_copyOf_1904c wn_J7 wc_J7_copyOf_1904c (by decide +kernel) ⟨Nat.le_of_ble_eq_true rfl, Nat.le_of_ble_eq_true rfl⟩ ⟨Nat.le_of_ble_eq_true rfl, by show 0 + 0 + (n + n / 2) ≤ n + n / 2; omega⟩ rfl (Nat.le_of_ble_eq_true rfl) rfl dJx4a65c_grow_92f84_37 (fun r M1 H locs hq9 hM => ?_)
  obtain ⟨q, hq1, hq2, hq3⟩ := hq9
  subst hq1 hq3
  refine lv_dup_x1 hx hb dJx4a65c_grow_92f84_40 rfl rfl ?_
  have hne : h0 ≠ q := hu_ne ha hq2 (by simp)
  refine fp_Jx4a65c_9 hx hb hts hown hK hM (hu_n hne ha) dJx4a65c_grow_92f84_41 (fun H locs hM => ?_)
  exact g_qret (v := some q) hx hb hr (Or.inr ⟨_, rfl⟩) hlocks hM (Nat.le_of_ble_eq_true rfl) (by show 0 + 0 + (n + n / 2) ≤ n + n / 2; omega) ⟨q, rfl, hq2, rfl⟩ dJx4a65c_grow_92f84_44
set_option maxHeartbeats 4000000 in
set_option maxRecDepth 100000 in
theorem c_growN (l : Launch) (G : GG) (M : HM) (h0 r0 q0 r1 n : Nat) (g : Nat → Option Nat) (a0 : Int32) (ha : M h0 = some (r0, lsE a0 q0 (nI n))) (hq : M q0 = some (r1, qarr G n g)) (h2 : 2 ≤ n) (hn : n ≤ 40000) (hel : ∀ i : Nat, i < n → ∀ y : Nat, g i = some y → ∃ rv en, M y = some (rv, en) ∧ okv G en) : Mq l yJx4a65c_grow_d5877 (.code yJx4a65c_grow_d5877 cJx4a65c_grow_d5877 1 (some (.array (.object "java/lang/Object"))) :: AL) 4 107 1 (n + n / 2) [.ref h0] G M (fun r M' => ∃ q, r = some q ∧ M q = none ∧ M' = hu (hu M q r1 (qarr G (n + n / 2) (va_cpy g (fun _ => none) 0 0 n))) h0 r0 (lsE a0 q (nI n))) := by
  refine Mq.go (by decide) (Nat.le_of_ble_eq_true rfl) ?_
  intro p e s m below meth c ls hx hb hr hml hown hlocks hname hts hK hM hl
  have hown : s.vm.findClass RJx4a65c = some m.cls := hown
  have hl : lv_has ls 1 [(0, .ref h0)] := hl
  refine lv_aload_n hx hb dJx4a65c_grow_d5877_0 rfl (lv_at hl 0 rfl) ?_
  refine lv_aload_n hx hb dJx4a65c_grow_d5877_1 rfl (lv_at hl 0 rfl) ?_
  refine fg_Jx4a65c_48 hx hb hts hown hK hM ha dJx4a65c_grow_d5877_2 ?_
  refine lv_iconst (v := 1) hx hb dJx4a65c_grow_d5877_5 (by decide) ?_
  refine lv_iadd hx hb dJx4a65c_grow_d5877_6 ?_
  rw [nI_1]
  refine g_callVq (n9 := 1) (As := [.int (nI (n + 1))]) (rest := []) hx hb hml hl.1 hown hts hK hM (c_growIN l G _ h0 r0 q0 r1 n g a0 (nI n) ha hq h2 hn hel) wm_Jx4a65c_69 wi_Jx4a65c_grow_92f84 wl_Jx4a65c_grow_92f84 wn_Jx4a65c wc_Jx4a65c_grow_92f84 (by decide +kernel) (hM.recv hK (ci := 0) rfl ha) ⟨Nat.le_of_ble_eq_true rfl, Nat.le_of_ble_eq_true rfl⟩ ⟨Nat.le_of_ble_eq_true rfl, by show 0 + (n + n / 2) ≤ n + n / 2; omega⟩ rfl (Nat.le_of_ble_eq_true rfl) rfl dJx4a65c_grow_d5877_7 (fun r M1 H locs hq9 hM => ?_)
  obtain ⟨q, hq1, hq2, hq3⟩ := hq9
  subst hq1 hq3
  exact g_qret (v := some q) hx hb hr (Or.inr ⟨_, rfl⟩) hlocks hM (Nat.le_of_ble_eq_true rfl) (by show 0 + (n + n / 2) ≤ n + n / 2; omega) ⟨q, rfl, hq2, rfl⟩ dJx4a65c_grow_d5877_10
set_option maxHeartbeats 4000000 in
set_option maxRecDepth 100000 in
/-- add(v, a, n) where there is room -/
theorem c_add3A (l : Launch) (G : GG) (M : HM) (h0 r0 q0 r1 v rv n cap : Nat) (en : va_E) (g : Nat → Option Nat) (a0 a2 : Int32) (ha : M h0 = some (r0, lsE a0 q0 a2)) (hq : M q0 = some (r1, qarr G cap g)) (hv : M v = some (rv, en)) (hok : okv G en) (hn : n < cap) (hc : cap < 2 ^ 31) : Mv l yJx4a65c_add_72be8 (.code yJx4a65c_add_72be8 cJx4a65c_add_72be8 4 none :: AL) 0 0 0 0 [.ref h0, .ref v, .ref q0, .int (nI n)] G M (fun M' => M' = hu (hu M q0 r1 (qarr G cap (va_up g n (some v)))) h0 r0 (lsE a0 q0 (nI (n + 1)))) := by
  refine Mv.go (by decide) (Nat.le_of_ble_eq_true rfl) ?_
  intro p e s m below meth c ls hx hb hr hml hown hlocks hname hts hK hM hl
  have hown : s.vm.findClass RJx4a65c = some m.cls := hown
  have hl : lv_has ls 4 [(0, .ref h0), (1, .ref v), (2, .ref q0), (3, .int (nI n))] := hl
  have hne : h0 ≠ q0 := hu_ne ha hq (by simp)
  refine lv_iload_n hx hb dJx4a65c_add_72be8_0 rfl (lv_at hl 3 rfl) ?_
  refine lv_aload_n hx hb dJx4a65c_add_72be8_1 rfl (lv_at hl 2 rfl) ?_
  refine g_alen hx hb hK hM hq (j := 2) (v := nI cap) rfl rfl dJx4a65c_add_72be8_2 ?_
  refine lv_icmp_ne (tgt := 11) hx hb dJx4a65c_add_72be8_3 (by decide) (fun c1 => ?_) (fun c1 => absurd ((nI_eq (by omega) hc).mp c1) (by omega))
  refine lv_aload_n hx hb dJx4a65c_add_72be8_11 rfl (lv_at hl 2 rfl) ?_
  refine lv_iload_n hx hb dJx4a65c_add_72be8_12 rfl (lv_at hl 3 rfl) ?_
  refine lv_aload_n hx hb dJx4a65c_add_72be8_13 rfl (lv_at hl 1 rfl) ?_
  refine g_aast hx hb hK hM hq (va_any_of hK hM hv hok) (vp_in_nI hn hc) dJx4a65c_add_72be8_14 (fun H locs hM => ?_)
  rw [nI_clamp (by omega)] at hM
  refine lv_aload_n hx hb dJx4a65c_add_72be8_15 rfl (lv_at hl 0 rfl) ?_
  refine lv_iload_n hx hb dJx4a65c_add_72be8_16 rfl (lv_at hl 3 rfl) ?_
  refine lv_iconst (v := 1) hx hb dJx4a65c_add_72be8_17 (by decide) ?_
  refine lv_iadd hx hb dJx4a65c_add_72be8_18 ?_
  rw [nI_1]
  refine fp_Jx4a65c_48 hx hb hts hown hK hM (hu_n hne ha) dJx4a65c_add_72be8_19 (fun H locs hM => ?_)
  exact g_vret hx hb hr hlocks hM (Nat.zero_le _) (Nat.zero_le _) rfl dJx4a65c_add_72be8_22
set_option maxHeartbeats 4000000 in
set_option maxRecDepth 100000 in
/-- .. of a list that was never added to -/
theorem c_add3B (l : Launch) (G : GG) (M : HM) (h0 r0 v rv : Nat) (en : va_E) (a0 : Int32) (ha : M h0 = some (r0, lsE a0 (G.2.2 1) 0)) (hv : M v = some (rv, en)) (hok : okv G en) : Mv l yJx4a65c_add_72be8 (.code yJx4a65c_add_72be8 cJx4a65c_add_72be8 4 none :: AL) 3 64 1 10 [.ref h0, .ref v, .ref (G.2.2 1), .int 0] G M (fun M' => ∃ q, M q = none ∧ M' = hu (hu M q r0 (qarr G 10 (va_up (fun _ => none) 0 (some v)))) h0 r0 (lsE a0 q (nI 1))) := by
  refine Mv.go (by decide) (Nat.le_of_ble_eq_true rfl) ?_
  intro p e s m below meth c ls hx hb hr hml hown hlocks hname hts hK hM hl
  have hown : s.vm.findClass RJx4a65c = some m.cls := hown
  have hl : lv_has ls 4 [(0, .ref h0), (1, .ref v), (2, .ref (G.2.2 1)), (3, .int 0)] := hl
  obtain ⟨fv, hT⟩ := hK.2.2.2.2.2.1
  refine lv_iload_n hx hb dJx4a65c_add_72be8_0 rfl (lv_at hl 3 rfl) ?_
  refine lv_aload_n hx hb dJx4a65c_add_72be8_1 rfl (lv_at hl 2 rfl) ?_
  refine va_tlen hx hb hT hM.2.1 (v := 0) rfl dJx4a65c_add_72be8_2 ?_
  refine lv_icmp_ne (tgt := 11) hx hb dJx4a65c_add_72be8_3 (by decide) (fun c1 => absurd rfl c1) (fun c1 => ?_)
  refine lv_aload_n hx hb dJx4a65c_add_72be8_6 rfl (lv_at hl 0 rfl) ?_
  refine g_callVq (n9 := 0) (As := []) (rest := []) hx hb hml hl.1 hown hts hK hM (c_grow0 l G _ h0 r0 a0 ha) wm_Jx4a65c_129 wi_Jx4a65c_grow_d5877 wl_Jx4a65c_grow_d5877 wn_Jx4a65c wc_Jx4a65c_grow_d5877 (by decide +kernel) (hM.recv hK (ci := 0) rfl ha) ⟨Nat.le_of_ble_eq_true rfl, Nat.le_of_ble_eq_true rfl⟩ ⟨Nat.le_of_ble_eq_true rfl, Nat.le_of_ble_eq_true rfl⟩ rfl (Nat.le_of_ble_eq_true rfl) rfl dJx4a65c_add_72be8_7 (fun r M1 H locs hq9 hM => ?_)
  obtain ⟨q, hq1, hqn, hq3⟩ := hq9
  subst hq1 hq3
  have hne : h0 ≠ q := hu_ne ha hqn (by simp)
  have hvq : v ≠ q := hu_ne hv hqn (by simp)
  have hqh : q ≠ h0 := Ne.symm hne
  refine lv_astore_n (lv' := [(2, .ref q), (0, .ref h0), (1, .ref v), (3, .int 0)]) hx hb dJx4a65c_add_72be8_10 rfl hl (by decide) rfl (fun ls hl => ?_)
  refine lv_aload_n hx hb dJx4a65c_add_72be8_11 rfl (lv_at hl 0 rfl) ?_
  refine lv_iload_n hx hb dJx4a65c_add_72be8_12 rfl (lv_at hl 3 rfl) ?_
  refine lv_aload_n hx hb dJx4a65c_add_72be8_13 rfl (lv_at hl 2 rfl) ?_
  have hvx : ∃ rv en, hu (hu M q r0 (qarr G 10 (fun _ => none))) h0 r0 (lsE a0 q 0) v = some (rv, en) ∧ okv G en := by
    by_cases h : v = h0
    · subst h
      exfalso
      rw [ha] at hv
      cases hv
      rcases hok with ⟨ci, fs, h1, h2⟩ | ⟨n, f, h1⟩
      · cases h1
        rcases h2 with h2 | h2 | h2 | h2 | h2 <;> cases h2
      · cases h1
    · exact ⟨rv, en, hu_n h (hu_n hvq hv), hok⟩
  obtain ⟨rv2, en2, hv2, hok2⟩ := hvx
  refine g_aast hx hb hK hM (hu_n hqh hu_s) (va_any_of hK hM hv2 hok2) (i := 0) (by unfold vp_in; decide) dJx4a65c_add_72be8_14 (fun H locs hM => ?_)
  rw [show (0 : Int32).toNatClampNeg = 0 from by decide] at hM
  replace hM := hM.eq (hu_2 hne)
  refine lv_aload_n hx hb dJx4a65c_add_72be8_15 rfl (lv_at hl 1 rfl) ?_
  refine lv_iload_n hx hb dJx4a65c_add_72be8_16 rfl (lv_at hl 3 rfl) ?_
  refine lv_iconst (v := 1) hx hb dJx4a65c_add_72be8_17 (by decide) ?_
  refine lv_iadd hx hb dJx4a65c_add_72be8_18 ?_
  rw [show (0 : Int32) + 1 = nI 1 from by decide]
  refine fp_Jx4a65c_48 hx hb hts hown hK hM hu_s dJx4a65c_add_72be8_19 (fun H locs hM => ?_)
  replace hM := hM.eq (hu_u _ _ _ _ _ _)
  exact g_vret hx hb hr hlocks hM (Nat.le_of_ble_eq_true rfl) (Nat.le_of_ble_eq_true rfl) ⟨q, hqn, rfl⟩ dJx4a65c_add_72be8_22
set_option maxHeartbeats 4000000 in
set_option maxRecDepth 100000 in
/-- .. of a full one -/
theorem c_add3N (l : Launch) (G : GG) (M : HM) (h0 r0 q0 r1 v rv n : Nat) (en : va_E) (g : Nat → Option Nat) (a0 : Int32) (ha : M h0 = some (r0, lsE a0 q0 (nI n))) (hq : M q0 = some (r1, qarr G n g)) (hv : M v = some (rv, en)) (hok : okv G en) (h2 : 2 ≤ n) (hn : n ≤ 40000) (hel : ∀ i : Nat, i < n → ∀ y : Nat, g i = some y → ∃ rv en, M y = some (rv, en) ∧ okv G en) : Mv l yJx4a65c_add_72be8 (.code yJx4a65c_add_72be8 cJx4a65c_add_72be8 4 none :: AL) 5 127 1 (n + n / 2) [.ref h0, .ref v, .ref q0, .int (nI n)] G M (fun M' => ∃ q, M q = none ∧ M' = hu (hu M q r1 (qarr G (n + n / 2) (va_up (va_cpy g (fun _ => none) 0 0 n) n (some v)))) h0 r0 (lsE a0 q (nI (n + 1)))) := by
  refine Mv.go (by decide) (Nat.le_of_ble_eq_true rfl) ?_
  intro p e s m below meth c ls hx hb hr hml hown hlocks hname hts hK hM hl
  have hown : s.vm.findClass RJx4a65c = some m.cls := hown
  have hl : lv_has ls 4 [(0, .ref h0), (1, .ref v), (2, .ref q0), (3, .int (nI n))] := hl
  refine lv_iload_n hx hb dJx4a65c_add_72be8_0 rfl (lv_at hl 3 rfl) ?_
  refine lv_aload_n hx hb dJx4a65c_add_72be8_1 rfl (lv_at hl 2 rfl) ?_
  refine g_alen hx hb hK hM hq (j := 2) (v := nI n) rfl rfl dJx4a65c_add_72be8_2 ?_
  refine lv_icmp_ne (tgt := 11) hx hb dJx4a65c_add_72be8_3 (by decide) (fun c1 => absurd rfl c1) (fun c1 => ?_)
  refine lv_aload_n hx hb dJx4a65c_add_72be8_6 rfl (lv_at hl 0 rfl) ?_
  refine g_callVq (n9 := 0) (As := []) (rest := []) hx hb hml hl.1 hown hts hK hM (c_growN l G _ h0 r0 q0 r1 n g a0 ha hq h2 hn hel) wm_Jx4a65c_129 wi_Jx4a65c_grow_d5877 wl_Jx4a65c_grow_d5877 wn_Jx4a65c wc_Jx4a65c_grow_d5877 (by decide +kernel) (hM.recv hK (ci := 0) rfl ha) ⟨Nat.le_of_ble_eq_true rfl, Nat.le_of_ble_eq_true rfl⟩ ⟨Nat.le_of_ble_eq_true rfl, by show 0 + (n + n / 2) ≤ n + n / 2; omega⟩ rfl (Nat.le_of_ble_eq_true rfl) rfl dJx4a65c_add_72be8_7 (fun r M1 H locs hq9 hM => ?_)
  obtain ⟨q, hq1, hqn, hq3⟩ := hq9
  subst hq1 hq3
  have hne : h0 ≠ q := hu_ne ha hqn (by simp)
  have hvq : v ≠ q := hu_ne hv hqn (by simp)
  have hqh : q ≠ h0 := Ne.symm hne
  refine lv_astore_n (lv' := [(2, .ref q), (0, .ref h0), (1, .ref v), (3, .int (nI n))]) hx hb dJx4a65c_add_72be8_10 rfl hl (by decide) rfl (fun ls hl => ?_)
  refine lv_aload_n hx hb dJx4a65c_add_72be8_11 rfl (lv_at hl 0 rfl) ?_
  refine lv_iload_n hx hb dJx4a65c_add_72be8_12 rfl (lv_at hl 3 rfl) ?_
  refine lv_aload_n hx hb dJx4a65c_add_72be8_13 rfl (lv_at hl 2 rfl) ?_
  have hvh : v ≠ h0 := fun h => by
    subst h
    rw [ha] at hv
    cases hv
    rcases hok with ⟨ci, fs, h1, h2⟩ | ⟨n, f, h1⟩
    · cases h1
      rcases h2 with h2 | h2 | h2 | h2 | h2 <;> cases h2
    · cases h1
  refine g_aast hx hb hK hM (hu_n hqh hu_s) (va_any_of hK hM (hu_n hvh (hu_n hvq hv)) hok) (vp_in_nI (show n < n + n / 2 by omega) (by omega)) dJx4a65c_add_72be8_14 (fun H locs hM => ?_)
  rw [nI_clamp (by omega)] at hM
  replace hM := hM.eq (hu_2 hne)
  refine lv_aload_n hx hb dJx4a65c_add_72be8_15 rfl (lv_at hl 1 rfl) ?_
  refine lv_iload_n hx hb dJx4a65c_add_72be8_16 rfl (lv_at hl 3 rfl) ?_
  refine lv_iconst (v := 1) hx hb dJx4a65c_add_72be8_17 (by decide) ?_
  refine lv_iadd hx hb dJx4a65c_add_72be8_18 ?_
  rw [nI_1]
  refine fp_Jx4a65c_48 hx hb hts hown hK hM hu_s dJx4a65c_add_72be8_19 (fun H locs hM => ?_)
  replace hM := hM.eq (hu_u _ _ _ _ _ _)
  exact g_vret hx hb hr hlocks hM (Nat.le_of_ble_eq_true rfl) (by show 0 + (n + n / 2) ≤ n + n / 2; omega) ⟨q, hqn, rfl⟩ dJx4a65c_add_72be8_22
theorem okv_ne {G : GG} {M : HM} {v h0 rv r0 ar : Nat} {en : va_E} {mc n : Int32} (hv : M v = some (rv, en)) (hok : okv G en) (ha : M h0 = some (r0, lsE mc ar n)) : v ≠ h0 := fun h => by
  subst h
  rw [ha] at hv
  cases hv
  rcases hok with ⟨ci, fs, h1, h2⟩ | ⟨n, f, h1⟩
  · cases h1
    rcases h2 with h2 | h2 | h2 | h2 | h2 <;> cases h2
  · cases h1
/-- a list of n elements g 0 .. : its object la, its array ar of cap places -/
def LsR (G : GG) (M : HM) (t la n : Nat) (mc : Int32) (ar cap : Nat) (g : Nat → Option Nat) : Prop := M la = some (t, lsE mc ar (nI n)) ∧ n ≤ cap ∧ cap ≤ 40000 ∧ ((cap = 0 ∧ ar = G.2.2 1) ∨ (10 ≤ cap ∧ M ar = some (t, qarr G cap g)))
theorem va_cpy_lo {α : Type} {f g : Nat → α} {n i : Nat} (h : i < n) : va_cpy f g 0 0 n i = f i := by
  unfold va_cpy
  rw [if_pos ⟨Nat.zero_le _, by omega⟩]
  congr 1
  omega
set_option maxHeartbeats 4000000 in
set_option maxRecDepth 100000 in
theorem Wd.ge {G : GG} {M : HM} {s : State} {H : Heap} {locs : List Loc} {a r : Nat} {e : va_E} (hM : Wd G M s H locs) (ha : M a = some (r, e)) : G.2.2 0 ≤ a := by
  obtain ⟨ws, hP, hD, hw⟩ := hM.1
  obtain ⟨k, hk⟩ := hw _ _ _ ha
  exact hD.2 k _ hk
theorem Kw.tE {G : GG} {s : State} (hK : Kw G s) : ¬ G.2.2 0 ≤ G.2.2 1 := by
  obtain ⟨fv, cell, h1, h2, h3, h4, h5, h6, h7⟩ := hK.2.2.2.2.2.1
  exact h7
theorem Wd.neT {G : GG} {M : HM} {s : State} {H : Heap} {locs : List Loc} {a r : Nat} {e : va_E} (hM : Wd G M s H locs) (hK : Kw G s) (ha : M a = some (r, e)) : a ≠ G.2.2 1 := fun z => hK.tE (z ▸ hM.ge ha)
/-- add(v) -/
theorem c_add (l : Launch) (G : GG) (M : HM) (la t v rv n ar cap : Nat) (en : va_E) (g : Nat → Option Nat) (mc : Int32) (h : LsR G M t la n mc ar cap g) (hv : M v = some (rv, en)) (hok : okv G en) (hn : n ≤ 20000) (hel : ∀ i : Nat, i < n → ∀ y : Nat, g i = some y → ∃ rv en, M y = some (rv, en) ∧ okv G en) : Mi l yJx4a65c_add_9ea2d (.code yJx4a65c_add_9ea2d cJx4a65c_add_9ea2d 2 (some .boolean) :: AL) 6 150 1 (n + n / 2 + 10) [.ref la, .ref v] G M (fun r M' => r = 1 ∧ ∃ ar' cap' g', LsR G M' t la (n + 1) (mc + 1) ar' cap' g' ∧ (∀ i, i < n → g' i = g i) ∧ g' n = some v ∧ (ar' = ar ∨ M ar' = none) ∧ ar' ≠ G.2.2 1 ∧ ∀ q, q ≠ la → (cap ≠ 0 → q ≠ ar) → M q ≠ none → M' q = M q) := by
  obtain ⟨ha, hnc, hcb, hc⟩ := h
  refine Mi.go (by decide) (Nat.le_of_ble_eq_true rfl) ?_
  intro p e s m below meth c ls hx hb hr hml hown hlocks hname hts hK hM hl
  have hown : s.vm.findClass RJx4a65c = some m.cls := hown
  have hl : lv_has ls 2 [(0, .ref la), (1, .ref v)] := hl
  have hvh : v ≠ la := okv_ne hv hok ha
  refine lv_aload_n hx hb dJx4a65c_add_9ea2d_0 rfl (lv_at hl 0 rfl) ?_
  refine lv_dup hx hb dJx4a65c_add_9ea2d_1 rfl ?_
  refine fg_Jx4a65c_63 hx hb hts hown hK hM ha dJx4a65c_add_9ea2d_2 ?_
  refine lv_iconst (v := 1) hx hb dJx4a65c_add_9ea2d_5 (by decide) ?_
  refine lv_iadd hx hb dJx4a65c_add_9ea2d_6 ?_
  refine fp_Jx4a65c_63 hx hb hts hown hK hM ha dJx4a65c_add_9ea2d_7 (fun H locs hM => ?_)
  refine lv_aload_n hx hb dJx4a65c_add_9ea2d_10 rfl (lv_at hl 0 rfl) ?_
  refine lv_aload_n hx hb dJx4a65c_add_9ea2d_11 rfl (lv_at hl 1 rfl) ?_
  refine lv_aload_n hx hb dJx4a65c_add_9ea2d_12 rfl (lv_at hl 0 rfl) ?_
  refine fg_Jx4a65c_9 hx hb hts hown hK hM hu_s dJx4a65c_add_9ea2d_13 ?_
  refine lv_aload_n hx hb dJx4a65c_add_9ea2d_16 rfl (lv_at hl 0 rfl) ?_
  refine fg_Jx4a65c_48 hx hb hts hown hK hM hu_s dJx4a65c_add_9ea2d_17 ?_
  rcases hc with ⟨hc0, har⟩ | ⟨hc10, hq⟩
  · subst hc0 har
    have hn0 : n = 0 := by omega
    subst hn0
    rw [show nI 0 = 0 from nI_0] at hM ⊢
    refine g_callVv (n9 := 3) (As := [.ref v, .ref (G.2.2 1), .int 0]) (rest := []) hx hb hml hl.1 hown hts hK hM (c_add3B l G _ la t v rv en (mc + 1) hu_s (hu_n hvh hv) hok) wm_Jx4a65c_131 wi_Jx4a65c_add_72be8 wl_Jx4a65c_add_72be8 wn_Jx4a65c wc_Jx4a65c_add_72be8 (by decide +kernel) (hM.recv hK (ci := 0) rfl hu_s) ⟨Nat.le_of_ble_eq_true rfl, Nat.le_of_ble_eq_true rfl⟩ ⟨Nat.le_of_ble_eq_true rfl, Nat.le_of_ble_eq_true rfl⟩ rfl (Nat.le_of_ble_eq_true rfl) rfl dJx4a65c_add_9ea2d_20 (fun M1 H locs hq9 hM => ?_)
    obtain ⟨q, hqn, hq9⟩ := hq9
    subst hq9
    have hqh : q ≠ la := fun z => by subst z; rw [hu_s] at hqn; cases hqn
    have hqM : M q = none := by
      rw [show hu M la t (lsE (mc + 1) (G.2.2 1) 0) q = M q from if_neg hqh] at hqn
      exact hqn
    replace hM := hM.eq (hu_2 hqh)
    refine lv_iconst (v := 1) hx hb dJx4a65c_add_9ea2d_23 (by decide) ?_
    refine g_zret hx hb hr hlocks hM (Nat.le_of_ble_eq_true rfl) (Nat.le_of_ble_eq_true rfl) (by decide) ⟨rfl, q, 10, _, ⟨hu_n (Ne.symm hqh) hu_s, by omega, by omega, Or.inr ⟨by omega, hu_s⟩⟩, fun i hi => absurd hi (Nat.not_lt_zero i), va_up_self _ _ _, Or.inr hqM, hM.neT hK hu_s, fun q9 h1 h2 h3 => ?_⟩ dJx4a65c_add_9ea2d_24
    have h4 : q9 ≠ q := fun z => h3 (by rw [z]; exact hqM)
    exact hu_n h4 (hu_n h1 rfl)
  · have hqh : ar ≠ la := hu_ne hq ha (by simp)
    rcases Nat.lt_or_ge n cap with hlt | hge
    · refine g_callVv (n9 := 3) (As := [.ref v, .ref ar, .int (nI n)]) (rest := []) hx hb hml hl.1 hown hts hK hM (c_add3A l G _ la t ar t v rv n cap en g (mc + 1) (nI n) hu_s (hu_n hqh hq) (hu_n hvh hv) hok hlt (by omega)) wm_Jx4a65c_131 wi_Jx4a65c_add_72be8 wl_Jx4a65c_add_72be8 wn_Jx4a65c wc_Jx4a65c_add_72be8 (by decide +kernel) (hM.recv hK (ci := 0) rfl hu_s) ⟨Nat.le_of_ble_eq_true rfl, Nat.le_of_ble_eq_true rfl⟩ ⟨Nat.zero_le _, Nat.zero_le _⟩ rfl (Nat.le_of_ble_eq_true rfl) rfl dJx4a65c_add_9ea2d_20 (fun M1 H locs hq9 hM => ?_)
      subst hq9
      replace hM := hM.eq (hu_2 hqh)
      refine lv_iconst (v := 1) hx hb dJx4a65c_add_9ea2d_23 (by decide) ?_
      exact g_zret hx hb hr hlocks hM (Nat.zero_le _) (Nat.zero_le _) (by decide) ⟨rfl, ar, cap, _, ⟨hu_n (Ne.symm hqh) hu_s, by omega, by omega, Or.inr ⟨hc10, hu_s⟩⟩, fun i hi => va_up_ne _ _ (by omega), va_up_self _ _ _, Or.inl rfl, hM.neT hK hu_s, fun q9 h1 h2 h3 => hu_n (h2 (by omega)) (hu_n h1 rfl)⟩ dJx4a65c_add_9ea2d_24
    · have hcn : cap = n := by omega
      subst hcn
      have hel2 : ∀ i : Nat, i < cap → ∀ y : Nat, g i = some y → ∃ rv en, hu M la t (lsE (mc + 1) ar (nI cap)) y = some (rv, en) ∧ okv G en := fun i hi y hy => by
        obtain ⟨rv2, en2, h1, h2⟩ := hel i hi y hy
        exact ⟨rv2, en2, hu_n (okv_ne h1 h2 ha) h1, h2⟩
      refine g_callVv (n9 := 3) (As := [.ref v, .ref ar, .int (nI cap)]) (rest := []) hx hb hml hl.1 hown hts hK hM (c_add3N l G _ la t ar t v rv cap en g (mc + 1) hu_s (hu_n hqh hq) (hu_n hvh hv) hok (by omega) (by omega) hel2) wm_Jx4a65c_131 wi_Jx4a65c_add_72be8 wl_Jx4a65c_add_72be8 wn_Jx4a65c wc_Jx4a65c_add_72be8 (by decide +kernel) (hM.recv hK (ci := 0) rfl hu_s) ⟨Nat.le_of_ble_eq_true rfl, Nat.le_of_ble_eq_true rfl⟩ ⟨Nat.le_of_ble_eq_true rfl, by show 0 + (cap + cap / 2) ≤ cap + cap / 2 + 10; omega⟩ rfl (Nat.le_of_ble_eq_true rfl) rfl dJx4a65c_add_9ea2d_20 (fun M1 H locs hq9 hM => ?_)
      obtain ⟨q, hqn, hq9⟩ := hq9
      subst hq9
      have hq2 : q ≠ la := fun z => by subst z; rw [hu_s] at hqn; cases hqn
      have hqM : M q = none := by
        rw [show hu M la t (lsE (mc + 1) ar (nI cap)) q = M q from if_neg hq2] at hqn
        exact hqn
      replace hM := hM.eq (hu_2 hq2)
      refine lv_iconst (v := 1) hx hb dJx4a65c_add_9ea2d_23 (by decide) ?_
      refine g_zret hx hb hr hlocks hM (Nat.le_of_ble_eq_true rfl) (by show 0 + (cap + cap / 2) ≤ cap + cap / 2 + 10; omega) (by decide) ⟨rfl, q, cap + cap / 2, _, ⟨hu_n (Ne.symm hq2) hu_s, by omega, by omega, Or.inr ⟨by omega, hu_s⟩⟩, fun i hi => (va_up_ne _ _ (by omega)).trans (va_cpy_lo hi), va_up_self _ _ _, Or.inr hqM, hM.neT hK hu_s, fun q9 h1 h2 h3 => ?_⟩ dJx4a65c_add_9ea2d_24
      have h4 : q9 ≠ q := fun z => h3 (by rw [z]; exact hqM)
      exact hu_n h4 (hu_n h1 rfl)

/-! arrays of arrays of ints -/
abbrev qE (G : GG) (n : Nat) (g : Nat → Option Nat) : va_E := .inl (G.2.1 1, n, .inr (.inr (.inr (.inr g))))
abbrev iE (G : GG) (n : Nat) (f : Nat → Int32) : va_E := .inl (G.2.1 0, n, .inl f)
theorem kA_spec {G : GG} {s : State} (hK : Kw G s) : ∃ kA, s.vm.classes[G.2.1 1]? = some kA ∧ kA.kind = .array (G.2.1 0) (.array .int) := by
  have hov : (Cond.arrayOver (.array .int)).before #[] s = true := hK.2.2.2.1.2.2
  obtain ⟨comp, c, k, h1, -, h3, h4, h5⟩ := arrayOverA_spec hov
  have e1 : some comp = some (G.2.1 0) := h1.symm.trans (hK.1.2 0 _ rfl).2
  have e2 : some c = some (G.2.1 1) := h5.symm.trans (hK.1.2 1 _ rfl).2
  obtain rfl := Option.some.inj e1
  obtain rfl := Option.some.inj e2
  exact ⟨k, h3, h4⟩
theorem kI_spec {G : GG} {s : State} (hK : Kw G s) : ∃ kI, s.vm.classes[G.2.1 0]? = some kI := by
  have h : s.vm.findClass "[I" = some (G.2.1 0) := (hK.1.2 0 _ rfl).2
  obtain ⟨k, hk, -⟩ := Vm.findClass_spec h
  exact ⟨k, hk⟩
section GA
variable {p : Program} {l : Launch} {e : Env} {R : Room} {s : State} {m : MethodId} {args : Array Value} {below : List Frame} {meth : Method} {c : Code} {H : Heap} {locs : List Loc} {cells slots : Nat} {Q : State → Prop}
variable {cc : ByteArray} {pc : Nat} {ls : Array Slot} {rest : List Value} {a : Nat} {G : GG} {M : HM}
theorem g_newA (hx : p.tables.exec = Jvm.exec) (hb : c.code = cc) {own : String} {index : Nat} (hts : ∀ w ∈ AL, w.before args s = true) (hown : s.vm.findClass own = some m.cls) (hK : Kw G s) (hM : Wd G M s H locs) (hcl : Cond.classLink own index "[I" ∈ AL) {n : Int32} {N' : Nat} (hn : ¬ n < 0) (hN : n.toNatClampNeg = N') (hbytes : N' * 4 ≤ 536870912) (r : Nat) (hcells : cells + 1 ≤ R.cells) (hslots : slots + N' ≤ R.slots) (hdg : decode cc pc = .ok (.anewarray index, 3))
    (kk : ∀ (q : Nat) (H : Heap), M q = none → Wd G (hu M q r (qE G N' (fun _ => none))) s H locs → W p l e R s m args below meth c H locs (cells + 1) (slots + N') Q (F0 m (pc + 3) ls (.ref q :: rest))) : W p l e R s m args below meth c H locs cells slots Q (F0 m pc ls (.int n :: rest)) := by
  obtain ⟨ws, hP, hD, hw⟩ := hM.1
  subst hN
  have hov : (Cond.arrayOver (.array .int)).before args s = true := hK.2.2.2.1.2.2
  refine W.anewA (t := .int) hx hb hown (hts _ hcl) hov rfl hdg rfl hn hbytes hcells hslots fun cA kA comp f1 f2 f3 f4 => ?_
  have e9 : some cA = some (G.2.1 1) := f1.symm.trans (hK.1.2 1 _ rfl).2
  obtain rfl := Option.some.inj e9
  generalize hH1 : H.push ({ cls := G.2.1 1, slots := Array.replicate n.toNatClampNeg .null, vm := .none } : Cell) = H1
  have z1 : H1.size = H.size + 1 := by rw [← hH1, Array.size_push]
  have e1 : H1[H.size]? = some (arrV (G.2.1 1) n.toNatClampNeg (fun _ => .null)) := by rw [← hH1, Array.getElem?_push_size, ← arrV_new]
  have o1 : ∀ q : Nat, q < H.size → H1[q]? = H[q]? := fun q hq => by rw [← hH1, Array.getElem?_push, if_neg (Nat.ne_of_lt hq)]
  have hk : ∀ (k : Nat) (x : Nat × va_E), ws[k]? = some x → H1[x.1]? = H[x.1]? := fun k x hx => o1 x.1 ((hP k x hx).lt)
  have hP1 : va_P G.1 vwCl (ws ++ [(H.size, qE G n.toNatClampNeg (fun _ => none))]) H1 := (hP.kept hk).app (fun k x hx => by
    have hz : k < 1 := (List.getElem?_eq_some_iff.mp hx).1
    rw [show k = 0 by omega] at hx
    cases hx
    show H1[H.size]? = some (vp_cell _ _)
    rw [vp_cell_q]
    exact e1)
  have hD1 : va_D (fun q => G.2.2 0 ≤ q) (ws ++ [(H.size, qE G n.toNatClampNeg (fun _ => none))]) := hD.push hP rfl (hM.hA _ hM.2.1.1)
  have hS1 : va_S (fun q => G.2.2 0 ≤ q) s.heap H1 locs := ⟨Nat.le_trans hM.2.1.1 (by omega), fun x h1 h2 => (o1 x (Nat.lt_of_lt_of_le h1 hM.2.1.1)).trans (hM.2.1.2.1 x h1 h2), hM.2.1.2.2⟩
  obtain ⟨z2, z3⟩ := hm.push (r := r) hw hP1 hD1
  exact kk H.size H1 z2 ⟨z3, hS1, hM.2.2⟩
theorem g_aastA (hx : p.tables.exec = Jvm.exec) (hb : c.code = cc) (hK : Kw G s) (hM : Wd G M s H locs) {n w r r2 v : Nat} {g : Nat → Option Nat} {f : Nat → Int32} (ha : M a = some (r, qE G n g)) (hv : M v = some (r2, iE G w f)) {i : Int32} (hin : vp_in i n) (hdg : decode cc pc = .ok (.aastore, 1))
    (kk : ∀ (H : Heap) (locs : List Loc), Wd G (hu M a r (qE G n (va_up g i.toNatClampNeg (some v)))) s H locs → W p l e R s m args below meth c H locs cells slots Q (F0 m (pc + 1) ls rest)) : W p l e R s m args below meth c H locs cells slots Q (F0 m pc ls (.ref v :: .int i :: .ref a :: rest)) := by
  obtain ⟨ws, hP, hD, hw⟩ := hM.1
  obtain ⟨k0, hk0⟩ := hw _ _ _ ha
  obtain ⟨k1, hk1⟩ := hw _ _ _ hv
  have hlt : i.toNatClampNeg < n := Nat.not_le.mp fun q => hin (Or.inr q)
  have h0 : ¬ i < 0 := fun q => hin (Or.inl q)
  obtain ⟨kA, a1, a2⟩ := kA_spec hK
  obtain ⟨kI, b1⟩ := kI_spec hK
  refine W.aast hx hb (hP k0 _ hk0) (fun q h => by cases h) (fun h => by cases h) a1 a2 rfl b1 ⟨h0, by show _ < (arrV _ _ _).slots.size; rw [arrV_size]; exact hlt⟩ (hP k1 _ hk1) (fun q h => by cases h) b1 (va_asg _ _) rfl rfl hdg fun H1 e z oq => ?_
  refine kk H1 _ ⟨hm.set hw hk0 (hP.set hD hk0 ?_ oq) (hD.set hk0), hM.2.1.put z oq (hD.2 k0 _ hk0), hM.2.2⟩
  show H1[a]? = some (vp_cell _ _)
  rw [e]
  rw [vp_cell_q, vp_cell_q, arrV_store]
  congr 2
  funext q
  by_cases hq : q = i.toNatClampNeg
  · subst hq
    simp [updV, va_up, va_rf]
  · simp [updV, va_up, hq]
theorem g_copyA (hx : p.tables.exec = Jvm.exec) (hb : c.code = cc) (hml : c.maxLocals = ls.size) {own : String} {index : Nat} (hts : ∀ w ∈ AL, w.before args s = true) (hown : s.vm.findClass own = some m.cls) (hK : Kw G s) (hM : Wd G M s H locs) (hlink : Cond.methodLink own index arraycopyName ∈ AL) {a0 n0 n1 r0 r1 : Nat} {f g : Nat → Option Nat} (ha0 : M a0 = some (r0, qE G n0 f)) (ha : M a = some (r1, qE G n1 g)) {sp dp n : Int32} (h1 : ¬ sp < 0) (h2 : ¬ dp < 0) (h3 : ¬ n < 0) (h4 : sp.toNatClampNeg + n.toNatClampNeg ≤ n0) (h5 : dp.toNatClampNeg + n.toNatClampNeg ≤ n1) (hel : ∀ i : Nat, i < n.toNatClampNeg → ∀ y : Nat, f (sp.toNatClampNeg + i) = some y → ∃ rv w f', M y = some (rv, iE G w f')) (hfr : 1 ≤ R.frames) (hlo : (rest.map fun v => v.category).sum + (nativeFrameWords "java/lang/System" "arraycopy" 5 + 11) ≤ R.locals) (hdg : decode cc pc = .ok (.invokestatic index, 3))
    (kk : ∀ (H : Heap) (locs : List Loc), Wd G (hu M a r1 (qE G n1 (va_cpy f g sp.toNatClampNeg dp.toNatClampNeg n.toNatClampNeg))) s H locs → W p l e R s m args below meth c H locs cells slots Q (F0 m (pc + 3) ls rest)) : W p l e R s m args below meth c H locs cells slots Q (F0 m pc ls (.int n :: .int dp :: .ref a :: .int sp :: .ref a0 :: rest)) := by
  obtain ⟨ws, hP, hD, hw⟩ := hM.1
  obtain ⟨q1, ha1⟩ := hw _ _ _ ha
  obtain ⟨q0, ha00⟩ := hw _ _ _ ha0
  have hS := hM.2.1
  have nn : ∀ z : Int32, ¬ z < 0 → z.toInt = (z.toNatClampNeg : Int) := by
    intro z hz
    have hz0 : (0 : Int) ≤ z.toInt := by
      have := Int32.not_lt.mp hz
      simpa using Int32.le_iff_toInt_le.mp this
    show z.toInt = ((z.toInt.toNat : Nat) : Int)
    omega
  obtain ⟨kA, k1, k2⟩ := kA_spec hK
  obtain ⟨kI, i1⟩ := kI_spec hK
  intro T hT X
  have hc0 : H[a0]? = some (vp_cell (G.2.1 1) (n0, .inr (.inr (.inr (.inr f))))) := hP q0 _ ha00
  have hc1 : H[a]? = some (vp_cell (G.2.1 1) (n1, .inr (.inr (.inr (.inr g))))) := hP q1 _ ha1
  obtain ⟨vm', X', step⟩ := X.arraycopy hx hown (hts _ hlink) (hts _ wv_acopy) (hts _ wt_acopy) (hts _ wn_java_lang_System) (src := a0) (dst := a) (cs := vp_cell (G.2.1 1) (n0, .inr (.inr (.inr (.inr f))))) (cd := vp_cell (G.2.1 1) (n1, .inr (.inr (.inr (.inr g))))) (srcPos := sp) (destPos := dp) (n := n) (by rw [hT]; exact hc0) (by rw [hT]; exact hc1)
    (fun _ h => by cases h) (fun _ h => by cases h) (fun h => by cases h) (fun h => by cases h) k1 k1 k2 k2 rfl h1 h2 h3
    (by rw [nn sp h1, nn n h3]; show ¬ _ > ((arrV (G.2.1 1) n0 (fun j => va_rf (f j))).slots.size : Int); rw [arrV_size]; omega)
    (by rw [nn dp h2, nn n h3]; show ¬ _ > ((arrV (G.2.1 1) n1 (fun j => va_rf (g j))).slots.size : Int); rw [arrV_size]; omega)
    (fun vm₁ hal i hi => by
      have e : (vp_cell (G.2.1 1) (n0, .inr (.inr (.inr (.inr f))))).slots.getD (sp.toNatClampNeg + i) .null = va_rf (f (sp.toNatClampNeg + i)) := by
        show (arrV (G.2.1 1) n0 (fun j => va_rf (f j))).slots.getD _ _ = _
        rw [Array.getD_eq_getD_getElem?, arrV_read _ _ (by omega)]
        rfl
      rw [e]
      cases hy : f (sp.toNatClampNeg + i) with
      | none => exact ⟨rfl, trivial⟩
      | some y =>
        obtain ⟨rv, w, f', hMy⟩ := hel i hi y hy
        obtain ⟨qy, hqy⟩ := hw _ _ _ hMy
        have hcy : H[y]? = some (vp_cell (G.2.1 0) (w, .inl f')) := hP qy _ hqy
        obtain ⟨kI', hkI', -⟩ := hal.2.2 _ _ i1
        refine ⟨rfl, _, (show T.heap[y]? = some _ by rw [hT]; exact hcy), (fun q h => by cases h), ⟨kI', hkI'⟩, ?_, ?_⟩
        · exact ⟨kI', hkI'⟩
        · show vm₁.assignable _ _ = true
          rw [hal.assignable]
          exact va_asg _ _)
    (g := F0 m pc ls (.int n :: .int dp :: .ref a :: .int sp :: .ref a0 :: rest)) rfl (by rw [hml]) (rest := rest) rfl (by rw [hb]; exact hdg) hfr (by show 2 * 0 + _ + _ ≤ _; omega)
  have e1 : copied (vp_cell (G.2.1 1) (n0, .inr (.inr (.inr (.inr f))))) (vp_cell (G.2.1 1) (n1, .inr (.inr (.inr (.inr g))))) sp dp n = vp_cell (G.2.1 1) (n1, .inr (.inr (.inr (.inr (va_cpy f g sp.toNatClampNeg dp.toNatClampNeg n.toNatClampNeg))))) := by
    rw [vp_cell_q, vp_cell_q, vp_cell_q]
    exact va_copied (fun z => va_rf z) (G.2.1 1) (G.2.1 1) f g h4
  rw [e1] at X' step
  have hl : a < H.size := (Array.getElem?_eq_some_iff.mp hc1).1
  obtain ⟨E9, eE9⟩ : ∃ z, z = vp_cell (G.2.1 1) (n1, .inr (.inr (.inr (.inr (va_cpy f g sp.toNatClampNeg dp.toNatClampNeg n.toNatClampNeg))))) := ⟨_, rfl⟩
  rw [← eE9] at X' step
  have hheap : ((T.setVm vm').setCell a E9).heap = H.setIfInBounds a E9 := by rw [← hT]; rfl
  have oq : ∀ q : Nat, q ≠ a → (H.setIfInBounds a E9)[q]? = H[q]? := fun q hq => by simp [Array.getElem?_setIfInBounds, Ne.symm hq]
  have es : (H.setIfInBounds a E9)[a]? = some E9 := by simp [Array.getElem?_setIfInBounds, hl]
  obtain ⟨t, a1, b1⟩ := kk _ _ ⟨hm.set hw ha1 (hP.set hD ha1 (es.trans (by rw [eE9])) oq) (hD.set ha1), ⟨by simp; exact hS.1, fun q g1 g2 => by
      rw [oq q (fun e => g2 (by rw [e]; exact hD.2 q1 _ ha1))]
      exact hS.2.1 q g1 g2, fun q hq => by
      rcases List.mem_append.mp hq with h | h
      · exact hS.2.2 q h
      · obtain ⟨z, -, hz⟩ := List.mem_map.mp h
        rw [← hz]
        exact hD.2 q1 _ ha1⟩, hM.2.2⟩ _ hheap X'
  exact ⟨t, step t a1, b1⟩
end GA

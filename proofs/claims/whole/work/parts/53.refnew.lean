theorem rw11_0 : (fun _ => 0 : Nat → Int32) = rw11 0 0 0 0 0 0 0 0 0 0 0 := funext fun j => by
  unfold rw11
  split <;> rfl
theorem rw10_0 : (fun _ => 0 : Nat → Int32) = rw10 0 0 0 0 0 0 0 0 0 0 := funext fun j => by
  unfold rw10
  split <;> rfl
theorem rw6_0 : (fun _ => 0 : Nat → Int32) = rw6 0 0 0 0 0 0 := funext fun j => by
  unfold rw6
  split <;> rfl
def wdR : Nat → Nat | 0 => 11 | 1 => 11 | 2 => 10 | 3 => 6 | _ => 7
theorem eR_0 (G : GG) : ∀ k, k < 4 → (.inl (G.2.1 0, wdR k, .inl (fun _ => 0)) : va_E) = eR G k (fun _ => 0) := by
  intro k hk
  match k, hk with
  | 0, _ => show (.inl (G.2.1 0, 11, .inl (fun _ => 0)) : va_E) = .inl (G.2.1 0, 11, .inl (rw11 0 0 0 0 0 0 0 0 0 0 0)); rw [rw11_0]
  | 1, _ => show (.inl (G.2.1 0, 11, .inl (fun _ => 0)) : va_E) = .inl (G.2.1 0, 11, .inl (rw11 0 0 0 0 0 0 0 0 0 0 0)); rw [rw11_0]
  | 2, _ => show (.inl (G.2.1 0, 10, .inl (fun _ => 0)) : va_E) = .inl (G.2.1 0, 10, .inl (rw10 0 0 0 0 0 0 0 0 0 0)); rw [rw10_0]
  | 3, _ => show (.inl (G.2.1 0, 6, .inl (fun _ => 0)) : va_E) = .inl (G.2.1 0, 6, .inl (rw6 0 0 0 0 0 0)); rw [rw6_0]
section NM
variable {p : Program} {l : Launch} {e : Env} {R : Room} {s : State} {m : MethodId} {args : Array Value} {below : List Frame} {meth : Method} {c : Code} {H : Heap} {locs : List Loc} {cells slots : Nat} {Q : State → Prop}
variable {cc : ByteArray} {pc : Nat} {ls : Array Slot} {rest : List Value} {a : Nat} {G : GG} {M : HM}
/-- new int[n][k] -/
theorem g_mna (hx : p.tables.exec = Jvm.exec) (hb : c.code = cc) {own : String} {index : Nat} (hts : ∀ w ∈ AL, w.before args s = true) (hown : s.vm.findClass own = some m.cls) (hK : Kw G s) (hM : Wd G M s H locs) (hcl : Cond.classLink own index "[[I" ∈ AL) {n k : Int32} (N' K' : Nat) (hn : ¬ n < 0) (hk : ¬ k < 0) (hN : n.toNatClampNeg = N') (hK' : k.toNatClampNeg = K') (hb1 : N' ≤ 1000) (hb2 : K' ≤ 1000) (r : Nat) (hcells : cells + (1 + N') ≤ R.cells) (hslots : slots + (N' + N' * K') ≤ R.slots) (hdg : decode cc pc = .ok (.multianewarray index 2, 4))
    (kk : ∀ (q : Nat) (ra : Nat → Nat) (M1 : HM) (H : Heap), M q = none → (∀ i, i < N' → M (ra i) = none) → (∀ i j, i < N' → j < N' → ra i = ra j → i = j) → M1 q = some (r, oaE G N' ra) → (∀ i, i < N' → M1 (ra i) = some (r, .inl (G.2.1 0, K', .inl (fun _ => 0)))) → (∀ x y, M x = some y → M1 x = some y) → Wd G M1 s H locs → W p l e R s m args below meth c H locs (cells + 1 + N') (slots + N' + N' * K') Q (F0 m (pc + 4) ls (.ref q :: rest))) : W p l e R s m args below meth c H locs cells slots Q (F0 m pc ls (.int k :: .int n :: rest)) := by
  obtain ⟨ws, hP, hD, hw⟩ := hM.1
  have hfc : s.vm.findClass "[I" = some (G.2.1 0) := (hK.1.2 0 _ rfl).2
  refine va_mna (X := ws) (L := []) (f := fun _ => .inl (G.2.1 0, 0, .inl (fun _ => 0))) (D := G.1) (ty := .int) (cy := G.2.1 0) (z := (K', .inl (fun _ => 0))) hx hb hown (own := own) (index := index) ?_ ?_ (hts _ wa_int) hfc hK.1 (by show va_P G.1 vwCl (ws ++ []) H; rw [List.append_nil]; exact hP) (by show va_D _ (ws ++ []); rw [List.append_nil]; exact hD) hM.2.1 hM.hA hn hk hN hK' (by omega) (by show K' * 4 ≤ 536870912; omega) (by omega) rfl rfl hcells hslots (fun cc9 => ?_) hdg (fun q ra cA H1 hinj _ hK1 hP1 hD1 hS1 => ?_)
  · exact hts _ hcl
  · exact hK.2.2.2.1.2.2
  · exact arrV_new cc9 K' (.int 0)
  · have e9 := tyG_at (j := 1) hK rfl (hK1.2 (tyG G).length (cA, .array .int) (by simp)).2
    subst e9
    rw [List.nil_append] at hP1 hD1
    generalize hX : ws ++ [((q, .inl (G.2.1 1, N', .inr (.inr (.inr (.inr (fun i => if i < N' then some (ra i) else none)))))) : Nat × va_E)] = X9 at hP1 hD1
    generalize hF : vr_up (fun _ => (.inl (G.2.1 0, 0, .inl (fun _ => 0)) : va_E)) ((List.range N').map ra) ((.inl (G.2.1 0, K', .inl (fun _ => 0)) : va_E)) = F9 at hP1 hD1
    have hlen : X9.length = ws.length + 1 := by rw [← hX]; simp
    have hq9 : (X9 ++ va_pl ((List.range N').map ra) F9)[ws.length]? = some (q, oaE G N' ra) := by
      rw [List.getElem?_append_left (by omega), ← hX, List.getElem?_append_right (Nat.le_refl _)]
      simp
    have hold : ∀ (j : Nat) (x : Nat × va_E), ws[j]? = some x → (X9 ++ va_pl ((List.range N').map ra) F9)[j]? = some x := fun j x hj => by
      have hjl := (List.getElem?_eq_some_iff.mp hj).1
      rw [List.getElem?_append_left (by omega), ← hX, List.getElem?_append_left hjl]
      exact hj
    have hrow : ∀ i, i < N' → (X9 ++ va_pl ((List.range N').map ra) F9)[X9.length + i]? = some (ra i, .inl (G.2.1 0, K', .inl (fun _ => 0))) := fun i hi => by
      rw [List.getElem?_append_right (Nat.le_add_right _ _), Nat.add_sub_cancel_left]
      unfold va_pl
      rw [List.getElem?_map, List.getElem?_map, List.getElem?_range hi]
      show some (ra i, F9 (ra i)) = _
      rw [← hF, vr_up_in (List.mem_map.mpr ⟨i, List.mem_range.mpr hi, rfl⟩)]
    have hqn : M q = none := by
      cases hm0 : M q with
      | none => rfl
      | some y =>
        obtain ⟨j, hj⟩ := hw q y.1 y.2 hm0
        have hjl := (List.getElem?_eq_some_iff.mp hj).1
        have := hD1.1 _ _ _ _ (hold j _ hj) hq9 rfl
        omega
    have hrn : ∀ i, i < N' → M (ra i) = none := fun i hi => by
      cases hm0 : M (ra i) with
      | none => rfl
      | some y =>
        obtain ⟨j, hj⟩ := hw _ y.1 y.2 hm0
        have hjl := (List.getElem?_eq_some_iff.mp hj).1
        have := hD1.1 _ _ _ _ (hold j _ hj) (hrow i hi) rfl
        omega
    have hqr : ∀ i, i < N' → ra i ≠ q := fun i hi z => by
      have := hD1.1 _ _ _ _ (hrow i hi) hq9 z
      omega
    obtain ⟨M1, eM1⟩ : ∃ z : HM, z = fun x => if x = q then some (r, oaE G N' ra) else if ∃ i, i < N' ∧ x = ra i then some (r, .inl (G.2.1 0, K', .inl (fun _ => 0))) else M x := ⟨_, rfl⟩
    have f1 : M1 q = some (r, oaE G N' ra) := by rw [eM1]; exact if_pos rfl
    have f2 : ∀ i, i < N' → M1 (ra i) = some (r, .inl (G.2.1 0, K', .inl (fun _ => 0))) := fun i hi => by
      rw [eM1]
      show (if ra i = q then _ else _) = _
      rw [if_neg (hqr i hi), if_pos ⟨i, hi, rfl⟩]
    have f3 : ∀ x y, M x = some y → M1 x = some y := fun x y hxy => by
      rw [eM1]
      show (if x = q then _ else _) = _
      rw [if_neg (fun z => by rw [z, hqn] at hxy; cases hxy), if_neg (fun z => by obtain ⟨i, hi, rfl⟩ := z; rw [hrn i hi] at hxy; cases hxy)]
      exact hxy
    refine kk q ra M1 H1 hqn hrn hinj f1 f2 f3 ⟨⟨_, hP1, hD1, fun x r9 e9 hxe => ?_⟩, hS1, hM.2.2⟩
    rw [eM1] at hxe
    by_cases c1 : x = q
    · rw [show (fun x => if x = q then some (r, oaE G N' ra) else if ∃ i, i < N' ∧ x = ra i then some (r, .inl (G.2.1 0, K', .inl (fun _ => 0))) else M x : HM) x = some (r, oaE G N' ra) from if_pos c1] at hxe
      cases hxe
      exact ⟨_, by rw [c1]; exact hq9⟩
    · by_cases c2 : ∃ i, i < N' ∧ x = ra i
      · rw [show (fun x => if x = q then some (r, oaE G N' ra) else if ∃ i, i < N' ∧ x = ra i then some (r, .inl (G.2.1 0, K', .inl (fun _ => 0))) else M x : HM) x = some (r, .inl (G.2.1 0, K', .inl (fun _ => 0))) from (if_neg c1).trans (if_pos c2)] at hxe
        cases hxe
        obtain ⟨i, hi, rfl⟩ := c2
        exact ⟨_, hrow i hi⟩
      · rw [show (fun x => if x = q then some (r, oaE G N' ra) else if ∃ i, i < N' ∧ x = ra i then some (r, .inl (G.2.1 0, K', .inl (fun _ => 0))) else M x : HM) x = M x from (if_neg c1).trans (if_neg c2)] at hxe
        obtain ⟨j, hj⟩ := hw x r9 e9 hxe
        exact ⟨j, hold j _ hj⟩
end NM
set_option maxHeartbeats 4000000 in
set_option maxRecDepth 100000 in
theorem c_X7_init (l : Launch) (G : GG) (M : HM) (h0 t : Nat) (hh : M h0 = some (t, .inr (8, [.null, .null, .null, .null, .null, .int 0, .int 0, .int 0, .int 0, .int 0]))) : Mv l yX7_init (.code yX7_init cX7_init 1 none :: AL) 4 80 24 212 [.ref h0] G M (fun M' => ∃ Z, MdR G M' t h0 Z (fun _ => 0) (fun _ _ _ => 0) 0 ∧ Fr t M M') := by
  refine Mv.go (by decide) (Nat.le_of_ble_eq_true rfl) ?_
  intro p e s m below meth c ls hx hb hr hml hown hlocks hname hts hK hM hl
  have hown : s.vm.findClass RX7 = some m.cls := hown
  have hl : lv_has ls 1 [(0, .ref h0)] := hl
  refine lv_aload_n hx hb dX7_init_0 rfl (lv_at hl 0 rfl) ?_
  refine W.objInit hx hb hown (hts _ wm_X7_3) (hts _ wi_objinit) (hts _ wc_objinit) rfl (hl.1.trans hml.symm) rfl dX7_init_1 (Nat.le_of_ble_eq_true rfl) (Nat.le_of_ble_eq_true rfl) ?_
  refine W.eq (g2 := F0 m 4 ls []) rfl ?_
  refine lv_aload_n hx hb dX7_init_4 rfl (lv_at hl 0 rfl) ?_
  refine lv_bipush (v := (8 : Int32)) hx hb dX7_init_5 (by decide) ?_
  refine lv_bipush (v := (11 : Int32)) hx hb dX7_init_7 (by decide) ?_
  refine g_mna hx hb hts hown hK hM wk_X7_9 8 11 (by decide) (by decide) (by decide) (by decide) (by decide) (by decide) t (Nat.le_of_ble_eq_true rfl) (Nat.le_of_ble_eq_true rfl) dX7_init_9 (fun q0 ra0 M0a H hq0 hn0 hi0 ho0 hr0 hk0 hM => ?_)
  have ha0 : M0a h0 = some (t, .inr (8, [.null, .null, .null, .null, .null, .int 0, .int 0, .int 0, .int 0, .int 0])) := hk0 _ _ hh
  refine fp_X7_11 hx hb hts hown hK hM hname ha0 dX7_init_13 (fun H locs hM => ?_)
  obtain ⟨M0, eM0⟩ : ∃ z, z = hu M0a h0 t (.inr (8, [.ref q0, .null, .null, .null, .null, .int 0, .int 0, .int 0, .int 0, .int 0])) := ⟨_, rfl⟩
  replace hM := hM.eq eM0.symm
  have hh0 : M0 h0 = some (t, .inr (8, [.ref q0, .null, .null, .null, .null, .int 0, .int 0, .int 0, .int 0, .int 0])) := by rw [eM0]; exact hu_s
  have kp0 : ∀ x y, x ≠ h0 → M0a x = some y → M0 x = some y := fun x y hx9 hy => by rw [eM0]; exact hu_n hx9 hy
  have nh0 : q0 ≠ h0 := fun z => by rw [z, hh] at hq0; cases hq0
  have nr0 : ∀ i, i < 8 → ra0 i ≠ h0 := fun i hi z => by have := hn0 i hi; rw [z, hh] at this; cases this
  have oo0_0 := kp0 _ _ nh0 ho0
  have rr0_0 : ∀ i, i < 8 → M0 (ra0 i) = some (t, .inl (G.2.1 0, 11, .inl (fun _ => 0))) := fun i hi => kp0 _ _ (nr0 i hi) (hr0 i hi)
  have hF0 : Fr t M M0 := fun q r e h9 hq => kp0 q _ (fun z => by have := hh; rw [z, hh] at hq; cases hq; exact h9 rfl) (hk0 _ _ hq)
  refine lv_aload_n hx hb dX7_init_16 rfl (lv_at hl 0 rfl) ?_
  refine lv_iconst (v := (4 : Int32)) hx hb dX7_init_17 (by decide) ?_
  refine lv_bipush (v := (11 : Int32)) hx hb dX7_init_18 (by decide) ?_
  refine g_mna hx hb hts hown hK hM wk_X7_9 4 11 (by decide) (by decide) (by decide) (by decide) (by decide) (by decide) t (Nat.le_of_ble_eq_true rfl) (Nat.le_of_ble_eq_true rfl) dX7_init_20 (fun q1 ra1 M1a H hq1 hn1 hi1 ho1 hr1 hk1 hM => ?_)
  have ha1 : M1a h0 = some (t, .inr (8, [.ref q0, .null, .null, .null, .null, .int 0, .int 0, .int 0, .int 0, .int 0])) := hk1 _ _ hh0
  have oa1_0 := hk1 _ _ oo0_0
  have or1_0 : ∀ i, i < 8 → M1a (ra0 i) = some (t, .inl (G.2.1 0, 11, .inl (fun _ => 0))) := fun i hi => hk1 _ _ (rr0_0 i hi)
  have nd0_1 : ∀ i i2, i < 8 → i2 < 4 → ra0 i ≠ ra1 i2 := fun i i2 h1 h2 => hu_ne (rr0_0 i h1) (hn1 i2 h2) (by simp)
  refine fp_X7_16 hx hb hts hown hK hM hname ha1 dX7_init_24 (fun H locs hM => ?_)
  obtain ⟨M1, eM1⟩ : ∃ z, z = hu M1a h0 t (.inr (8, [.ref q0, .ref q1, .null, .null, .null, .int 0, .int 0, .int 0, .int 0, .int 0])) := ⟨_, rfl⟩
  replace hM := hM.eq eM1.symm
  have hh1 : M1 h0 = some (t, .inr (8, [.ref q0, .ref q1, .null, .null, .null, .int 0, .int 0, .int 0, .int 0, .int 0])) := by rw [eM1]; exact hu_s
  have kp1 : ∀ x y, x ≠ h0 → M1a x = some y → M1 x = some y := fun x y hx9 hy => by rw [eM1]; exact hu_n hx9 hy
  have nh1 : q1 ≠ h0 := fun z => by rw [z, hh0] at hq1; cases hq1
  have nr1 : ∀ i, i < 4 → ra1 i ≠ h0 := fun i hi z => by have := hn1 i hi; rw [z, hh0] at this; cases this
  have oo1_0 := kp1 _ _ nh0 oa1_0
  have rr1_0 : ∀ i, i < 8 → M1 (ra0 i) = some (t, .inl (G.2.1 0, 11, .inl (fun _ => 0))) := fun i hi => kp1 _ _ (nr0 i hi) (or1_0 i hi)
  have oo1_1 := kp1 _ _ nh1 ho1
  have rr1_1 : ∀ i, i < 4 → M1 (ra1 i) = some (t, .inl (G.2.1 0, 11, .inl (fun _ => 0))) := fun i hi => kp1 _ _ (nr1 i hi) (hr1 i hi)
  have hF1 : Fr t M M1 := fun q r e h9 hq => kp1 q _ (fun z => by have := hh; rw [z, hh] at hq; cases hq; exact h9 rfl) (hk1 _ _ (hF0 q r e h9 hq))
  refine lv_aload_n hx hb dX7_init_27 rfl (lv_at hl 0 rfl) ?_
  refine lv_iconst (v := (4 : Int32)) hx hb dX7_init_28 (by decide) ?_
  refine lv_bipush (v := (10 : Int32)) hx hb dX7_init_29 (by decide) ?_
  refine g_mna hx hb hts hown hK hM wk_X7_9 4 10 (by decide) (by decide) (by decide) (by decide) (by decide) (by decide) t (Nat.le_of_ble_eq_true rfl) (Nat.le_of_ble_eq_true rfl) dX7_init_31 (fun q2 ra2 M2a H hq2 hn2 hi2 ho2 hr2 hk2 hM => ?_)
  have ha2 : M2a h0 = some (t, .inr (8, [.ref q0, .ref q1, .null, .null, .null, .int 0, .int 0, .int 0, .int 0, .int 0])) := hk2 _ _ hh1
  have oa2_0 := hk2 _ _ oo1_0
  have or2_0 : ∀ i, i < 8 → M2a (ra0 i) = some (t, .inl (G.2.1 0, 11, .inl (fun _ => 0))) := fun i hi => hk2 _ _ (rr1_0 i hi)
  have nd0_2 : ∀ i i2, i < 8 → i2 < 4 → ra0 i ≠ ra2 i2 := fun i i2 h1 h2 => hu_ne (rr1_0 i h1) (hn2 i2 h2) (by simp)
  have oa2_1 := hk2 _ _ oo1_1
  have or2_1 : ∀ i, i < 4 → M2a (ra1 i) = some (t, .inl (G.2.1 0, 11, .inl (fun _ => 0))) := fun i hi => hk2 _ _ (rr1_1 i hi)
  have nd1_2 : ∀ i i2, i < 4 → i2 < 4 → ra1 i ≠ ra2 i2 := fun i i2 h1 h2 => hu_ne (rr1_1 i h1) (hn2 i2 h2) (by simp)
  refine fp_X7_19 hx hb hts hown hK hM hname ha2 dX7_init_35 (fun H locs hM => ?_)
  obtain ⟨M2, eM2⟩ : ∃ z, z = hu M2a h0 t (.inr (8, [.ref q0, .ref q1, .ref q2, .null, .null, .int 0, .int 0, .int 0, .int 0, .int 0])) := ⟨_, rfl⟩
  replace hM := hM.eq eM2.symm
  have hh2 : M2 h0 = some (t, .inr (8, [.ref q0, .ref q1, .ref q2, .null, .null, .int 0, .int 0, .int 0, .int 0, .int 0])) := by rw [eM2]; exact hu_s
  have kp2 : ∀ x y, x ≠ h0 → M2a x = some y → M2 x = some y := fun x y hx9 hy => by rw [eM2]; exact hu_n hx9 hy
  have nh2 : q2 ≠ h0 := fun z => by rw [z, hh1] at hq2; cases hq2
  have nr2 : ∀ i, i < 4 → ra2 i ≠ h0 := fun i hi z => by have := hn2 i hi; rw [z, hh1] at this; cases this
  have oo2_0 := kp2 _ _ nh0 oa2_0
  have rr2_0 : ∀ i, i < 8 → M2 (ra0 i) = some (t, .inl (G.2.1 0, 11, .inl (fun _ => 0))) := fun i hi => kp2 _ _ (nr0 i hi) (or2_0 i hi)
  have oo2_1 := kp2 _ _ nh1 oa2_1
  have rr2_1 : ∀ i, i < 4 → M2 (ra1 i) = some (t, .inl (G.2.1 0, 11, .inl (fun _ => 0))) := fun i hi => kp2 _ _ (nr1 i hi) (or2_1 i hi)
  have oo2_2 := kp2 _ _ nh2 ho2
  have rr2_2 : ∀ i, i < 4 → M2 (ra2 i) = some (t, .inl (G.2.1 0, 10, .inl (fun _ => 0))) := fun i hi => kp2 _ _ (nr2 i hi) (hr2 i hi)
  have hF2 : Fr t M M2 := fun q r e h9 hq => kp2 q _ (fun z => by have := hh; rw [z, hh] at hq; cases hq; exact h9 rfl) (hk2 _ _ (hF1 q r e h9 hq))
  refine lv_aload_n hx hb dX7_init_38 rfl (lv_at hl 0 rfl) ?_
  refine lv_iconst (v := (3 : Int32)) hx hb dX7_init_39 (by decide) ?_
  refine lv_bipush (v := (6 : Int32)) hx hb dX7_init_40 (by decide) ?_
  refine g_mna hx hb hts hown hK hM wk_X7_9 3 6 (by decide) (by decide) (by decide) (by decide) (by decide) (by decide) t (Nat.le_of_ble_eq_true rfl) (Nat.le_of_ble_eq_true rfl) dX7_init_42 (fun q3 ra3 M3a H hq3 hn3 hi3 ho3 hr3 hk3 hM => ?_)
  have ha3 : M3a h0 = some (t, .inr (8, [.ref q0, .ref q1, .ref q2, .null, .null, .int 0, .int 0, .int 0, .int 0, .int 0])) := hk3 _ _ hh2
  have oa3_0 := hk3 _ _ oo2_0
  have or3_0 : ∀ i, i < 8 → M3a (ra0 i) = some (t, .inl (G.2.1 0, 11, .inl (fun _ => 0))) := fun i hi => hk3 _ _ (rr2_0 i hi)
  have nd0_3 : ∀ i i2, i < 8 → i2 < 3 → ra0 i ≠ ra3 i2 := fun i i2 h1 h2 => hu_ne (rr2_0 i h1) (hn3 i2 h2) (by simp)
  have oa3_1 := hk3 _ _ oo2_1
  have or3_1 : ∀ i, i < 4 → M3a (ra1 i) = some (t, .inl (G.2.1 0, 11, .inl (fun _ => 0))) := fun i hi => hk3 _ _ (rr2_1 i hi)
  have nd1_3 : ∀ i i2, i < 4 → i2 < 3 → ra1 i ≠ ra3 i2 := fun i i2 h1 h2 => hu_ne (rr2_1 i h1) (hn3 i2 h2) (by simp)
  have oa3_2 := hk3 _ _ oo2_2
  have or3_2 : ∀ i, i < 4 → M3a (ra2 i) = some (t, .inl (G.2.1 0, 10, .inl (fun _ => 0))) := fun i hi => hk3 _ _ (rr2_2 i hi)
  have nd2_3 : ∀ i i2, i < 4 → i2 < 3 → ra2 i ≠ ra3 i2 := fun i i2 h1 h2 => hu_ne (rr2_2 i h1) (hn3 i2 h2) (by simp)
  refine fp_X7_22 hx hb hts hown hK hM hname ha3 dX7_init_46 (fun H locs hM => ?_)
  obtain ⟨M3, eM3⟩ : ∃ z, z = hu M3a h0 t (.inr (8, [.ref q0, .ref q1, .ref q2, .ref q3, .null, .int 0, .int 0, .int 0, .int 0, .int 0])) := ⟨_, rfl⟩
  replace hM := hM.eq eM3.symm
  have hh3 : M3 h0 = some (t, .inr (8, [.ref q0, .ref q1, .ref q2, .ref q3, .null, .int 0, .int 0, .int 0, .int 0, .int 0])) := by rw [eM3]; exact hu_s
  have kp3 : ∀ x y, x ≠ h0 → M3a x = some y → M3 x = some y := fun x y hx9 hy => by rw [eM3]; exact hu_n hx9 hy
  have nh3 : q3 ≠ h0 := fun z => by rw [z, hh2] at hq3; cases hq3
  have nr3 : ∀ i, i < 3 → ra3 i ≠ h0 := fun i hi z => by have := hn3 i hi; rw [z, hh2] at this; cases this
  have oo3_0 := kp3 _ _ nh0 oa3_0
  have rr3_0 : ∀ i, i < 8 → M3 (ra0 i) = some (t, .inl (G.2.1 0, 11, .inl (fun _ => 0))) := fun i hi => kp3 _ _ (nr0 i hi) (or3_0 i hi)
  have oo3_1 := kp3 _ _ nh1 oa3_1
  have rr3_1 : ∀ i, i < 4 → M3 (ra1 i) = some (t, .inl (G.2.1 0, 11, .inl (fun _ => 0))) := fun i hi => kp3 _ _ (nr1 i hi) (or3_1 i hi)
  have oo3_2 := kp3 _ _ nh2 oa3_2
  have rr3_2 : ∀ i, i < 4 → M3 (ra2 i) = some (t, .inl (G.2.1 0, 10, .inl (fun _ => 0))) := fun i hi => kp3 _ _ (nr2 i hi) (or3_2 i hi)
  have oo3_3 := kp3 _ _ nh3 ho3
  have rr3_3 : ∀ i, i < 3 → M3 (ra3 i) = some (t, .inl (G.2.1 0, 6, .inl (fun _ => 0))) := fun i hi => kp3 _ _ (nr3 i hi) (hr3 i hi)
  have hF3 : Fr t M M3 := fun q r e h9 hq => kp3 q _ (fun z => by have := hh; rw [z, hh] at hq; cases hq; exact h9 rfl) (hk3 _ _ (hF2 q r e h9 hq))
  refine lv_aload_n hx hb dX7_init_49 rfl (lv_at hl 0 rfl) ?_
  refine g_new (ci := 0) (fs := [.int 0, .null, .int 0]) hx hb hts hown hK hM iaJx4a65c rfl tyJx4a65c tyJx4a65c_ok wk_X7_25 wb_Jx4a65c wn_Jx4a65c nfJx4a65c t (Nat.le_of_ble_eq_true rfl) (Nat.le_of_ble_eq_true rfl) dX7_init_50 (fun la H hql hM => ?_)
  refine lv_dup hx hb dX7_init_53 rfl ?_
  refine g_callIv (n9 := 0) (As := []) (rest := [.ref la, .ref h0]) hx hb hml hl.1 hown hts hK hM (c_Jx4a65c_init_da8c8 l G _ la t 0 0 hu_s) wm_X7_27 wi_Jx4a65c_init_da8c8 wn_Jx4a65c rfl wc_Jx4a65c_init_da8c8 (by decide +kernel) ⟨Nat.le_of_ble_eq_true rfl, Nat.le_of_ble_eq_true rfl⟩ ⟨Nat.le_of_ble_eq_true rfl, Nat.le_of_ble_eq_true rfl⟩ rfl (Nat.le_of_ble_eq_true rfl) rfl dX7_init_54 (fun Mz H locs hq hM => ?_)
  subst hq
  replace hM := hM.eq (hu_u _ _ _ _ _ _)
  have nl : h0 ≠ la := hu_ne hh3 hql (by simp)
  refine fp_X7_28 hx hb hts hown hK hM hname (hu_n nl hh3) dX7_init_57 (fun H locs hM => ?_)
  obtain ⟨M9, eM9⟩ : ∃ z, z = hu (hu M3 la t (lsE 0 (G.2.2 1) (nI 0))) h0 t (.inr (8, [.ref q0, .ref q1, .ref q2, .ref q3, .ref la, .int 0, .int 0, .int 0, .int 0, .int 0])) := ⟨_, rfl⟩
  replace hM := hM.eq eM9.symm
  have kp9 : ∀ x y, x ≠ h0 → M3 x = some y → M9 x = some y := fun x y hx9 hy => by rw [eM9]; exact hu_n hx9 (hu_n (hu_ne hy hql (by simp)) hy)
  have hF9 : Fr t M M9 := fun q r e h9 hq => kp9 q _ (fun z => by rw [z, hh] at hq; cases hq; exact h9 rfl) (hF3 q r e h9 hq)
  refine g_vret hx hb hr hlocks hM (Nat.le_of_ble_eq_true rfl) (Nat.le_of_ble_eq_true rfl) ⟨(fun k => match k with | 0 => q0 | 1 => q1 | 2 => q2 | _ => q3, fun k i => match k with | 0 => ra0 i | 1 => ra1 i | 2 => ra2 i | _ => ra3 i, la, 0, G.2.2 1, 0, fun _ => none), ⟨?_, ?_, ?_, ?_, ?_, ?_, ?_, ?_, ?_⟩, hF9⟩ dX7_init_60
  · rw [eM9]; exact hu_s
  · intro k hk
    match k, hk with
    | 0, _ => exact kp9 _ _ nh0 oo3_0
    | 1, _ => exact kp9 _ _ nh1 oo3_1
    | 2, _ => exact kp9 _ _ nh2 oo3_2
    | 3, _ => exact kp9 _ _ nh3 oo3_3
  · refine ⟨?_, Nat.le_refl _, Nat.zero_le _, Or.inl ⟨rfl, rfl⟩⟩
    rw [eM9]; exact hu_n (Ne.symm nl) hu_s
  · intro k i hk hi
    match k, hk with
    | 0, _ => rw [← eR_0 G 0 (by decide)]; exact kp9 _ _ (nr0 i hi) (rr3_0 i hi)
    | 1, _ => rw [← eR_0 G 1 (by decide)]; exact kp9 _ _ (nr1 i hi) (rr3_1 i hi)
    | 2, _ => rw [← eR_0 G 2 (by decide)]; exact kp9 _ _ (nr2 i hi) (rr3_2 i hi)
    | 3, _ => rw [← eR_0 G 3 (by decide)]; exact kp9 _ _ (nr3 i hi) (rr3_3 i hi)
    | 4, _ => exact absurd hi (Nat.not_lt_zero _)
  · intro i hi; exact absurd hi (Nat.not_lt_zero _)
  · intro k i k' i' hk hk' hi hi' hz
    match k, k', hk, hk' with
    | 0, 0, _, _ => exact ⟨rfl, hi0 _ _ hi hi' hz⟩
    | 0, 1, _, _ => exact absurd hz (nd0_1 _ _ hi hi')
    | 0, 2, _, _ => exact absurd hz (nd0_2 _ _ hi hi')
    | 0, 3, _, _ => exact absurd hz (nd0_3 _ _ hi hi')
    | 0, 4, _, _ => exact absurd hi' (Nat.not_lt_zero _)
    | 1, 0, _, _ => exact absurd hz.symm (nd0_1 _ _ hi' hi)
    | 1, 1, _, _ => exact ⟨rfl, hi1 _ _ hi hi' hz⟩
    | 1, 2, _, _ => exact absurd hz (nd1_2 _ _ hi hi')
    | 1, 3, _, _ => exact absurd hz (nd1_3 _ _ hi hi')
    | 1, 4, _, _ => exact absurd hi' (Nat.not_lt_zero _)
    | 2, 0, _, _ => exact absurd hz.symm (nd0_2 _ _ hi' hi)
    | 2, 1, _, _ => exact absurd hz.symm (nd1_2 _ _ hi' hi)
    | 2, 2, _, _ => exact ⟨rfl, hi2 _ _ hi hi' hz⟩
    | 2, 3, _, _ => exact absurd hz (nd2_3 _ _ hi hi')
    | 2, 4, _, _ => exact absurd hi' (Nat.not_lt_zero _)
    | 3, 0, _, _ => exact absurd hz.symm (nd0_3 _ _ hi' hi)
    | 3, 1, _, _ => exact absurd hz.symm (nd1_3 _ _ hi' hi)
    | 3, 2, _, _ => exact absurd hz.symm (nd2_3 _ _ hi' hi)
    | 3, 3, _, _ => exact ⟨rfl, hi3 _ _ hi hi' hz⟩
    | 3, 4, _, _ => exact absurd hi' (Nat.not_lt_zero _)
    | 4, 0, _, _ => exact absurd hi (Nat.not_lt_zero _)
    | 4, 1, _, _ => exact absurd hi (Nat.not_lt_zero _)
    | 4, 2, _, _ => exact absurd hi (Nat.not_lt_zero _)
    | 4, 3, _, _ => exact absurd hi (Nat.not_lt_zero _)
    | 4, 4, _, _ => exact absurd hi (Nat.not_lt_zero _)
  · intro k hk; exact Nat.zero_le _
  · exact Nat.zero_le _
  · intro z; exact absurd rfl z

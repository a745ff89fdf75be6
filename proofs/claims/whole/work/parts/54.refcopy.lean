theorem cpy_11 (a0 a1 a2 a3 a4 a5 a6 a7 a8 a9 a10 b0 b1 b2 b3 b4 b5 b6 b7 b8 b9 b10 : Int32) : va_cpy (rw11 a0 a1 a2 a3 a4 a5 a6 a7 a8 a9 a10) (rw11 b0 b1 b2 b3 b4 b5 b6 b7 b8 b9 b10) 0 0 11 = rw11 a0 a1 a2 a3 a4 a5 a6 a7 a8 a9 a10 := funext fun j => by
  unfold va_cpy
  by_cases h : 0 ≤ j ∧ j < 0 + 11
  · rw [if_pos h, Nat.sub_zero, Nat.zero_add]
  · rw [if_neg h]
    have hj : 11 ≤ j := by omega
    obtain ⟨k, rfl⟩ := Nat.exists_eq_add_of_le hj
    rw [Nat.add_comm]
    rfl
theorem cpy_10 (a0 a1 a2 a3 a4 a5 a6 a7 a8 a9 b0 b1 b2 b3 b4 b5 b6 b7 b8 b9 : Int32) : va_cpy (rw10 a0 a1 a2 a3 a4 a5 a6 a7 a8 a9) (rw10 b0 b1 b2 b3 b4 b5 b6 b7 b8 b9) 0 0 10 = rw10 a0 a1 a2 a3 a4 a5 a6 a7 a8 a9 := funext fun j => by
  unfold va_cpy
  by_cases h : 0 ≤ j ∧ j < 0 + 10
  · rw [if_pos h, Nat.sub_zero, Nat.zero_add]
  · rw [if_neg h]
    have hj : 10 ≤ j := by omega
    obtain ⟨k, rfl⟩ := Nat.exists_eq_add_of_le hj
    rw [Nat.add_comm]
    rfl
theorem cpy_6 (a0 a1 a2 a3 a4 a5 b0 b1 b2 b3 b4 b5 : Int32) : va_cpy (rw6 a0 a1 a2 a3 a4 a5) (rw6 b0 b1 b2 b3 b4 b5) 0 0 6 = rw6 a0 a1 a2 a3 a4 a5 := funext fun j => by
  unfold va_cpy
  by_cases h : 0 ≤ j ∧ j < 0 + 6
  · rw [if_pos h, Nat.sub_zero, Nat.zero_add]
  · rw [if_neg h]
    have hj : 6 ≤ j := by omega
    obtain ⟨k, rfl⟩ := Nat.exists_eq_add_of_le hj
    rw [Nat.add_comm]
    rfl
theorem cpy_R (G : GG) : ∀ k, k < 4 → ∀ (f g : Row) (n n' : Nat) (x y : Nat → Int32), eR G k f = .inl (G.2.1 0, n, .inl x) → eR G k g = .inl (G.2.1 0, n', .inl y) → n = wdR k ∧ n' = wdR k ∧ (.inl (G.2.1 0, n', .inl (va_cpy x y 0 0 n)) : va_E) = eR G k f := by
  intro k hk f g n n' x y h1 h2
  match k, hk with
  | 0, _ => cases h1; cases h2; exact ⟨rfl, rfl, by rw [cpy_11]; rfl⟩
  | 1, _ => cases h1; cases h2; exact ⟨rfl, rfl, by rw [cpy_11]; rfl⟩
  | 2, _ => cases h1; cases h2; exact ⟨rfl, rfl, by rw [cpy_10]; rfl⟩
  | 3, _ => cases h1; cases h2; exact ⟨rfl, rfl, by rw [cpy_6]; rfl⟩
section CR
variable {p : Program} {l : Launch} {e : Env} {R : Room} {s : State} {m : MethodId} {args : Array Value} {below : List Frame} {meth : Method} {c : Code} {H : Heap} {locs : List Loc} {cells slots : Nat} {Q : State → Prop}
variable {cc : ByteArray} {pc : Nat} {ls : Array Slot} {rest : List Value} {a : Nat} {G : GG} {M : HM}
/-- a row is copied over another of its kind -/
theorem g_copyR (hx : p.tables.exec = Jvm.exec) (hb : c.code = cc) (hml : c.maxLocals = ls.size) {own : String} {index : Nat} (hts : ∀ w ∈ AL, w.before args s = true) (hown : s.vm.findClass own = some m.cls) (hK : Kw G s) (hM : Wd G M s H locs) (hlink : Cond.methodLink own index arraycopyName ∈ AL) {a0 r0 r1 : Nat} (k : Nat) (hk : k < 4) {f g : Row} (ha0 : M a0 = some (r0, eR G k f)) (ha : M a = some (r1, eR G k g)) {n : Int32} (hn0 : ¬ n < 0) (hn : n.toNatClampNeg = wdR k) (hfr : 1 ≤ R.frames) (hlo : (rest.map fun v => v.category).sum + (nativeFrameWords "java/lang/System" "arraycopy" 5 + 11) ≤ R.locals) (hdg : decode cc pc = .ok (.invokestatic index, 3))
    (kk : ∀ (H : Heap) (locs : List Loc), Wd G (hu M a r1 (eR G k f)) s H locs → W p l e R s m args below meth c H locs cells slots Q (F0 m (pc + 3) ls rest)) : W p l e R s m args below meth c H locs cells slots Q (F0 m pc ls (.int n :: .int 0 :: .ref a :: .int 0 :: .ref a0 :: rest)) := by
  obtain ⟨n1, x, e1⟩ := eR_c G k f
  obtain ⟨n2, y, e2⟩ := eR_c G k g
  obtain ⟨z1, z2, z3⟩ := cpy_R G k hk f g n1 n2 x y e1 e2
  rw [e1] at ha0
  rw [e2] at ha
  have z0 : (0 : Int32).toNatClampNeg = 0 := by decide
  refine g_copyi hx hb hml hts hown hK hM hlink ha0 ha (by decide) (by decide) hn0 (by rw [z0, hn, z1]; omega) (by rw [z0, hn, z2]; omega) hfr hlo hdg (fun H locs hM => kk H locs ?_)
  rw [z0, hn, ← z1, z3] at hM
  exact hM
end CR
/-- so many rows of a kind are copied from U -/
def cpk (U : Tb) (k : Nat) : Nat → Tb → Tb
  | 0, V => V
  | i + 1, V => tu (cpk U k i V) k i (U k i)
def cpR (N : Nat → Nat) (U : Tb) : Tb := cpk U 3 (N 3) (cpk U 2 (N 2) (cpk U 1 (N 1) (cpk U 0 (N 0) (fun _ _ _ => 0))))
theorem cpk_s {U V : Tb} {k i : Nat} : ∀ n, i < n → cpk U k n V k i = U k i
  | 0, h => absurd h (Nat.not_lt_zero _)
  | n + 1, h => by
    show tu (cpk U k n V) k n (U k n) k i = _
    by_cases e : i = n
    · subst e
      exact tu_s
    · rw [tu_i e]
      exact cpk_s n (by omega)
theorem cpk_o {U V : Tb} {k k' i : Nat} (h : k' ≠ k) : ∀ n, cpk U k n V k' i = V k' i
  | 0 => rfl
  | n + 1 => (tu_k h).trans (cpk_o h n)
theorem cpR_at {N : Nat → Nat} {U : Tb} : ∀ k i, k < 4 → i < N k → cpR N U k i = U k i := by
  intro k i hk hi
  unfold cpR
  match k, hk with
  | 0, _ => rw [cpk_o (by decide), cpk_o (by decide), cpk_o (by decide), cpk_s _ hi]
  | 1, _ => rw [cpk_o (by decide), cpk_o (by decide), cpk_s _ hi]
  | 2, _ => rw [cpk_o (by decide), cpk_s _ hi]
  | 3, _ => rw [cpk_s _ hi]
theorem MdR.cgN {G : GG} {M : HM} {t a : Nat} {Z : LZ} {N N' : Nat → Nat} {U : Tb} {now : Int32} (h : MdR G M t a Z N U now) (e : ∀ k, k < 5 → N k = N' k) : MdR G M t a Z N' U now := by
  have hlm : ∀ k, k < 5 → lmR N' k = lmR N k := fun k hk => by
    match k, hk with
    | 0, _ => rfl
    | 1, _ => rfl
    | 2, _ => rfl
    | 3, _ => rfl
    | 4, _ => exact (e 4 (by decide)).symm
  obtain ⟨h1, h2, h3, h4, h5, h6, h7, h8, h9⟩ := h
  have e0 := e 0 (by decide)
  have e1 := e 1 (by decide)
  have e2 := e 2 (by decide)
  have e3 := e 3 (by decide)
  have e4 := e 4 (by decide)
  refine ⟨?_, fun k hk => by rw [hlm k (by omega)]; exact h2 k hk, by rw [← e4]; exact h3, fun k i hk hi => h4 k i hk (by rw [← hlm k hk]; exact hi), fun i hi => h5 i (by omega), fun k i k' i' hk hk' hi hi' => h6 k i k' i' hk hk' (by rw [← hlm k hk]; exact hi) (by rw [← hlm k' hk']; exact hi'), fun k hk => by rw [hlm k (by omega), ← e k (by omega)]; exact h7 k hk, by omega, h9⟩
  show M a = some (t, .inr (8, [.ref (Z.1 0), .ref (Z.1 1), .ref (Z.1 2), .ref (Z.1 3), .ref Z.2.2.1, .int now, .int (nI (N' 0)), .int (nI (N' 1)), .int (nI (N' 2)), .int (nI (N' 3))]))
  rw [← e0, ← e1, ← e2, ← e3]
  exact h1
theorem nfX7 : ∀ j, j < 10 → defaultValue (tyX7 j) = vp_V [.null, .null, .null, .null, .null, .int 0, .int 0, .int 0, .int 0, .int 0] j := by
  intro j hj
  match j, hj with
  | 0, _ => rfl
  | 1, _ => rfl
  | 2, _ => rfl
  | 3, _ => rfl
  | 4, _ => rfl
  | 5, _ => rfl
  | 6, _ => rfl
  | 7, _ => rfl
  | 8, _ => rfl
  | 9, _ => rfl
set_option maxHeartbeats 4000000 in
set_option maxRecDepth 100000 in
theorem c_X7_copy (l : Launch) (G : GG) (M : HM) (t h0 : Nat) (Z : LZ) (N : Nat → Nat) (U : Tb) (now : Int32) (t2 : Nat) (hL : MdR G M t h0 Z N U now) (hne : t ≠ t2) : Mq l yX7_copy (.code yX7_copy cX7_copy 3 (some (.object "WheatRunModel$Land")) :: AL) 5 100 25 222 [.ref h0] G M (fun r M' => ∃ q Z', r = some q ∧ MdR G M' t2 q Z' (nu N 4 0) (cpR N U) now ∧ Fr t2 M M') := by
  refine Mq.go (by decide) (Nat.le_of_ble_eq_true rfl) ?_
  intro p e s m below meth c ls hx hb hr hml hown hlocks hname hts hK hM hl
  have hown : s.vm.findClass RX7 = some m.cls := hown
  have hl : lv_has ls 3 [(0, .ref h0)] := hl
  refine g_new (ci := 8) (fs := [.null, .null, .null, .null, .null, .int 0, .int 0, .int 0, .int 0, .int 0]) hx hb hts hown hK hM iaX7 rfl tyX7 tyX7_ok wk_X7_12 wb_X7 wn_X7 nfX7 t2 (Nat.le_of_ble_eq_true rfl) (Nat.le_of_ble_eq_true rfl) dX7_copy_0 (fun q9 H hq0 hM => ?_)
  refine lv_dup hx hb dX7_copy_3 rfl ?_
  refine g_callIv (n9 := 0) (As := []) (rest := [.ref q9]) hx hb hml hl.1 hown hts hK hM (c_X7_init l G _ q9 t2 hu_s) wm_X7_32 wi_X7_init wn_X7 rfl wc_X7_init (by decide +kernel) ⟨Nat.le_of_ble_eq_true rfl, Nat.le_of_ble_eq_true rfl⟩ ⟨Nat.le_of_ble_eq_true rfl, Nat.le_of_ble_eq_true rfl⟩ rfl (Nat.le_of_ble_eq_true rfl) rfl dX7_copy_4 (fun M1 H locs hq hM => ?_)
  obtain ⟨Z2, hV1, hF1⟩ := hq
  have hG1 : Fr t2 M M1 := Fr.tr (Fr.new hq0) hF1
  refine lv_astore_n (lv' := [(1, .ref q9), (0, .ref h0)]) hx hb dX7_copy_7 rfl hl (by decide) rfl (fun ls hl => ?_)
  have hn0 := hL.cnt (k := 0) (by decide)
  have hn09 : N 0 ≤ 8 := by have : N 0 ≤ 8 := hn0; omega
  have hn1 := hL.cnt (k := 1) (by decide)
  have hn19 : N 1 ≤ 8 := by have : N 1 ≤ 4 := hn1; omega
  have hn2 := hL.cnt (k := 2) (by decide)
  have hn29 : N 2 ≤ 8 := by have : N 2 ≤ 4 := hn2; omega
  have hn3 := hL.cnt (k := 3) (by decide)
  have hn39 : N 3 ≤ 8 := by have : N 3 ≤ 3 := hn3; omega
  refine lv_iconst (v := (0 : Int32)) hx hb dX7_copy_8 (by decide) ?_
  refine lv_istore_n (lv' := [(2, .int (0 : Int32)), (1, .ref q9), (0, .ref h0)]) hx hb dX7_copy_9 rfl hl (by decide) rfl (fun ls hl => ?_)
  have L10 : ∀ (n i : Nat), i ≤ N 0 → N 0 - i < n → ∀ (M5 : HM) (H : Heap) (locs : List Loc) (ls : Array Slot) (V5 : Tb), V5 = cpk U 0 i (fun _ _ _ => 0) → MdR G M5 t2 q9 Z2 (fun _ => 0) V5 0 → Fr t2 M M5 → Wd G M5 s H locs → lv_has ls 3 [(2, .int (nI i)), (1, .ref q9), (0, .ref h0)] → W p l e ({ frames := 5, cells := 25, slots := 222, locals := 100 } : Room) s m [Value.ref h0].toArray below meth c H locs 25 222 (MQ below (va_Qq (fun r M' => ∃ q Z', r = some q ∧ MdR G M' t2 q Z' (nu N 4 0) (cpR N U) now ∧ Fr t2 M M') (gB G) (gA G)) [Value.ref h0].toArray s 25 222 (gA G)) (F0 m 10 ls []) := by
    intro n
    induction n with
    | zero => intro i h1 h2; omega
    | succ n ih =>
      intro i h1 h9 M5 H locs ls V5 eV hV5 hF5 hM hl
      have hL5 := hL.frame hne hF5
      refine lv_iload_n hx hb dX7_copy_10 rfl (lv_at hl 0 rfl) ?_
      refine lv_aload_n hx hb dX7_copy_11 rfl (lv_at hl 2 rfl) ?_
      refine fg_X7_33 hx hb hts hown hK hM hL5.1 dX7_copy_12 ?_
      refine lv_icmp_ge (tgt := 43) hx hb dX7_copy_15 (by decide) (fun cb => ?_) (fun cb => ?_)
      rotate_left
      · have hi : i < N 0 := by
          rcases Nat.lt_or_ge i (N 0) with z | z
          · exact z
          · exact absurd (nI_le z (by omega)) cb
        have hi9 : i < lmR N 0 := Nat.lt_of_lt_of_le hi hn0
        refine lv_aload_n hx hb dX7_copy_18 rfl (lv_at hl 2 rfl) ?_
        refine fg_X7_11 hx hb hts hown hK hM hL5.1 dX7_copy_19 ?_
        refine lv_iload_n hx hb dX7_copy_22 rfl (lv_at hl 0 rfl) ?_
        refine g_aaldN hx hb hK hM (hL5.outer (k := 0) (by decide)) hi9 (by show 8 < 1000; decide) dX7_copy_23 ?_
        refine lv_iconst (v := (0 : Int32)) hx hb dX7_copy_24 (by decide) ?_
        refine lv_aload_n hx hb dX7_copy_25 rfl (lv_at hl 1 rfl) ?_
        refine fg_X7_11 hx hb hts hown hK hM hV5.1 dX7_copy_26 ?_
        refine lv_iload_n hx hb dX7_copy_29 rfl (lv_at hl 0 rfl) ?_
        refine g_aaldN hx hb hK hM (hV5.outer (k := 0) (by decide)) hi9 (by show 8 < 1000; decide) dX7_copy_30 ?_
        refine lv_iconst (v := (0 : Int32)) hx hb dX7_copy_31 (by decide) ?_
        refine lv_bipush (v := (11 : Int32)) hx hb dX7_copy_32 (by decide) ?_
        refine g_copyR hx hb (hml.trans hl.1.symm) hts hown hK hM wm_X7_37 0 (by decide) (hL5.row (k := 0) (by decide) hi9) (hV5.row (k := 0) (by decide) hi9) (by decide) (by decide) (Nat.le_of_ble_eq_true rfl) (Nat.le_of_ble_eq_true rfl) dX7_copy_34 (fun H locs hM => ?_)
        have hV6 := hV5.setRow (k := 0) (by decide) hi9 (U 0 i)
        have hF6 := Fr.tr hF5 (Fr.up (e := eR G 0 (U 0 i)) (hV5.row (k := 0) (by decide) hi9))
        refine lv_iinc (v := (nI (i + 1))) (lv' := [(2, .int (nI (i + 1))), (1, .ref q9), (0, .ref h0)]) hx hb dX7_copy_37 hl (k := 0) rfl (nI_1 i) (by decide) rfl (fun ls hl => ?_)
        refine lv_goto (tgt := 10) hx hb dX7_copy_40 (by decide) ?_
        exact ih (i + 1) (by omega) (by omega) _ _ _ _ _ (by rw [eV]; rfl) hV6 hF6 hM hl
      · have hi : i = N 0 := by
          have := (nI_leI (by omega) (by omega)).mp cb
          omega
        subst hi
        have eW0 : V5 = (cpk U 0 (N 0) (fun _ _ _ => 0)) := eV
        refine lv_iconst (v := (0 : Int32)) hx hb dX7_copy_43 (by decide) ?_
        refine lv_istore_n (lv' := [(2, .int (0 : Int32)), (1, .ref q9), (0, .ref h0)]) hx hb dX7_copy_44 rfl hl (by decide) rfl (fun ls hl => ?_)
        have L45 : ∀ (n i : Nat), i ≤ N 1 → N 1 - i < n → ∀ (M5 : HM) (H : Heap) (locs : List Loc) (ls : Array Slot) (V5 : Tb), V5 = cpk U 1 i (cpk U 0 (N 0) (fun _ _ _ => 0)) → MdR G M5 t2 q9 Z2 (fun _ => 0) V5 0 → Fr t2 M M5 → Wd G M5 s H locs → lv_has ls 3 [(2, .int (nI i)), (1, .ref q9), (0, .ref h0)] → W p l e ({ frames := 5, cells := 25, slots := 222, locals := 100 } : Room) s m [Value.ref h0].toArray below meth c H locs 25 222 (MQ below (va_Qq (fun r M' => ∃ q Z', r = some q ∧ MdR G M' t2 q Z' (nu N 4 0) (cpR N U) now ∧ Fr t2 M M') (gB G) (gA G)) [Value.ref h0].toArray s 25 222 (gA G)) (F0 m 45 ls []) := by
          intro n
          induction n with
          | zero => intro i h1 h2; omega
          | succ n ih =>
            intro i h1 h9 M5 H locs ls V5 eV hV5 hF5 hM hl
            have hL5 := hL.frame hne hF5
            refine lv_iload_n hx hb dX7_copy_45 rfl (lv_at hl 0 rfl) ?_
            refine lv_aload_n hx hb dX7_copy_46 rfl (lv_at hl 2 rfl) ?_
            refine fg_X7_43 hx hb hts hown hK hM hL5.1 dX7_copy_47 ?_
            refine lv_icmp_ge (tgt := 78) hx hb dX7_copy_50 (by decide) (fun cb => ?_) (fun cb => ?_)
            rotate_left
            · have hi : i < N 1 := by
                rcases Nat.lt_or_ge i (N 1) with z | z
                · exact z
                · exact absurd (nI_le z (by omega)) cb
              have hi9 : i < lmR N 1 := Nat.lt_of_lt_of_le hi hn1
              refine lv_aload_n hx hb dX7_copy_53 rfl (lv_at hl 2 rfl) ?_
              refine fg_X7_16 hx hb hts hown hK hM hL5.1 dX7_copy_54 ?_
              refine lv_iload_n hx hb dX7_copy_57 rfl (lv_at hl 0 rfl) ?_
              refine g_aaldN hx hb hK hM (hL5.outer (k := 1) (by decide)) hi9 (by show 4 < 1000; decide) dX7_copy_58 ?_
              refine lv_iconst (v := (0 : Int32)) hx hb dX7_copy_59 (by decide) ?_
              refine lv_aload_n hx hb dX7_copy_60 rfl (lv_at hl 1 rfl) ?_
              refine fg_X7_16 hx hb hts hown hK hM hV5.1 dX7_copy_61 ?_
              refine lv_iload_n hx hb dX7_copy_64 rfl (lv_at hl 0 rfl) ?_
              refine g_aaldN hx hb hK hM (hV5.outer (k := 1) (by decide)) hi9 (by show 4 < 1000; decide) dX7_copy_65 ?_
              refine lv_iconst (v := (0 : Int32)) hx hb dX7_copy_66 (by decide) ?_
              refine lv_bipush (v := (11 : Int32)) hx hb dX7_copy_67 (by decide) ?_
              refine g_copyR hx hb (hml.trans hl.1.symm) hts hown hK hM wm_X7_37 1 (by decide) (hL5.row (k := 1) (by decide) hi9) (hV5.row (k := 1) (by decide) hi9) (by decide) (by decide) (Nat.le_of_ble_eq_true rfl) (Nat.le_of_ble_eq_true rfl) dX7_copy_69 (fun H locs hM => ?_)
              have hV6 := hV5.setRow (k := 1) (by decide) hi9 (U 1 i)
              have hF6 := Fr.tr hF5 (Fr.up (e := eR G 1 (U 1 i)) (hV5.row (k := 1) (by decide) hi9))
              refine lv_iinc (v := (nI (i + 1))) (lv' := [(2, .int (nI (i + 1))), (1, .ref q9), (0, .ref h0)]) hx hb dX7_copy_72 hl (k := 0) rfl (nI_1 i) (by decide) rfl (fun ls hl => ?_)
              refine lv_goto (tgt := 45) hx hb dX7_copy_75 (by decide) ?_
              exact ih (i + 1) (by omega) (by omega) _ _ _ _ _ (by rw [eV]; rfl) hV6 hF6 hM hl
            · have hi : i = N 1 := by
                have := (nI_leI (by omega) (by omega)).mp cb
                omega
              subst hi
              have eW1 : V5 = (cpk U 1 (N 1) (cpk U 0 (N 0) (fun _ _ _ => 0))) := eV
              refine lv_iconst (v := (0 : Int32)) hx hb dX7_copy_78 (by decide) ?_
              refine lv_istore_n (lv' := [(2, .int (0 : Int32)), (1, .ref q9), (0, .ref h0)]) hx hb dX7_copy_79 rfl hl (by decide) rfl (fun ls hl => ?_)
              have L80 : ∀ (n i : Nat), i ≤ N 2 → N 2 - i < n → ∀ (M5 : HM) (H : Heap) (locs : List Loc) (ls : Array Slot) (V5 : Tb), V5 = cpk U 2 i (cpk U 1 (N 1) (cpk U 0 (N 0) (fun _ _ _ => 0))) → MdR G M5 t2 q9 Z2 (fun _ => 0) V5 0 → Fr t2 M M5 → Wd G M5 s H locs → lv_has ls 3 [(2, .int (nI i)), (1, .ref q9), (0, .ref h0)] → W p l e ({ frames := 5, cells := 25, slots := 222, locals := 100 } : Room) s m [Value.ref h0].toArray below meth c H locs 25 222 (MQ below (va_Qq (fun r M' => ∃ q Z', r = some q ∧ MdR G M' t2 q Z' (nu N 4 0) (cpR N U) now ∧ Fr t2 M M') (gB G) (gA G)) [Value.ref h0].toArray s 25 222 (gA G)) (F0 m 80 ls []) := by
                intro n
                induction n with
                | zero => intro i h1 h2; omega
                | succ n ih =>
                  intro i h1 h9 M5 H locs ls V5 eV hV5 hF5 hM hl
                  have hL5 := hL.frame hne hF5
                  refine lv_iload_n hx hb dX7_copy_80 rfl (lv_at hl 0 rfl) ?_
                  refine lv_aload_n hx hb dX7_copy_81 rfl (lv_at hl 2 rfl) ?_
                  refine fg_X7_46 hx hb hts hown hK hM hL5.1 dX7_copy_82 ?_
                  refine lv_icmp_ge (tgt := 113) hx hb dX7_copy_85 (by decide) (fun cb => ?_) (fun cb => ?_)
                  rotate_left
                  · have hi : i < N 2 := by
                      rcases Nat.lt_or_ge i (N 2) with z | z
                      · exact z
                      · exact absurd (nI_le z (by omega)) cb
                    have hi9 : i < lmR N 2 := Nat.lt_of_lt_of_le hi hn2
                    refine lv_aload_n hx hb dX7_copy_88 rfl (lv_at hl 2 rfl) ?_
                    refine fg_X7_19 hx hb hts hown hK hM hL5.1 dX7_copy_89 ?_
                    refine lv_iload_n hx hb dX7_copy_92 rfl (lv_at hl 0 rfl) ?_
                    refine g_aaldN hx hb hK hM (hL5.outer (k := 2) (by decide)) hi9 (by show 4 < 1000; decide) dX7_copy_93 ?_
                    refine lv_iconst (v := (0 : Int32)) hx hb dX7_copy_94 (by decide) ?_
                    refine lv_aload_n hx hb dX7_copy_95 rfl (lv_at hl 1 rfl) ?_
                    refine fg_X7_19 hx hb hts hown hK hM hV5.1 dX7_copy_96 ?_
                    refine lv_iload_n hx hb dX7_copy_99 rfl (lv_at hl 0 rfl) ?_
                    refine g_aaldN hx hb hK hM (hV5.outer (k := 2) (by decide)) hi9 (by show 4 < 1000; decide) dX7_copy_100 ?_
                    refine lv_iconst (v := (0 : Int32)) hx hb dX7_copy_101 (by decide) ?_
                    refine lv_bipush (v := (10 : Int32)) hx hb dX7_copy_102 (by decide) ?_
                    refine g_copyR hx hb (hml.trans hl.1.symm) hts hown hK hM wm_X7_37 2 (by decide) (hL5.row (k := 2) (by decide) hi9) (hV5.row (k := 2) (by decide) hi9) (by decide) (by decide) (Nat.le_of_ble_eq_true rfl) (Nat.le_of_ble_eq_true rfl) dX7_copy_104 (fun H locs hM => ?_)
                    have hV6 := hV5.setRow (k := 2) (by decide) hi9 (U 2 i)
                    have hF6 := Fr.tr hF5 (Fr.up (e := eR G 2 (U 2 i)) (hV5.row (k := 2) (by decide) hi9))
                    refine lv_iinc (v := (nI (i + 1))) (lv' := [(2, .int (nI (i + 1))), (1, .ref q9), (0, .ref h0)]) hx hb dX7_copy_107 hl (k := 0) rfl (nI_1 i) (by decide) rfl (fun ls hl => ?_)
                    refine lv_goto (tgt := 80) hx hb dX7_copy_110 (by decide) ?_
                    exact ih (i + 1) (by omega) (by omega) _ _ _ _ _ (by rw [eV]; rfl) hV6 hF6 hM hl
                  · have hi : i = N 2 := by
                      have := (nI_leI (by omega) (by omega)).mp cb
                      omega
                    subst hi
                    have eW2 : V5 = (cpk U 2 (N 2) (cpk U 1 (N 1) (cpk U 0 (N 0) (fun _ _ _ => 0)))) := eV
                    refine lv_iconst (v := (0 : Int32)) hx hb dX7_copy_113 (by decide) ?_
                    refine lv_istore_n (lv' := [(2, .int (0 : Int32)), (1, .ref q9), (0, .ref h0)]) hx hb dX7_copy_114 rfl hl (by decide) rfl (fun ls hl => ?_)
                    have L115 : ∀ (n i : Nat), i ≤ N 3 → N 3 - i < n → ∀ (M5 : HM) (H : Heap) (locs : List Loc) (ls : Array Slot) (V5 : Tb), V5 = cpk U 3 i (cpk U 2 (N 2) (cpk U 1 (N 1) (cpk U 0 (N 0) (fun _ _ _ => 0)))) → MdR G M5 t2 q9 Z2 (fun _ => 0) V5 0 → Fr t2 M M5 → Wd G M5 s H locs → lv_has ls 3 [(2, .int (nI i)), (1, .ref q9), (0, .ref h0)] → W p l e ({ frames := 5, cells := 25, slots := 222, locals := 100 } : Room) s m [Value.ref h0].toArray below meth c H locs 25 222 (MQ below (va_Qq (fun r M' => ∃ q Z', r = some q ∧ MdR G M' t2 q Z' (nu N 4 0) (cpR N U) now ∧ Fr t2 M M') (gB G) (gA G)) [Value.ref h0].toArray s 25 222 (gA G)) (F0 m 115 ls []) := by
                      intro n
                      induction n with
                      | zero => intro i h1 h2; omega
                      | succ n ih =>
                        intro i h1 h9 M5 H locs ls V5 eV hV5 hF5 hM hl
                        have hL5 := hL.frame hne hF5
                        refine lv_iload_n hx hb dX7_copy_115 rfl (lv_at hl 0 rfl) ?_
                        refine lv_aload_n hx hb dX7_copy_116 rfl (lv_at hl 2 rfl) ?_
                        refine fg_X7_49 hx hb hts hown hK hM hL5.1 dX7_copy_117 ?_
                        refine lv_icmp_ge (tgt := 148) hx hb dX7_copy_120 (by decide) (fun cb => ?_) (fun cb => ?_)
                        rotate_left
                        · have hi : i < N 3 := by
                            rcases Nat.lt_or_ge i (N 3) with z | z
                            · exact z
                            · exact absurd (nI_le z (by omega)) cb
                          have hi9 : i < lmR N 3 := Nat.lt_of_lt_of_le hi hn3
                          refine lv_aload_n hx hb dX7_copy_123 rfl (lv_at hl 2 rfl) ?_
                          refine fg_X7_22 hx hb hts hown hK hM hL5.1 dX7_copy_124 ?_
                          refine lv_iload_n hx hb dX7_copy_127 rfl (lv_at hl 0 rfl) ?_
                          refine g_aaldN hx hb hK hM (hL5.outer (k := 3) (by decide)) hi9 (by show 3 < 1000; decide) dX7_copy_128 ?_
                          refine lv_iconst (v := (0 : Int32)) hx hb dX7_copy_129 (by decide) ?_
                          refine lv_aload_n hx hb dX7_copy_130 rfl (lv_at hl 1 rfl) ?_
                          refine fg_X7_22 hx hb hts hown hK hM hV5.1 dX7_copy_131 ?_
                          refine lv_iload_n hx hb dX7_copy_134 rfl (lv_at hl 0 rfl) ?_
                          refine g_aaldN hx hb hK hM (hV5.outer (k := 3) (by decide)) hi9 (by show 3 < 1000; decide) dX7_copy_135 ?_
                          refine lv_iconst (v := (0 : Int32)) hx hb dX7_copy_136 (by decide) ?_
                          refine lv_bipush (v := (6 : Int32)) hx hb dX7_copy_137 (by decide) ?_
                          refine g_copyR hx hb (hml.trans hl.1.symm) hts hown hK hM wm_X7_37 3 (by decide) (hL5.row (k := 3) (by decide) hi9) (hV5.row (k := 3) (by decide) hi9) (by decide) (by decide) (Nat.le_of_ble_eq_true rfl) (Nat.le_of_ble_eq_true rfl) dX7_copy_139 (fun H locs hM => ?_)
                          have hV6 := hV5.setRow (k := 3) (by decide) hi9 (U 3 i)
                          have hF6 := Fr.tr hF5 (Fr.up (e := eR G 3 (U 3 i)) (hV5.row (k := 3) (by decide) hi9))
                          refine lv_iinc (v := (nI (i + 1))) (lv' := [(2, .int (nI (i + 1))), (1, .ref q9), (0, .ref h0)]) hx hb dX7_copy_142 hl (k := 0) rfl (nI_1 i) (by decide) rfl (fun ls hl => ?_)
                          refine lv_goto (tgt := 115) hx hb dX7_copy_145 (by decide) ?_
                          exact ih (i + 1) (by omega) (by omega) _ _ _ _ _ (by rw [eV]; rfl) hV6 hF6 hM hl
                        · have hi : i = N 3 := by
                            have := (nI_leI (by omega) (by omega)).mp cb
                            omega
                          subst hi
                          have eW3 : V5 = (cpk U 3 (N 3) (cpk U 2 (N 2) (cpk U 1 (N 1) (cpk U 0 (N 0) (fun _ _ _ => 0))))) := eV
                          obtain ⟨M6, eM6⟩ : ∃ z, z = M5 := ⟨_, rfl⟩
                          refine lv_aload_n hx hb dX7_copy_148 rfl (lv_at hl 1 rfl) ?_
                          refine lv_aload_n hx hb dX7_copy_149 rfl (lv_at hl 2 rfl) ?_
                          have nlq : h0 ≠ q9 := hu_ne hL5.1 hV5.1 (fun z => by injection z with z; injection z with z1 z2; exact hne z1)
                          refine fg_X7_52 hx hb hts hown hK hM hL5.1 dX7_copy_150 ?_
                          refine fp_X7_52 hx hb hts hown hK hM hV5.1 dX7_copy_153 (fun H locs hM => ?_)
                          refine lv_aload_n hx hb dX7_copy_156 rfl (lv_at hl 1 rfl) ?_
                          refine lv_aload_n hx hb dX7_copy_157 rfl (lv_at hl 2 rfl) ?_
                          refine fg_X7_33 hx hb hts hown hK hM (hu_n nlq hL5.1) dX7_copy_158 ?_
                          refine fp_X7_33 hx hb hts hown hK hM hu_s dX7_copy_161 (fun H locs hM => ?_)
                          replace hM := hM.eq (hu_u _ _ _ _ _ _)
                          refine lv_aload_n hx hb dX7_copy_164 rfl (lv_at hl 1 rfl) ?_
                          refine lv_aload_n hx hb dX7_copy_165 rfl (lv_at hl 2 rfl) ?_
                          refine fg_X7_43 hx hb hts hown hK hM (hu_n nlq hL5.1) dX7_copy_166 ?_
                          refine fp_X7_43 hx hb hts hown hK hM hu_s dX7_copy_169 (fun H locs hM => ?_)
                          replace hM := hM.eq (hu_u _ _ _ _ _ _)
                          refine lv_aload_n hx hb dX7_copy_172 rfl (lv_at hl 1 rfl) ?_
                          refine lv_aload_n hx hb dX7_copy_173 rfl (lv_at hl 2 rfl) ?_
                          refine fg_X7_46 hx hb hts hown hK hM (hu_n nlq hL5.1) dX7_copy_174 ?_
                          refine fp_X7_46 hx hb hts hown hK hM hu_s dX7_copy_177 (fun H locs hM => ?_)
                          replace hM := hM.eq (hu_u _ _ _ _ _ _)
                          refine lv_aload_n hx hb dX7_copy_180 rfl (lv_at hl 1 rfl) ?_
                          refine lv_aload_n hx hb dX7_copy_181 rfl (lv_at hl 2 rfl) ?_
                          refine fg_X7_49 hx hb hts hown hK hM (hu_n nlq hL5.1) dX7_copy_182 ?_
                          refine fp_X7_49 hx hb hts hown hK hM hu_s dX7_copy_185 (fun H locs hM => ?_)
                          replace hM := hM.eq (hu_u _ _ _ _ _ _)
                          have hV7 := hV5.setLand (nu N 4 0) now nu_s (fun k hk => by rw [nu_n (by omega)]; exact Nat.le_trans (hL.cnt hk) (Nat.le_of_eq (by match k, hk with | 0, _ => rfl | 1, _ => rfl | 2, _ => rfl | 3, _ => rfl)))
                          have hF7 := Fr.tr hF5 (Fr.up (e := mdE Z2 (nu N 4 0) now) hV5.1)
                          refine lv_aload_n hx hb dX7_copy_188 rfl (lv_at hl 1 rfl) ?_
                          refine g_qret (v := some q9) hx hb hr (Or.inl ⟨_, rfl⟩) hlocks hM (Nat.le_of_ble_eq_true rfl) (Nat.le_of_ble_eq_true rfl) ⟨q9, Z2, rfl, ?_, hF7⟩ dX7_copy_189
                          rw [show cpR N U = V5 from eW3.symm]
                          exact hV7
                    exact L115 (N 3 + 1) 0 (Nat.zero_le _) (by omega) _ _ _ _ _ eW2 hV5 hF5 hM hl
              exact L80 (N 2 + 1) 0 (Nat.zero_le _) (by omega) _ _ _ _ _ eW1 hV5 hF5 hM hl
        exact L45 (N 1 + 1) 0 (Nat.zero_le _) (by omega) _ _ _ _ _ eW0 hV5 hF5 hM hl
  exact L10 (N 0 + 1) 0 (Nat.zero_le _) (by omega) _ _ _ _ _ rfl hV1 hG1 hM hl
def q_X7_between (N : Nat → Nat) (U : Tb) (now : Int32) (p0 : Int32) : Int32 := (sa (sa 0 (fun j => if p0 = (-1 : Int32) then U 1 j 2 else if U 1 j 3 = p0 then U 1 j 2 else 0) (N 1)) (fun j => if p0 = (-1 : Int32) then U 2 j 2 else if U 2 j 3 = p0 then U 2 j 2 else 0) (N 2))
set_option maxHeartbeats 4000000 in
set_option maxRecDepth 100000 in
theorem c_X7_between (l : Launch) (G : GG) (M : HM) (t h0 : Nat) (Z : LZ) (N : Nat → Nat) (U : Tb) (now : Int32) (p0 : Int32) (hL : MdR G M t h0 Z N U now)   : Mi l yX7_between (.code yX7_between cX7_between 4 (some .int) :: AL) 0 0 0 0 [.ref h0, .int p0] G M (fun r M' => r = q_X7_between N U now p0 ∧ M' = M) := by
  refine Mi.go (by decide) (Nat.le_of_ble_eq_true rfl) ?_
  intro p e s m below meth c ls hx hb hr hml hown hlocks hname hts hK hM hl
  have hown : s.vm.findClass RX7 = some m.cls := hown
  have hl : lv_has ls 4 [(0, .ref h0), (1, .int p0)] := hl
  have hn0 := hL.cnt (k := 0) (by decide)
  have hn09 : N 0 ≤ 8 := by have : N 0 ≤ 8 := hn0; omega
  have hn1 := hL.cnt (k := 1) (by decide)
  have hn19 : N 1 ≤ 8 := by have : N 1 ≤ 4 := hn1; omega
  have hn2 := hL.cnt (k := 2) (by decide)
  have hn29 : N 2 ≤ 8 := by have : N 2 ≤ 4 := hn2; omega
  have hn3 := hL.cnt (k := 3) (by decide)
  have hn39 : N 3 ≤ 8 := by have : N 3 ≤ 3 := hn3; omega
  refine lv_iconst (v := (0 : Int32)) hx hb dX7_between_0 (by decide) ?_
  refine lv_istore_n (lv' := [(2, .int (0 : Int32)), (0, .ref h0), (1, .int p0)]) hx hb dX7_between_1 rfl hl (by decide) rfl (fun ls hl => ?_)
  refine lv_iconst (v := (0 : Int32)) hx hb dX7_between_2 (by decide) ?_
  refine lv_istore_n (lv' := [(3, .int (0 : Int32)), (2, .int (0 : Int32)), (0, .ref h0), (1, .int p0)]) hx hb dX7_between_3 rfl hl (by decide) rfl (fun ls hl => ?_)
  have L4 : ∀ (n i : Nat), i ≤ N 1 → N 1 - i < n → ∀ (H : Heap) (locs : List Loc) (ls : Array Slot), Wd G M s H locs → lv_has ls 4 [(3, .int (nI i)), (2, .int (sa 0 (fun j => if p0 = (-1 : Int32) then U 1 j 2 else if U 1 j 3 = p0 then U 1 j 2 else 0) i)), (0, .ref h0), (1, .int p0)] → W p l e ({ frames := 0, cells := 0, slots := 0, locals := 0 } : Room) s m [.ref h0, .int p0].toArray below meth c H locs 0 0 (MQ below (va_Qi (fun r M' => r = q_X7_between N U now p0 ∧ M' = M) (gB G) (gA G)) [.ref h0, .int p0].toArray s 0 0 (gA G)) (F0 m 4 ls []) := by
    intro n
    induction n with
    | zero => intro i h1 h2; omega
    | succ n ih =>
      intro i h1 h9 H locs ls hM hl
      refine lv_iload_n hx hb dX7_between_4 rfl (lv_at hl 0 rfl) ?_
      refine lv_aload_n hx hb dX7_between_5 rfl (lv_at hl 2 rfl) ?_
      refine fg_X7_43 hx hb hts hown hK hM hL.1 dX7_between_6 ?_
      refine lv_icmp_ge (tgt := 50) hx hb dX7_between_9 (by decide) (fun c1 => ?_) (fun c1 => ?_)
      · have hi : i = N 1 := by
          have := (nI_leI (by omega) (by omega)).mp c1
          omega
        subst hi
        refine lv_iconst (v := (0 : Int32)) hx hb dX7_between_50 (by decide) ?_
        refine lv_istore_n (lv' := [(3, .int (0 : Int32)), (2, .int (sa 0 (fun j => if p0 = (-1 : Int32) then U 1 j 2 else if U 1 j 3 = p0 then U 1 j 2 else 0) (N 1))), (0, .ref h0), (1, .int p0)]) hx hb dX7_between_51 rfl hl (by decide) rfl (fun ls hl => ?_)
        have L52 : ∀ (n i : Nat), i ≤ N 2 → N 2 - i < n → ∀ (H : Heap) (locs : List Loc) (ls : Array Slot), Wd G M s H locs → lv_has ls 4 [(3, .int (nI i)), (2, .int (sa (sa 0 (fun j => if p0 = (-1 : Int32) then U 1 j 2 else if U 1 j 3 = p0 then U 1 j 2 else 0) (N 1)) (fun j => if p0 = (-1 : Int32) then U 2 j 2 else if U 2 j 3 = p0 then U 2 j 2 else 0) i)), (0, .ref h0), (1, .int p0)] → W p l e ({ frames := 0, cells := 0, slots := 0, locals := 0 } : Room) s m [.ref h0, .int p0].toArray below meth c H locs 0 0 (MQ below (va_Qi (fun r M' => r = q_X7_between N U now p0 ∧ M' = M) (gB G) (gA G)) [.ref h0, .int p0].toArray s 0 0 (gA G)) (F0 m 52 ls []) := by
          intro n
          induction n with
          | zero => intro i h1 h2; omega
          | succ n ih =>
            intro i h1 h9 H locs ls hM hl
            refine lv_iload_n hx hb dX7_between_52 rfl (lv_at hl 0 rfl) ?_
            refine lv_aload_n hx hb dX7_between_53 rfl (lv_at hl 2 rfl) ?_
            refine fg_X7_46 hx hb hts hown hK hM hL.1 dX7_between_54 ?_
            refine lv_icmp_ge (tgt := 98) hx hb dX7_between_57 (by decide) (fun c2 => ?_) (fun c2 => ?_)
            · have hi : i = N 2 := by
                have := (nI_leI (by omega) (by omega)).mp c2
                omega
              subst hi
              refine lv_iload_n hx hb dX7_between_98 rfl (lv_at hl 1 rfl) ?_
              exact g_iret hx hb hr hlocks hM (Nat.zero_le _) (Nat.zero_le _) ⟨(by unfold q_X7_between; rfl), rfl⟩ dX7_between_99
            · have hi : i < N 2 := by
                rcases Nat.lt_or_ge i (N 2) with z | z
                · exact z
                · exact absurd (nI_le z (by omega)) c2
              refine lv_iload_n hx hb dX7_between_60 rfl (lv_at hl 1 rfl) ?_
              refine lv_iload_n hx hb dX7_between_61 rfl (lv_at hl 3 rfl) ?_
              refine lv_iconst (v := (-1 : Int32)) hx hb dX7_between_62 (by decide) ?_
              refine lv_icmp_eq (tgt := 78) hx hb dX7_between_63 (by decide) (fun c3 => ?_) (fun c3 => ?_)
              · refine lv_aload_n hx hb dX7_between_78 rfl (lv_at hl 2 rfl) ?_
                refine fg_X7_19 hx hb hts hown hK hM hL.1 dX7_between_79 ?_
                refine lv_iload_n hx hb dX7_between_82 rfl (lv_at hl 0 rfl) ?_
                refine g_aaldN hx hb hK hM (hL.outer (k := 2) (by decide)) (Nat.lt_of_lt_of_le hi hn2) (by show 4 < 1000; decide) dX7_between_83 ?_
                refine lv_iconst (v := (2 : Int32)) hx hb dX7_between_84 (by decide) ?_
                refine ia10_2 hx hb hK hM (hL.row (k := 2) (by decide) (Nat.lt_of_lt_of_le hi hn2)) dX7_between_85 ?_
                refine lv_goto (tgt := 90) hx hb dX7_between_86 (by decide) ?_
                refine lv_iadd hx hb dX7_between_90 ?_
                refine lv_istore_n (lv' := [(2, .int ((sa (sa 0 (fun j => if p0 = (-1 : Int32) then U 1 j 2 else if U 1 j 3 = p0 then U 1 j 2 else 0) (N 1)) (fun j => if p0 = (-1 : Int32) then U 2 j 2 else if U 2 j 3 = p0 then U 2 j 2 else 0) i) + (U 2 i 2))), (3, .int (nI i)), (0, .ref h0), (1, .int p0)]) hx hb dX7_between_91 rfl hl (by decide) rfl (fun ls hl => ?_)
                refine lv_iinc (v := (nI (i + 1))) (lv' := [(3, .int (nI (i + 1))), (2, .int ((sa (sa 0 (fun j => if p0 = (-1 : Int32) then U 1 j 2 else if U 1 j 3 = p0 then U 1 j 2 else 0) (N 1)) (fun j => if p0 = (-1 : Int32) then U 2 j 2 else if U 2 j 3 = p0 then U 2 j 2 else 0) i) + (U 2 i 2))), (0, .ref h0), (1, .int p0)]) hx hb dX7_between_92 hl (k := 1) rfl (nI_1 i) (by decide) rfl (fun ls hl => ?_)
                refine lv_goto (tgt := 52) hx hb dX7_between_95 (by decide) ?_
                have ea : sa (sa 0 (fun j => if p0 = (-1 : Int32) then U 1 j 2 else if U 1 j 3 = p0 then U 1 j 2 else 0) (N 1)) (fun j => if p0 = (-1 : Int32) then U 2 j 2 else if U 2 j 3 = p0 then U 2 j 2 else 0) (i + 1) = ((sa (sa 0 (fun j => if p0 = (-1 : Int32) then U 1 j 2 else if U 1 j 3 = p0 then U 1 j 2 else 0) (N 1)) (fun j => if p0 = (-1 : Int32) then U 2 j 2 else if U 2 j 3 = p0 then U 2 j 2 else 0) i) + (U 2 i 2)) := by rw [sa_s]; show sa (sa 0 (fun j => if p0 = (-1 : Int32) then U 1 j 2 else if U 1 j 3 = p0 then U 1 j 2 else 0) (N 1)) (fun j => if p0 = (-1 : Int32) then U 2 j 2 else if U 2 j 3 = p0 then U 2 j 2 else 0) i + (if p0 = (-1 : Int32) then U 2 i 2 else if U 2 i 3 = p0 then U 2 i 2 else 0) = _; rw [if_pos c3]
                exact ih (i + 1) (by omega) (by omega) _ _ _ hM (by rw [ea]; exact lv_sub hl [0, 1, 2, 3] rfl)
              · refine lv_aload_n hx hb dX7_between_66 rfl (lv_at hl 2 rfl) ?_
                refine fg_X7_19 hx hb hts hown hK hM hL.1 dX7_between_67 ?_
                refine lv_iload_n hx hb dX7_between_70 rfl (lv_at hl 0 rfl) ?_
                refine g_aaldN hx hb hK hM (hL.outer (k := 2) (by decide)) (Nat.lt_of_lt_of_le hi hn2) (by show 4 < 1000; decide) dX7_between_71 ?_
                refine lv_iconst (v := (3 : Int32)) hx hb dX7_between_72 (by decide) ?_
                refine ia10_3 hx hb hK hM (hL.row (k := 2) (by decide) (Nat.lt_of_lt_of_le hi hn2)) dX7_between_73 ?_
                refine lv_iload_n hx hb dX7_between_74 rfl (lv_at hl 3 rfl) ?_
                refine lv_icmp_ne (tgt := 89) hx hb dX7_between_75 (by decide) (fun c4 => ?_) (fun c4 => ?_)
                · refine lv_iconst (v := (0 : Int32)) hx hb dX7_between_89 (by decide) ?_
                  refine lv_iadd hx hb dX7_between_90 ?_
                  refine lv_istore_n (lv' := [(2, .int ((sa (sa 0 (fun j => if p0 = (-1 : Int32) then U 1 j 2 else if U 1 j 3 = p0 then U 1 j 2 else 0) (N 1)) (fun j => if p0 = (-1 : Int32) then U 2 j 2 else if U 2 j 3 = p0 then U 2 j 2 else 0) i) + (0 : Int32))), (3, .int (nI i)), (0, .ref h0), (1, .int p0)]) hx hb dX7_between_91 rfl hl (by decide) rfl (fun ls hl => ?_)
                  refine lv_iinc (v := (nI (i + 1))) (lv' := [(3, .int (nI (i + 1))), (2, .int ((sa (sa 0 (fun j => if p0 = (-1 : Int32) then U 1 j 2 else if U 1 j 3 = p0 then U 1 j 2 else 0) (N 1)) (fun j => if p0 = (-1 : Int32) then U 2 j 2 else if U 2 j 3 = p0 then U 2 j 2 else 0) i) + (0 : Int32))), (0, .ref h0), (1, .int p0)]) hx hb dX7_between_92 hl (k := 1) rfl (nI_1 i) (by decide) rfl (fun ls hl => ?_)
                  refine lv_goto (tgt := 52) hx hb dX7_between_95 (by decide) ?_
                  have ea : sa (sa 0 (fun j => if p0 = (-1 : Int32) then U 1 j 2 else if U 1 j 3 = p0 then U 1 j 2 else 0) (N 1)) (fun j => if p0 = (-1 : Int32) then U 2 j 2 else if U 2 j 3 = p0 then U 2 j 2 else 0) (i + 1) = ((sa (sa 0 (fun j => if p0 = (-1 : Int32) then U 1 j 2 else if U 1 j 3 = p0 then U 1 j 2 else 0) (N 1)) (fun j => if p0 = (-1 : Int32) then U 2 j 2 else if U 2 j 3 = p0 then U 2 j 2 else 0) i) + (0 : Int32)) := by rw [sa_s]; show sa (sa 0 (fun j => if p0 = (-1 : Int32) then U 1 j 2 else if U 1 j 3 = p0 then U 1 j 2 else 0) (N 1)) (fun j => if p0 = (-1 : Int32) then U 2 j 2 else if U 2 j 3 = p0 then U 2 j 2 else 0) i + (if p0 = (-1 : Int32) then U 2 i 2 else if U 2 i 3 = p0 then U 2 i 2 else 0) = _; rw [if_neg c3, if_neg c4]
                  exact ih (i + 1) (by omega) (by omega) _ _ _ hM (by rw [ea]; exact lv_sub hl [0, 1, 2, 3] rfl)
                · refine lv_aload_n hx hb dX7_between_78 rfl (lv_at hl 2 rfl) ?_
                  refine fg_X7_19 hx hb hts hown hK hM hL.1 dX7_between_79 ?_
                  refine lv_iload_n hx hb dX7_between_82 rfl (lv_at hl 0 rfl) ?_
                  refine g_aaldN hx hb hK hM (hL.outer (k := 2) (by decide)) (Nat.lt_of_lt_of_le hi hn2) (by show 4 < 1000; decide) dX7_between_83 ?_
                  refine lv_iconst (v := (2 : Int32)) hx hb dX7_between_84 (by decide) ?_
                  refine ia10_2 hx hb hK hM (hL.row (k := 2) (by decide) (Nat.lt_of_lt_of_le hi hn2)) dX7_between_85 ?_
                  refine lv_goto (tgt := 90) hx hb dX7_between_86 (by decide) ?_
                  refine lv_iadd hx hb dX7_between_90 ?_
                  refine lv_istore_n (lv' := [(2, .int ((sa (sa 0 (fun j => if p0 = (-1 : Int32) then U 1 j 2 else if U 1 j 3 = p0 then U 1 j 2 else 0) (N 1)) (fun j => if p0 = (-1 : Int32) then U 2 j 2 else if U 2 j 3 = p0 then U 2 j 2 else 0) i) + (U 2 i 2))), (3, .int (nI i)), (0, .ref h0), (1, .int p0)]) hx hb dX7_between_91 rfl hl (by decide) rfl (fun ls hl => ?_)
                  refine lv_iinc (v := (nI (i + 1))) (lv' := [(3, .int (nI (i + 1))), (2, .int ((sa (sa 0 (fun j => if p0 = (-1 : Int32) then U 1 j 2 else if U 1 j 3 = p0 then U 1 j 2 else 0) (N 1)) (fun j => if p0 = (-1 : Int32) then U 2 j 2 else if U 2 j 3 = p0 then U 2 j 2 else 0) i) + (U 2 i 2))), (0, .ref h0), (1, .int p0)]) hx hb dX7_between_92 hl (k := 1) rfl (nI_1 i) (by decide) rfl (fun ls hl => ?_)
                  refine lv_goto (tgt := 52) hx hb dX7_between_95 (by decide) ?_
                  have ea : sa (sa 0 (fun j => if p0 = (-1 : Int32) then U 1 j 2 else if U 1 j 3 = p0 then U 1 j 2 else 0) (N 1)) (fun j => if p0 = (-1 : Int32) then U 2 j 2 else if U 2 j 3 = p0 then U 2 j 2 else 0) (i + 1) = ((sa (sa 0 (fun j => if p0 = (-1 : Int32) then U 1 j 2 else if U 1 j 3 = p0 then U 1 j 2 else 0) (N 1)) (fun j => if p0 = (-1 : Int32) then U 2 j 2 else if U 2 j 3 = p0 then U 2 j 2 else 0) i) + (U 2 i 2)) := by rw [sa_s]; show sa (sa 0 (fun j => if p0 = (-1 : Int32) then U 1 j 2 else if U 1 j 3 = p0 then U 1 j 2 else 0) (N 1)) (fun j => if p0 = (-1 : Int32) then U 2 j 2 else if U 2 j 3 = p0 then U 2 j 2 else 0) i + (if p0 = (-1 : Int32) then U 2 i 2 else if U 2 i 3 = p0 then U 2 i 2 else 0) = _; rw [if_neg c3, if_pos c4]
                  exact ih (i + 1) (by omega) (by omega) _ _ _ hM (by rw [ea]; exact lv_sub hl [0, 1, 2, 3] rfl)
        exact L52 (N 2 + 1) 0 (Nat.zero_le _) (by omega) _ _ _ hM (lv_sub hl [0, 1, 2, 3] rfl)
      · have hi : i < N 1 := by
          rcases Nat.lt_or_ge i (N 1) with z | z
          · exact z
          · exact absurd (nI_le z (by omega)) c1
        refine lv_iload_n hx hb dX7_between_12 rfl (lv_at hl 1 rfl) ?_
        refine lv_iload_n hx hb dX7_between_13 rfl (lv_at hl 3 rfl) ?_
        refine lv_iconst (v := (-1 : Int32)) hx hb dX7_between_14 (by decide) ?_
        refine lv_icmp_eq (tgt := 30) hx hb dX7_between_15 (by decide) (fun c5 => ?_) (fun c5 => ?_)
        · refine lv_aload_n hx hb dX7_between_30 rfl (lv_at hl 2 rfl) ?_
          refine fg_X7_16 hx hb hts hown hK hM hL.1 dX7_between_31 ?_
          refine lv_iload_n hx hb dX7_between_34 rfl (lv_at hl 0 rfl) ?_
          refine g_aaldN hx hb hK hM (hL.outer (k := 1) (by decide)) (Nat.lt_of_lt_of_le hi hn1) (by show 4 < 1000; decide) dX7_between_35 ?_
          refine lv_iconst (v := (2 : Int32)) hx hb dX7_between_36 (by decide) ?_
          refine ia11_2 hx hb hK hM (hL.row (k := 1) (by decide) (Nat.lt_of_lt_of_le hi hn1)) dX7_between_37 ?_
          refine lv_goto (tgt := 42) hx hb dX7_between_38 (by decide) ?_
          refine lv_iadd hx hb dX7_between_42 ?_
          refine lv_istore_n (lv' := [(2, .int ((sa 0 (fun j => if p0 = (-1 : Int32) then U 1 j 2 else if U 1 j 3 = p0 then U 1 j 2 else 0) i) + (U 1 i 2))), (3, .int (nI i)), (0, .ref h0), (1, .int p0)]) hx hb dX7_between_43 rfl hl (by decide) rfl (fun ls hl => ?_)
          refine lv_iinc (v := (nI (i + 1))) (lv' := [(3, .int (nI (i + 1))), (2, .int ((sa 0 (fun j => if p0 = (-1 : Int32) then U 1 j 2 else if U 1 j 3 = p0 then U 1 j 2 else 0) i) + (U 1 i 2))), (0, .ref h0), (1, .int p0)]) hx hb dX7_between_44 hl (k := 1) rfl (nI_1 i) (by decide) rfl (fun ls hl => ?_)
          refine lv_goto (tgt := 4) hx hb dX7_between_47 (by decide) ?_
          have ea : sa 0 (fun j => if p0 = (-1 : Int32) then U 1 j 2 else if U 1 j 3 = p0 then U 1 j 2 else 0) (i + 1) = ((sa 0 (fun j => if p0 = (-1 : Int32) then U 1 j 2 else if U 1 j 3 = p0 then U 1 j 2 else 0) i) + (U 1 i 2)) := by rw [sa_s]; show sa 0 (fun j => if p0 = (-1 : Int32) then U 1 j 2 else if U 1 j 3 = p0 then U 1 j 2 else 0) i + (if p0 = (-1 : Int32) then U 1 i 2 else if U 1 i 3 = p0 then U 1 i 2 else 0) = _; rw [if_pos c5]
          exact ih (i + 1) (by omega) (by omega) _ _ _ hM (by rw [ea]; exact lv_sub hl [0, 1, 2, 3] rfl)
        · refine lv_aload_n hx hb dX7_between_18 rfl (lv_at hl 2 rfl) ?_
          refine fg_X7_16 hx hb hts hown hK hM hL.1 dX7_between_19 ?_
          refine lv_iload_n hx hb dX7_between_22 rfl (lv_at hl 0 rfl) ?_
          refine g_aaldN hx hb hK hM (hL.outer (k := 1) (by decide)) (Nat.lt_of_lt_of_le hi hn1) (by show 4 < 1000; decide) dX7_between_23 ?_
          refine lv_iconst (v := (3 : Int32)) hx hb dX7_between_24 (by decide) ?_
          refine ia11_3 hx hb hK hM (hL.row (k := 1) (by decide) (Nat.lt_of_lt_of_le hi hn1)) dX7_between_25 ?_
          refine lv_iload_n hx hb dX7_between_26 rfl (lv_at hl 3 rfl) ?_
          refine lv_icmp_ne (tgt := 41) hx hb dX7_between_27 (by decide) (fun c6 => ?_) (fun c6 => ?_)
          · refine lv_iconst (v := (0 : Int32)) hx hb dX7_between_41 (by decide) ?_
            refine lv_iadd hx hb dX7_between_42 ?_
            refine lv_istore_n (lv' := [(2, .int ((sa 0 (fun j => if p0 = (-1 : Int32) then U 1 j 2 else if U 1 j 3 = p0 then U 1 j 2 else 0) i) + (0 : Int32))), (3, .int (nI i)), (0, .ref h0), (1, .int p0)]) hx hb dX7_between_43 rfl hl (by decide) rfl (fun ls hl => ?_)
            refine lv_iinc (v := (nI (i + 1))) (lv' := [(3, .int (nI (i + 1))), (2, .int ((sa 0 (fun j => if p0 = (-1 : Int32) then U 1 j 2 else if U 1 j 3 = p0 then U 1 j 2 else 0) i) + (0 : Int32))), (0, .ref h0), (1, .int p0)]) hx hb dX7_between_44 hl (k := 1) rfl (nI_1 i) (by decide) rfl (fun ls hl => ?_)
            refine lv_goto (tgt := 4) hx hb dX7_between_47 (by decide) ?_
            have ea : sa 0 (fun j => if p0 = (-1 : Int32) then U 1 j 2 else if U 1 j 3 = p0 then U 1 j 2 else 0) (i + 1) = ((sa 0 (fun j => if p0 = (-1 : Int32) then U 1 j 2 else if U 1 j 3 = p0 then U 1 j 2 else 0) i) + (0 : Int32)) := by rw [sa_s]; show sa 0 (fun j => if p0 = (-1 : Int32) then U 1 j 2 else if U 1 j 3 = p0 then U 1 j 2 else 0) i + (if p0 = (-1 : Int32) then U 1 i 2 else if U 1 i 3 = p0 then U 1 i 2 else 0) = _; rw [if_neg c5, if_neg c6]
            exact ih (i + 1) (by omega) (by omega) _ _ _ hM (by rw [ea]; exact lv_sub hl [0, 1, 2, 3] rfl)
          · refine lv_aload_n hx hb dX7_between_30 rfl (lv_at hl 2 rfl) ?_
            refine fg_X7_16 hx hb hts hown hK hM hL.1 dX7_between_31 ?_
            refine lv_iload_n hx hb dX7_between_34 rfl (lv_at hl 0 rfl) ?_
            refine g_aaldN hx hb hK hM (hL.outer (k := 1) (by decide)) (Nat.lt_of_lt_of_le hi hn1) (by show 4 < 1000; decide) dX7_between_35 ?_
            refine lv_iconst (v := (2 : Int32)) hx hb dX7_between_36 (by decide) ?_
            refine ia11_2 hx hb hK hM (hL.row (k := 1) (by decide) (Nat.lt_of_lt_of_le hi hn1)) dX7_between_37 ?_
            refine lv_goto (tgt := 42) hx hb dX7_between_38 (by decide) ?_
            refine lv_iadd hx hb dX7_between_42 ?_
            refine lv_istore_n (lv' := [(2, .int ((sa 0 (fun j => if p0 = (-1 : Int32) then U 1 j 2 else if U 1 j 3 = p0 then U 1 j 2 else 0) i) + (U 1 i 2))), (3, .int (nI i)), (0, .ref h0), (1, .int p0)]) hx hb dX7_between_43 rfl hl (by decide) rfl (fun ls hl => ?_)
            refine lv_iinc (v := (nI (i + 1))) (lv' := [(3, .int (nI (i + 1))), (2, .int ((sa 0 (fun j => if p0 = (-1 : Int32) then U 1 j 2 else if U 1 j 3 = p0 then U 1 j 2 else 0) i) + (U 1 i 2))), (0, .ref h0), (1, .int p0)]) hx hb dX7_between_44 hl (k := 1) rfl (nI_1 i) (by decide) rfl (fun ls hl => ?_)
            refine lv_goto (tgt := 4) hx hb dX7_between_47 (by decide) ?_
            have ea : sa 0 (fun j => if p0 = (-1 : Int32) then U 1 j 2 else if U 1 j 3 = p0 then U 1 j 2 else 0) (i + 1) = ((sa 0 (fun j => if p0 = (-1 : Int32) then U 1 j 2 else if U 1 j 3 = p0 then U 1 j 2 else 0) i) + (U 1 i 2)) := by rw [sa_s]; show sa 0 (fun j => if p0 = (-1 : Int32) then U 1 j 2 else if U 1 j 3 = p0 then U 1 j 2 else 0) i + (if p0 = (-1 : Int32) then U 1 i 2 else if U 1 i 3 = p0 then U 1 i 2 else 0) = _; rw [if_neg c5, if_pos c6]
            exact ih (i + 1) (by omega) (by omega) _ _ _ hM (by rw [ea]; exact lv_sub hl [0, 1, 2, 3] rfl)
  exact L4 (N 1 + 1) 0 (Nat.zero_le _) (by omega) _ _ _ hM (lv_sub hl [0, 1, 2, 3] rfl)
def q_X7_sentTo (N : Nat → Nat) (U : Tb) (now : Int32) (p0 : Int32) : Int32 := (sa 0 (fun j => if U 1 j 7 = p0 then 1 else 0) (N 1))
set_option maxHeartbeats 4000000 in
set_option maxRecDepth 100000 in
theorem c_X7_sentTo (l : Launch) (G : GG) (M : HM) (t h0 : Nat) (Z : LZ) (N : Nat → Nat) (U : Tb) (now : Int32) (p0 : Int32) (hL : MdR G M t h0 Z N U now)   : Mi l yX7_sentTo (.code yX7_sentTo cX7_sentTo 4 (some .int) :: AL) 0 0 0 0 [.ref h0, .int p0] G M (fun r M' => r = q_X7_sentTo N U now p0 ∧ M' = M) := by
  refine Mi.go (by decide) (Nat.le_of_ble_eq_true rfl) ?_
  intro p e s m below meth c ls hx hb hr hml hown hlocks hname hts hK hM hl
  have hown : s.vm.findClass RX7 = some m.cls := hown
  have hl : lv_has ls 4 [(0, .ref h0), (1, .int p0)] := hl
  have hn0 := hL.cnt (k := 0) (by decide)
  have hn09 : N 0 ≤ 8 := by have : N 0 ≤ 8 := hn0; omega
  have hn1 := hL.cnt (k := 1) (by decide)
  have hn19 : N 1 ≤ 8 := by have : N 1 ≤ 4 := hn1; omega
  have hn2 := hL.cnt (k := 2) (by decide)
  have hn29 : N 2 ≤ 8 := by have : N 2 ≤ 4 := hn2; omega
  have hn3 := hL.cnt (k := 3) (by decide)
  have hn39 : N 3 ≤ 8 := by have : N 3 ≤ 3 := hn3; omega
  refine lv_iconst (v := (0 : Int32)) hx hb dX7_sentTo_0 (by decide) ?_
  refine lv_istore_n (lv' := [(2, .int (0 : Int32)), (0, .ref h0), (1, .int p0)]) hx hb dX7_sentTo_1 rfl hl (by decide) rfl (fun ls hl => ?_)
  refine lv_iconst (v := (0 : Int32)) hx hb dX7_sentTo_2 (by decide) ?_
  refine lv_istore_n (lv' := [(3, .int (0 : Int32)), (2, .int (0 : Int32)), (0, .ref h0), (1, .int p0)]) hx hb dX7_sentTo_3 rfl hl (by decide) rfl (fun ls hl => ?_)
  have L4 : ∀ (n i : Nat), i ≤ N 1 → N 1 - i < n → ∀ (H : Heap) (locs : List Loc) (ls : Array Slot), Wd G M s H locs → lv_has ls 4 [(3, .int (nI i)), (2, .int (sa 0 (fun j => if U 1 j 7 = p0 then 1 else 0) i)), (0, .ref h0), (1, .int p0)] → W p l e ({ frames := 0, cells := 0, slots := 0, locals := 0 } : Room) s m [.ref h0, .int p0].toArray below meth c H locs 0 0 (MQ below (va_Qi (fun r M' => r = q_X7_sentTo N U now p0 ∧ M' = M) (gB G) (gA G)) [.ref h0, .int p0].toArray s 0 0 (gA G)) (F0 m 4 ls []) := by
    intro n
    induction n with
    | zero => intro i h1 h2; omega
    | succ n ih =>
      intro i h1 h9 H locs ls hM hl
      refine lv_iload_n hx hb dX7_sentTo_4 rfl (lv_at hl 0 rfl) ?_
      refine lv_aload_n hx hb dX7_sentTo_5 rfl (lv_at hl 2 rfl) ?_
      refine fg_X7_43 hx hb hts hown hK hM hL.1 dX7_sentTo_6 ?_
      refine lv_icmp_ge (tgt := 39) hx hb dX7_sentTo_9 (by decide) (fun c1 => ?_) (fun c1 => ?_)
      · have hi : i = N 1 := by
          have := (nI_leI (by omega) (by omega)).mp c1
          omega
        subst hi
        refine lv_iload_n hx hb dX7_sentTo_39 rfl (lv_at hl 1 rfl) ?_
        exact g_iret hx hb hr hlocks hM (Nat.zero_le _) (Nat.zero_le _) ⟨(by unfold q_X7_sentTo; rfl), rfl⟩ dX7_sentTo_40
      · have hi : i < N 1 := by
          rcases Nat.lt_or_ge i (N 1) with z | z
          · exact z
          · exact absurd (nI_le z (by omega)) c1
        refine lv_iload_n hx hb dX7_sentTo_12 rfl (lv_at hl 1 rfl) ?_
        refine lv_aload_n hx hb dX7_sentTo_13 rfl (lv_at hl 2 rfl) ?_
        refine fg_X7_16 hx hb hts hown hK hM hL.1 dX7_sentTo_14 ?_
        refine lv_iload_n hx hb dX7_sentTo_17 rfl (lv_at hl 0 rfl) ?_
        refine g_aaldN hx hb hK hM (hL.outer (k := 1) (by decide)) (Nat.lt_of_lt_of_le hi hn1) (by show 4 < 1000; decide) dX7_sentTo_18 ?_
        refine lv_bipush (v := (7 : Int32)) hx hb dX7_sentTo_19 (by decide) ?_
        refine ia11_7 hx hb hK hM (hL.row (k := 1) (by decide) (Nat.lt_of_lt_of_le hi hn1)) dX7_sentTo_21 ?_
        refine lv_iload_n hx hb dX7_sentTo_22 rfl (lv_at hl 3 rfl) ?_
        refine lv_icmp_ne (tgt := 30) hx hb dX7_sentTo_23 (by decide) (fun c2 => ?_) (fun c2 => ?_)
        · refine lv_iconst (v := (0 : Int32)) hx hb dX7_sentTo_30 (by decide) ?_
          refine lv_iadd hx hb dX7_sentTo_31 ?_
          refine lv_istore_n (lv' := [(2, .int ((sa 0 (fun j => if U 1 j 7 = p0 then 1 else 0) i) + (0 : Int32))), (3, .int (nI i)), (0, .ref h0), (1, .int p0)]) hx hb dX7_sentTo_32 rfl hl (by decide) rfl (fun ls hl => ?_)
          refine lv_iinc (v := (nI (i + 1))) (lv' := [(3, .int (nI (i + 1))), (2, .int ((sa 0 (fun j => if U 1 j 7 = p0 then 1 else 0) i) + (0 : Int32))), (0, .ref h0), (1, .int p0)]) hx hb dX7_sentTo_33 hl (k := 1) rfl (nI_1 i) (by decide) rfl (fun ls hl => ?_)
          refine lv_goto (tgt := 4) hx hb dX7_sentTo_36 (by decide) ?_
          have ea : sa 0 (fun j => if U 1 j 7 = p0 then 1 else 0) (i + 1) = ((sa 0 (fun j => if U 1 j 7 = p0 then 1 else 0) i) + (0 : Int32)) := by rw [sa_s]; show sa 0 (fun j => if U 1 j 7 = p0 then 1 else 0) i + (if U 1 i 7 = p0 then 1 else 0) = _; rw [if_neg c2]
          exact ih (i + 1) (by omega) (by omega) _ _ _ hM (by rw [ea]; exact lv_sub hl [0, 1, 2, 3] rfl)
        · refine lv_iconst (v := (1 : Int32)) hx hb dX7_sentTo_26 (by decide) ?_
          refine lv_goto (tgt := 31) hx hb dX7_sentTo_27 (by decide) ?_
          refine lv_iadd hx hb dX7_sentTo_31 ?_
          refine lv_istore_n (lv' := [(2, .int ((sa 0 (fun j => if U 1 j 7 = p0 then 1 else 0) i) + (1 : Int32))), (3, .int (nI i)), (0, .ref h0), (1, .int p0)]) hx hb dX7_sentTo_32 rfl hl (by decide) rfl (fun ls hl => ?_)
          refine lv_iinc (v := (nI (i + 1))) (lv' := [(3, .int (nI (i + 1))), (2, .int ((sa 0 (fun j => if U 1 j 7 = p0 then 1 else 0) i) + (1 : Int32))), (0, .ref h0), (1, .int p0)]) hx hb dX7_sentTo_33 hl (k := 1) rfl (nI_1 i) (by decide) rfl (fun ls hl => ?_)
          refine lv_goto (tgt := 4) hx hb dX7_sentTo_36 (by decide) ?_
          have ea : sa 0 (fun j => if U 1 j 7 = p0 then 1 else 0) (i + 1) = ((sa 0 (fun j => if U 1 j 7 = p0 then 1 else 0) i) + (1 : Int32)) := by rw [sa_s]; show sa 0 (fun j => if U 1 j 7 = p0 then 1 else 0) i + (if U 1 i 7 = p0 then 1 else 0) = _; rw [if_pos c2]
          exact ih (i + 1) (by omega) (by omega) _ _ _ hM (by rw [ea]; exact lv_sub hl [0, 1, 2, 3] rfl)
  exact L4 (N 1 + 1) 0 (Nat.zero_le _) (by omega) _ _ _ hM (lv_sub hl [0, 1, 2, 3] rfl)

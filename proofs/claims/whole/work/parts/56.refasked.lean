theorem rw8_0 : (fun _ => 0 : Nat → Int32) = rw8 0 0 0 0 0 0 0 0 := funext fun j => by
  unfold rw8
  split <;> rfl
theorem rw13_0 : (fun _ => 0 : Nat → Int32) = rw13 0 0 0 0 0 0 0 0 0 0 0 0 0 := funext fun j => by
  unfold rw13
  split <;> rfl
theorem tab_out2 {x : Int32} (lo hi : Nat) (h : ∀ k : Nat, lo ≤ k → k ≤ hi → ¬ x = nI k) : x.toInt < lo ∨ (hi : Int) < x.toInt := by
  by_cases z : x < 0
  · have := Int32.lt_iff_toInt_lt.mp z
    have h0 : (0 : Int32).toInt = 0 := by decide
    exact Or.inl (by omega)
  · obtain ⟨j, h1, h2⟩ := nI_of z
    rw [h2, nI_toInt h1]
    rcases Nat.lt_or_ge j lo with g | g
    · exact Or.inl (by omega)
    · rcases Nat.lt_or_ge hi j with g2 | g2
      · exact Or.inr (by omega)
      · exact absurd h2 (h j g g2)
theorem vp_ix {p : Int32} {n : Nat} (h : ¬ p < 0 ∧ ix p < n) : vp_in p n := fun q => by
  rcases q with q | q
  · exact h.1 q
  · exact absurd h.2 (Nat.not_lt.mpr q)
theorem in_ix {p : Int32} {c : Nat} (h : ¬ t_X8_in_0 p 0 (nI c) = 0) (hc : c < 100) : ¬ p < 0 ∧ ix p < c + 1 := by
  unfold t_X8_in_0 at h
  by_cases h1 : p < 0
  · rw [if_pos h1] at h
    exact absurd rfl h
  · rw [if_neg h1] at h
    by_cases h2 : nI c < p
    · rw [if_pos h2] at h
      exact absurd rfl h
    · refine ⟨h1, ?_⟩
      obtain ⟨e1, e2⟩ := ix_nI h1
      rcases Nat.lt_or_ge (ix p) (c + 1) with z | z
      · exact z
      · refine absurd ?_ h2
        rw [e1]
        exact (nI_ltI (by omega) (by omega)).mpr (by omega)
set_option maxHeartbeats 4000000 in
set_option maxRecDepth 100000 in
theorem c_getP (l : Launch) (G : GG) (M : HM) (t la n ar cap : Nat) (p : Int32) (mc : Int32) (g : Nat → Option Nat) (h : LsR G M t la n mc ar cap g) (h0 : ¬ p < 0) (hi : ix p < n) : Mq l yJx4a65c_get_915e3 (.code yJx4a65c_get_915e3 cJx4a65c_get_915e3 2 (some (.object "java/lang/Object")) :: AL) 2 43 0 0 [.ref la, .int p] G M (fun r M' => r = g (ix p) ∧ M' = M) := by
  have z := c_getL l G M t la n ar cap (ix p) mc g h hi
  rw [← (ix_nI h0).1] at z
  exact z
section CA
variable {p : Program} {l : Launch} {e : Env} {R : Room} {s : State} {m : MethodId} {args : Array Value} {below : List Frame} {meth : Method} {c : Code} {H : Heap} {locs : List Loc} {cells slots : Nat} {Q : State → Prop}
variable {cc : ByteArray} {pc : Nat} {ls : Array Slot} {rest : List Value} {a : Nat} {G : GG} {M : HM}
theorem g_castA (hx : p.tables.exec = Jvm.exec) (hb : c.code = cc) {own : String} {index : Nat} (hown : s.vm.findClass own = some m.cls) (hlink : (Cond.classLink own index "[I").before args s = true) (hK : Kw G s) (hM : Wd G M s H locs) {r n : Nat} {f : Nat → Int32} (ha : M a = some (r, .inl (G.2.1 0, n, .inl f))) (hdg : decode cc pc = .ok (.checkcast index, 3))
    (kk : W p l e R s m args below meth c H locs cells slots Q (F0 m (pc + 3) ls (.ref a :: rest))) : W p l e R s m args below meth c H locs cells slots Q (F0 m pc ls (.ref a :: rest)) := by
  obtain ⟨ws, hP, hD, hw⟩ := hM.1
  obtain ⟨k0, hk0⟩ := hw _ _ _ ha
  exact va_castA (D := G.1) hx hb hown hlink hP k0 hk0 (hK.1.2 0 _ rfl).2 hdg kk
end CA
def q_X8_fieldNow (N : Nat → Nat) (U : Tb) (now th pr mo : Int32) (F Lx : Row) (p0 p1 : Int32) : Int32 := if p1 = (9 : Int32) then (q_X7_between N U now p0) else (if p1 = (10 : Int32) then (if (U 0 (ix p0) 7) = 0 then (-1 : Int32) else (if (q_X7_between N U now p0) ≤ 0 then (((U 0 (ix p0) 8) * (1000 : Int32)) / (U 0 (ix p0) 7)) else (-1 : Int32))) else (if p1 = (11 : Int32) then (q_X7_sentTo N U now p0) else (rw11 (U 0 (ix p0) 0) (U 0 (ix p0) 1) (U 0 (ix p0) 2) (U 0 (ix p0) 3) (U 0 (ix p0) 4) (U 0 (ix p0) 5) (U 0 (ix p0) 6) (U 0 (ix p0) 7) (U 0 (ix p0) 8) (U 0 (ix p0) 9) (U 0 (ix p0) 10) (ix p1))))
set_option maxHeartbeats 4000000 in
set_option maxRecDepth 100000 in
theorem c_X8_fieldNow (l : Launch) (G : GG) (M : HM) (tx ma h0 fa lb t t2 : Nat) (Z : LZ) (N : Nat → Nat) (U : Tb) (now th pr mo : Int32) (F Lx : Row) (p0 p1 : Int32) (hO : XdR G M tx ma h0 fa lb th pr mo F Lx) (hL : MdR G M t h0 Z N U now) (d1 : tx ≠ t) (d2 : tx ≠ t2) (d3 : t ≠ t2)  (hf : ¬ p0 < 0 ∧ ix p0 < N 0) (hw : ¬ p1 < 0 ∧ ix p1 < 12) : Mi l yX8_fieldNow (.code yX8_fieldNow cX8_fieldNow 4 (some .int) :: AL) 1 23 0 0 [.ref ma, .int p0, .int p1] G M (fun r M' => r = (q_X8_fieldNow N U now th pr mo F Lx p0 p1) ∧ Fr t2 M M') := by
  refine Mi.go (by decide) (Nat.le_of_ble_eq_true rfl) ?_
  intro p e s m below meth c ls hx hb hr hml hown hlocks hname hts hK hM hl
  have hown : s.vm.findClass RX8 = some m.cls := hown
  have hl : lv_has ls 4 [(0, .ref ma), (1, .int p0), (2, .int p1)] := hl
  have hn0 := hL.cnt (k := 0) (by decide)
  have hn09 : N 0 ≤ 8 := by have : N 0 ≤ 8 := hn0; omega
  have hn1 := hL.cnt (k := 1) (by decide)
  have hn19 : N 1 ≤ 8 := by have : N 1 ≤ 4 := hn1; omega
  have hn2 := hL.cnt (k := 2) (by decide)
  have hn29 : N 2 ≤ 8 := by have : N 2 ≤ 4 := hn2; omega
  have hn3 := hL.cnt (k := 3) (by decide)
  have hn39 : N 3 ≤ 8 := by have : N 3 ≤ 3 := hn3; omega
  refine lv_aload_n hx hb dX8_fieldNow_0 rfl (lv_at hl 0 rfl) ?_
  refine fg_X8_10 hx hb hts hown hK hM hO.1 dX8_fieldNow_1 ?_
  refine fg_X8_57 hx hb hts hown hK hM hL.1 dX8_fieldNow_4 ?_
  refine lv_iload_n hx hb dX8_fieldNow_7 rfl (lv_at hl 1 rfl) ?_
  refine g_aaldR hx hb hK hM (hL.outer (k := 0) (by decide)) hf.1 (Nat.lt_of_lt_of_le hf.2 hn0) dX8_fieldNow_8 ?_
  refine lv_astore_n (lv' := [(3, .ref (Z.2.1 0 (ix p0))), (0, .ref ma), (1, .int p0), (2, .int p1)]) hx hb dX8_fieldNow_9 rfl hl (by decide) rfl (fun ls hl => ?_)
  refine lv_iload_n hx hb dX8_fieldNow_10 rfl (lv_at hl 3 rfl) ?_
  by_cases z1 : p1 = (9 : Int32)
  · refine lv_tableIn (off := 25) (tgt := 36) hx hb dX8_fieldNow_11 (by rw [z1]; decide) (by rw [z1]; decide) (by rw [z1]; decide) (by decide) ?_
    refine lv_aload_n hx hb dX8_fieldNow_36 rfl (lv_at hl 1 rfl) ?_
    refine fg_X8_10 hx hb hts hown hK hM hO.1 dX8_fieldNow_37 ?_
    refine lv_iload_n hx hb dX8_fieldNow_40 rfl (lv_at hl 2 rfl) ?_
    refine g_callVi (n9 := 1) (As := [.int p0]) (rest := []) hx hb hml hl.1 hown hts hK hM (c_X7_between l G _ t h0 Z N U now p0 hL) wm_X8_133 wi_X7_between wl_X7_between wn_X7 wc_X7_between (by decide +kernel) (hM.recv hK (ci := 8) rfl hL.1) ⟨Nat.le_of_ble_eq_true rfl, Nat.le_of_ble_eq_true rfl⟩ ⟨Nat.le_of_ble_eq_true rfl, Nat.le_of_ble_eq_true rfl⟩ rfl (Nat.le_of_ble_eq_true rfl) rfl dX8_fieldNow_41 (fun r_41 Mz H locs hq hM => ?_)
    have hq1 := hq.1.symm
    have hq2 := hq.2.symm
    subst hq1 hq2
    exact g_iret hx hb hr hlocks hM (Nat.le_of_ble_eq_true rfl) (Nat.le_of_ble_eq_true rfl) ⟨(by unfold q_X8_fieldNow; rw [if_pos z1]), Fr.rf⟩ dX8_fieldNow_44
  · by_cases z2 : p1 = (10 : Int32)
    · refine lv_tableIn (off := 34) (tgt := 45) hx hb dX8_fieldNow_11 (by rw [z2]; decide) (by rw [z2]; decide) (by rw [z2]; decide) (by decide) ?_
      refine lv_aload_n hx hb dX8_fieldNow_45 rfl (lv_at hl 0 rfl) ?_
      refine lv_bipush (v := (7 : Int32)) hx hb dX8_fieldNow_46 (by decide) ?_
      refine ia11_7 hx hb hK hM (hL.row (k := 0) (by decide) (Nat.lt_of_lt_of_le hf.2 hn0)) dX8_fieldNow_48 ?_
      refine lv_if_eq (tgt := 63) hx hb dX8_fieldNow_49 (by decide) (fun c3 => ?_) (fun c3 => ?_)
      · refine lv_iconst (v := (-1 : Int32)) hx hb dX8_fieldNow_63 (by decide) ?_
        refine lv_goto (tgt := 80) hx hb dX8_fieldNow_64 (by decide) ?_
        exact g_iret hx hb hr hlocks hM (Nat.le_of_ble_eq_true rfl) (Nat.le_of_ble_eq_true rfl) ⟨(by unfold q_X8_fieldNow; rw [if_neg z1, if_pos z2, if_pos c3]), Fr.rf⟩ dX8_fieldNow_80
      · refine lv_aload_n hx hb dX8_fieldNow_52 rfl (lv_at hl 1 rfl) ?_
        refine fg_X8_10 hx hb hts hown hK hM hO.1 dX8_fieldNow_53 ?_
        refine lv_iload_n hx hb dX8_fieldNow_56 rfl (lv_at hl 2 rfl) ?_
        refine g_callVi (n9 := 1) (As := [.int p0]) (rest := []) hx hb hml hl.1 hown hts hK hM (c_X7_between l G _ t h0 Z N U now p0 hL) wm_X8_133 wi_X7_between wl_X7_between wn_X7 wc_X7_between (by decide +kernel) (hM.recv hK (ci := 8) rfl hL.1) ⟨Nat.le_of_ble_eq_true rfl, Nat.le_of_ble_eq_true rfl⟩ ⟨Nat.le_of_ble_eq_true rfl, Nat.le_of_ble_eq_true rfl⟩ rfl (Nat.le_of_ble_eq_true rfl) rfl dX8_fieldNow_57 (fun r_57 Mz H locs hq hM => ?_)
        have hq1 := hq.1.symm
        have hq2 := hq.2.symm
        subst hq1 hq2
        refine lv_if_le (tgt := 67) hx hb dX8_fieldNow_60 (by decide) (fun c4 => ?_) (fun c4 => ?_)
        · refine lv_aload_n hx hb dX8_fieldNow_67 rfl (lv_at hl 0 rfl) ?_
          refine lv_bipush (v := (8 : Int32)) hx hb dX8_fieldNow_68 (by decide) ?_
          refine ia11_8 hx hb hK hM (hL.row (k := 0) (by decide) (Nat.lt_of_lt_of_le hf.2 hn0)) dX8_fieldNow_70 ?_
          refine lv_sipush (v := (1000 : Int32)) hx hb dX8_fieldNow_71 (by decide) ?_
          refine lv_imul hx hb dX8_fieldNow_74 ?_
          refine lv_aload_n hx hb dX8_fieldNow_75 rfl (lv_at hl 0 rfl) ?_
          refine lv_bipush (v := (7 : Int32)) hx hb dX8_fieldNow_76 (by decide) ?_
          refine ia11_7 hx hb hK hM (hL.row (k := 0) (by decide) (Nat.lt_of_lt_of_le hf.2 hn0)) dX8_fieldNow_78 ?_
          refine lv_idiv hx hb dX8_fieldNow_79 c3 ?_
          exact g_iret hx hb hr hlocks hM (Nat.le_of_ble_eq_true rfl) (Nat.le_of_ble_eq_true rfl) ⟨(by unfold q_X8_fieldNow; rw [if_neg z1, if_pos z2, if_neg c3, if_pos c4]), Fr.rf⟩ dX8_fieldNow_80
        · refine lv_iconst (v := (-1 : Int32)) hx hb dX8_fieldNow_63 (by decide) ?_
          refine lv_goto (tgt := 80) hx hb dX8_fieldNow_64 (by decide) ?_
          exact g_iret hx hb hr hlocks hM (Nat.le_of_ble_eq_true rfl) (Nat.le_of_ble_eq_true rfl) ⟨(by unfold q_X8_fieldNow; rw [if_neg z1, if_pos z2, if_neg c3, if_neg c4]), Fr.rf⟩ dX8_fieldNow_80
    · by_cases z5 : p1 = (11 : Int32)
      · refine lv_tableIn (off := 70) (tgt := 81) hx hb dX8_fieldNow_11 (by rw [z5]; decide) (by rw [z5]; decide) (by rw [z5]; decide) (by decide) ?_
        refine lv_aload_n hx hb dX8_fieldNow_81 rfl (lv_at hl 1 rfl) ?_
        refine fg_X8_10 hx hb hts hown hK hM hO.1 dX8_fieldNow_82 ?_
        refine lv_iload_n hx hb dX8_fieldNow_85 rfl (lv_at hl 2 rfl) ?_
        refine g_callVi (n9 := 1) (As := [.int p0]) (rest := []) hx hb hml hl.1 hown hts hK hM (c_X7_sentTo l G _ t h0 Z N U now p0 hL) wm_X8_82 wi_X7_sentTo wl_X7_sentTo wn_X7 wc_X7_sentTo (by decide +kernel) (hM.recv hK (ci := 8) rfl hL.1) ⟨Nat.le_of_ble_eq_true rfl, Nat.le_of_ble_eq_true rfl⟩ ⟨Nat.le_of_ble_eq_true rfl, Nat.le_of_ble_eq_true rfl⟩ rfl (Nat.le_of_ble_eq_true rfl) rfl dX8_fieldNow_86 (fun r_86 Mz H locs hq hM => ?_)
        have hq1 := hq.1.symm
        have hq2 := hq.2.symm
        subst hq1 hq2
        exact g_iret hx hb hr hlocks hM (Nat.le_of_ble_eq_true rfl) (Nat.le_of_ble_eq_true rfl) ⟨(by unfold q_X8_fieldNow; rw [if_neg z1, if_neg z2, if_pos z5]), Fr.rf⟩ dX8_fieldNow_89
      · refine lv_tableOut (tgt := 90) hx hb dX8_fieldNow_11 (tab_out2 9 11 (fun k h1 h2 => by
          rcases Nat.lt_or_ge k 9 with z | z
          · omega
          by_cases g9 : k = 9
          · subst g9; exact z1
          by_cases g10 : k = 10
          · subst g10; exact z2
          by_cases g11 : k = 11
          · subst g11; exact z5
          omega)) (by decide) ?_
        refine lv_aload_n hx hb dX8_fieldNow_90 rfl (lv_at hl 0 rfl) ?_
        refine lv_iload_n hx hb dX8_fieldNow_91 rfl (lv_at hl 3 rfl) ?_
        have hw9 : ix p1 < 11 := by
          rcases Nat.lt_or_ge (ix p1) 11 with z | z
          · exact z
          · exact absurd (by rw [(ix_nI hw.1).1, show ix p1 = 11 by omega]; rfl) z5
        refine g_iald hx hb hK hM (hL.row (k := 0) (by decide) (Nat.lt_of_lt_of_le hf.2 hn0)) (vp_ix ⟨hw.1, hw9⟩) dX8_fieldNow_92 ?_
        exact g_iret hx hb hr hlocks hM (Nat.le_of_ble_eq_true rfl) (Nat.le_of_ble_eq_true rfl) ⟨(by unfold q_X8_fieldNow; rw [if_neg z1, if_neg z2, if_neg z5]), Fr.rf⟩ dX8_fieldNow_93
def q_X8_combineNow (N : Nat → Nat) (U : Tb) (now th pr mo : Int32) (F Lx : Row) (p0 p1 : Int32) : Int32 := if (U 1 (ix p0) 2) = 0 then (rw8 (U 1 (ix p0) 1) (U 1 (ix p0) 2) (-1 : Int32) (U 1 (ix p0) 5) (U 1 (ix p0) 6) (U 1 (ix p0) 7) (U 1 (ix p0) 8) (U 1 (ix p0) 9) (ix p1)) else (rw8 (U 1 (ix p0) 1) (U 1 (ix p0) 2) (U 1 (ix p0) 3) (U 1 (ix p0) 5) (U 1 (ix p0) 6) (U 1 (ix p0) 7) (U 1 (ix p0) 8) (U 1 (ix p0) 9) (ix p1))
set_option maxHeartbeats 4000000 in
set_option maxRecDepth 100000 in
theorem c_X8_combineNow (l : Launch) (G : GG) (M : HM) (tx ma h0 fa lb t t2 : Nat) (Z : LZ) (N : Nat → Nat) (U : Tb) (now th pr mo : Int32) (F Lx : Row) (p0 p1 : Int32) (hO : XdR G M tx ma h0 fa lb th pr mo F Lx) (hL : MdR G M t h0 Z N U now) (d1 : tx ≠ t) (d2 : tx ≠ t2) (d3 : t ≠ t2)  (hf : ¬ p0 < 0 ∧ ix p0 < N 1) (hw : ¬ p1 < 0 ∧ ix p1 < 8) : Mi l yX8_combineNow (.code yX8_combineNow cX8_combineNow 5 (some .int) :: AL) 0 0 1 8 [.ref ma, .int p0, .int p1] G M (fun r M' => r = (q_X8_combineNow N U now th pr mo F Lx p0 p1) ∧ Fr t2 M M') := by
  refine Mi.go (by decide) (Nat.le_of_ble_eq_true rfl) ?_
  intro p e s m below meth c ls hx hb hr hml hown hlocks hname hts hK hM hl
  have hown : s.vm.findClass RX8 = some m.cls := hown
  have hl : lv_has ls 5 [(0, .ref ma), (1, .int p0), (2, .int p1)] := hl
  have hn0 := hL.cnt (k := 0) (by decide)
  have hn09 : N 0 ≤ 8 := by have : N 0 ≤ 8 := hn0; omega
  have hn1 := hL.cnt (k := 1) (by decide)
  have hn19 : N 1 ≤ 8 := by have : N 1 ≤ 4 := hn1; omega
  have hn2 := hL.cnt (k := 2) (by decide)
  have hn29 : N 2 ≤ 8 := by have : N 2 ≤ 4 := hn2; omega
  have hn3 := hL.cnt (k := 3) (by decide)
  have hn39 : N 3 ≤ 8 := by have : N 3 ≤ 3 := hn3; omega
  refine lv_aload_n hx hb dX8_combineNow_0 rfl (lv_at hl 0 rfl) ?_
  refine fg_X8_10 hx hb hts hown hK hM hO.1 dX8_combineNow_1 ?_
  refine fg_X8_70 hx hb hts hown hK hM hL.1 dX8_combineNow_4 ?_
  refine lv_iload_n hx hb dX8_combineNow_7 rfl (lv_at hl 1 rfl) ?_
  refine g_aaldR hx hb hK hM (hL.outer (k := 1) (by decide)) hf.1 (Nat.lt_of_lt_of_le hf.2 hn1) dX8_combineNow_8 ?_
  refine lv_astore_n (lv' := [(3, .ref (Z.2.1 1 (ix p0))), (0, .ref ma), (1, .int p0), (2, .int p1)]) hx hb dX8_combineNow_9 rfl hl (by decide) rfl (fun ls hl => ?_)
  refine lv_bipush (v := (8 : Int32)) hx hb dX8_combineNow_10 (by decide) ?_
  refine g_newI hx hb hK hM hts 8 (by decide) (by decide) (by decide) t2 (Nat.le_of_ble_eq_true rfl) (Nat.le_of_ble_eq_true rfl) dX8_combineNow_12 (fun q0 H hq0 hM => ?_)
  rw [rw8_0] at hM
  refine lv_dup hx hb dX8_combineNow_14 rfl ?_
  refine lv_iconst (v := (0 : Int32)) hx hb dX8_combineNow_15 (by decide) ?_
  refine lv_aload_n hx hb dX8_combineNow_16 rfl (lv_at hl 0 rfl) ?_
  refine lv_iconst (v := (1 : Int32)) hx hb dX8_combineNow_17 (by decide) ?_
  refine ia11_1 hx hb hK hM (hu_n (hu_ne (hL.row (k := 1) (by decide) (Nat.lt_of_lt_of_le hf.2 hn1)) hq0 (by simp)) (hL.row (k := 1) (by decide) (Nat.lt_of_lt_of_le hf.2 hn1))) dX8_combineNow_18 ?_
  refine is8_0 hx hb hK hM hu_s dX8_combineNow_19 (fun H locs hM => ?_)
  replace hM := hM.eq (hu_u _ _ _ _ _ _)
  refine lv_dup hx hb dX8_combineNow_20 rfl ?_
  refine lv_iconst (v := (1 : Int32)) hx hb dX8_combineNow_21 (by decide) ?_
  refine lv_aload_n hx hb dX8_combineNow_22 rfl (lv_at hl 0 rfl) ?_
  refine lv_iconst (v := (2 : Int32)) hx hb dX8_combineNow_23 (by decide) ?_
  refine ia11_2 hx hb hK hM (hu_n (hu_ne (hL.row (k := 1) (by decide) (Nat.lt_of_lt_of_le hf.2 hn1)) hq0 (by simp)) (hL.row (k := 1) (by decide) (Nat.lt_of_lt_of_le hf.2 hn1))) dX8_combineNow_24 ?_
  refine is8_1 hx hb hK hM hu_s dX8_combineNow_25 (fun H locs hM => ?_)
  replace hM := hM.eq (hu_u _ _ _ _ _ _)
  refine lv_dup hx hb dX8_combineNow_26 rfl ?_
  refine lv_iconst (v := (2 : Int32)) hx hb dX8_combineNow_27 (by decide) ?_
  refine lv_aload_n hx hb dX8_combineNow_28 rfl (lv_at hl 0 rfl) ?_
  refine lv_iconst (v := (2 : Int32)) hx hb dX8_combineNow_29 (by decide) ?_
  refine ia11_2 hx hb hK hM (hu_n (hu_ne (hL.row (k := 1) (by decide) (Nat.lt_of_lt_of_le hf.2 hn1)) hq0 (by simp)) (hL.row (k := 1) (by decide) (Nat.lt_of_lt_of_le hf.2 hn1))) dX8_combineNow_30 ?_
  refine lv_if_ne (tgt := 38) hx hb dX8_combineNow_31 (by decide) (fun c1 => ?_) (fun c1 => ?_)
  · refine lv_aload_n hx hb dX8_combineNow_38 rfl (lv_at hl 0 rfl) ?_
    refine lv_iconst (v := (3 : Int32)) hx hb dX8_combineNow_39 (by decide) ?_
    refine ia11_3 hx hb hK hM (hu_n (hu_ne (hL.row (k := 1) (by decide) (Nat.lt_of_lt_of_le hf.2 hn1)) hq0 (by simp)) (hL.row (k := 1) (by decide) (Nat.lt_of_lt_of_le hf.2 hn1))) dX8_combineNow_40 ?_
    refine is8_2 hx hb hK hM hu_s dX8_combineNow_41 (fun H locs hM => ?_)
    replace hM := hM.eq (hu_u _ _ _ _ _ _)
    refine lv_dup hx hb dX8_combineNow_42 rfl ?_
    refine lv_iconst (v := (3 : Int32)) hx hb dX8_combineNow_43 (by decide) ?_
    refine lv_aload_n hx hb dX8_combineNow_44 rfl (lv_at hl 0 rfl) ?_
    refine lv_iconst (v := (5 : Int32)) hx hb dX8_combineNow_45 (by decide) ?_
    refine ia11_5 hx hb hK hM (hu_n (hu_ne (hL.row (k := 1) (by decide) (Nat.lt_of_lt_of_le hf.2 hn1)) hq0 (by simp)) (hL.row (k := 1) (by decide) (Nat.lt_of_lt_of_le hf.2 hn1))) dX8_combineNow_46 ?_
    refine is8_3 hx hb hK hM hu_s dX8_combineNow_47 (fun H locs hM => ?_)
    replace hM := hM.eq (hu_u _ _ _ _ _ _)
    refine lv_dup hx hb dX8_combineNow_48 rfl ?_
    refine lv_iconst (v := (4 : Int32)) hx hb dX8_combineNow_49 (by decide) ?_
    refine lv_aload_n hx hb dX8_combineNow_50 rfl (lv_at hl 0 rfl) ?_
    refine lv_bipush (v := (6 : Int32)) hx hb dX8_combineNow_51 (by decide) ?_
    refine ia11_6 hx hb hK hM (hu_n (hu_ne (hL.row (k := 1) (by decide) (Nat.lt_of_lt_of_le hf.2 hn1)) hq0 (by simp)) (hL.row (k := 1) (by decide) (Nat.lt_of_lt_of_le hf.2 hn1))) dX8_combineNow_53 ?_
    refine is8_4 hx hb hK hM hu_s dX8_combineNow_54 (fun H locs hM => ?_)
    replace hM := hM.eq (hu_u _ _ _ _ _ _)
    refine lv_dup hx hb dX8_combineNow_55 rfl ?_
    refine lv_iconst (v := (5 : Int32)) hx hb dX8_combineNow_56 (by decide) ?_
    refine lv_aload_n hx hb dX8_combineNow_57 rfl (lv_at hl 0 rfl) ?_
    refine lv_bipush (v := (7 : Int32)) hx hb dX8_combineNow_58 (by decide) ?_
    refine ia11_7 hx hb hK hM (hu_n (hu_ne (hL.row (k := 1) (by decide) (Nat.lt_of_lt_of_le hf.2 hn1)) hq0 (by simp)) (hL.row (k := 1) (by decide) (Nat.lt_of_lt_of_le hf.2 hn1))) dX8_combineNow_60 ?_
    refine is8_5 hx hb hK hM hu_s dX8_combineNow_61 (fun H locs hM => ?_)
    replace hM := hM.eq (hu_u _ _ _ _ _ _)
    refine lv_dup hx hb dX8_combineNow_62 rfl ?_
    refine lv_bipush (v := (6 : Int32)) hx hb dX8_combineNow_63 (by decide) ?_
    refine lv_aload_n hx hb dX8_combineNow_65 rfl (lv_at hl 0 rfl) ?_
    refine lv_bipush (v := (8 : Int32)) hx hb dX8_combineNow_66 (by decide) ?_
    refine ia11_8 hx hb hK hM (hu_n (hu_ne (hL.row (k := 1) (by decide) (Nat.lt_of_lt_of_le hf.2 hn1)) hq0 (by simp)) (hL.row (k := 1) (by decide) (Nat.lt_of_lt_of_le hf.2 hn1))) dX8_combineNow_68 ?_
    refine is8_6 hx hb hK hM hu_s dX8_combineNow_69 (fun H locs hM => ?_)
    replace hM := hM.eq (hu_u _ _ _ _ _ _)
    refine lv_dup hx hb dX8_combineNow_70 rfl ?_
    refine lv_bipush (v := (7 : Int32)) hx hb dX8_combineNow_71 (by decide) ?_
    refine lv_aload_n hx hb dX8_combineNow_73 rfl (lv_at hl 0 rfl) ?_
    refine lv_bipush (v := (9 : Int32)) hx hb dX8_combineNow_74 (by decide) ?_
    refine ia11_9 hx hb hK hM (hu_n (hu_ne (hL.row (k := 1) (by decide) (Nat.lt_of_lt_of_le hf.2 hn1)) hq0 (by simp)) (hL.row (k := 1) (by decide) (Nat.lt_of_lt_of_le hf.2 hn1))) dX8_combineNow_76 ?_
    refine is8_7 hx hb hK hM hu_s dX8_combineNow_77 (fun H locs hM => ?_)
    replace hM := hM.eq (hu_u _ _ _ _ _ _)
    refine lv_astore (lv' := [(4, .ref q0), (3, .ref (Z.2.1 1 (ix p0))), (0, .ref ma), (1, .int p0), (2, .int p1)]) hx hb dX8_combineNow_78 hl (by decide) rfl (fun ls hl => ?_)
    refine lv_aload hx hb dX8_combineNow_80 (lv_at hl 0 rfl) ?_
    refine lv_iload_n hx hb dX8_combineNow_82 rfl (lv_at hl 4 rfl) ?_
    refine g_iald hx hb hK hM hu_s (vp_ix hw) dX8_combineNow_83 ?_
    exact g_iret hx hb hr hlocks hM (Nat.le_of_ble_eq_true rfl) (Nat.le_of_ble_eq_true rfl) ⟨(by unfold q_X8_combineNow; rw [if_neg c1]), (Fr.tr Fr.rf (Fr.new hq0))⟩ dX8_combineNow_84
  · refine lv_iconst (v := (-1 : Int32)) hx hb dX8_combineNow_34 (by decide) ?_
    refine lv_goto (tgt := 41) hx hb dX8_combineNow_35 (by decide) ?_
    refine is8_2 hx hb hK hM hu_s dX8_combineNow_41 (fun H locs hM => ?_)
    replace hM := hM.eq (hu_u _ _ _ _ _ _)
    refine lv_dup hx hb dX8_combineNow_42 rfl ?_
    refine lv_iconst (v := (3 : Int32)) hx hb dX8_combineNow_43 (by decide) ?_
    refine lv_aload_n hx hb dX8_combineNow_44 rfl (lv_at hl 0 rfl) ?_
    refine lv_iconst (v := (5 : Int32)) hx hb dX8_combineNow_45 (by decide) ?_
    refine ia11_5 hx hb hK hM (hu_n (hu_ne (hL.row (k := 1) (by decide) (Nat.lt_of_lt_of_le hf.2 hn1)) hq0 (by simp)) (hL.row (k := 1) (by decide) (Nat.lt_of_lt_of_le hf.2 hn1))) dX8_combineNow_46 ?_
    refine is8_3 hx hb hK hM hu_s dX8_combineNow_47 (fun H locs hM => ?_)
    replace hM := hM.eq (hu_u _ _ _ _ _ _)
    refine lv_dup hx hb dX8_combineNow_48 rfl ?_
    refine lv_iconst (v := (4 : Int32)) hx hb dX8_combineNow_49 (by decide) ?_
    refine lv_aload_n hx hb dX8_combineNow_50 rfl (lv_at hl 0 rfl) ?_
    refine lv_bipush (v := (6 : Int32)) hx hb dX8_combineNow_51 (by decide) ?_
    refine ia11_6 hx hb hK hM (hu_n (hu_ne (hL.row (k := 1) (by decide) (Nat.lt_of_lt_of_le hf.2 hn1)) hq0 (by simp)) (hL.row (k := 1) (by decide) (Nat.lt_of_lt_of_le hf.2 hn1))) dX8_combineNow_53 ?_
    refine is8_4 hx hb hK hM hu_s dX8_combineNow_54 (fun H locs hM => ?_)
    replace hM := hM.eq (hu_u _ _ _ _ _ _)
    refine lv_dup hx hb dX8_combineNow_55 rfl ?_
    refine lv_iconst (v := (5 : Int32)) hx hb dX8_combineNow_56 (by decide) ?_
    refine lv_aload_n hx hb dX8_combineNow_57 rfl (lv_at hl 0 rfl) ?_
    refine lv_bipush (v := (7 : Int32)) hx hb dX8_combineNow_58 (by decide) ?_
    refine ia11_7 hx hb hK hM (hu_n (hu_ne (hL.row (k := 1) (by decide) (Nat.lt_of_lt_of_le hf.2 hn1)) hq0 (by simp)) (hL.row (k := 1) (by decide) (Nat.lt_of_lt_of_le hf.2 hn1))) dX8_combineNow_60 ?_
    refine is8_5 hx hb hK hM hu_s dX8_combineNow_61 (fun H locs hM => ?_)
    replace hM := hM.eq (hu_u _ _ _ _ _ _)
    refine lv_dup hx hb dX8_combineNow_62 rfl ?_
    refine lv_bipush (v := (6 : Int32)) hx hb dX8_combineNow_63 (by decide) ?_
    refine lv_aload_n hx hb dX8_combineNow_65 rfl (lv_at hl 0 rfl) ?_
    refine lv_bipush (v := (8 : Int32)) hx hb dX8_combineNow_66 (by decide) ?_
    refine ia11_8 hx hb hK hM (hu_n (hu_ne (hL.row (k := 1) (by decide) (Nat.lt_of_lt_of_le hf.2 hn1)) hq0 (by simp)) (hL.row (k := 1) (by decide) (Nat.lt_of_lt_of_le hf.2 hn1))) dX8_combineNow_68 ?_
    refine is8_6 hx hb hK hM hu_s dX8_combineNow_69 (fun H locs hM => ?_)
    replace hM := hM.eq (hu_u _ _ _ _ _ _)
    refine lv_dup hx hb dX8_combineNow_70 rfl ?_
    refine lv_bipush (v := (7 : Int32)) hx hb dX8_combineNow_71 (by decide) ?_
    refine lv_aload_n hx hb dX8_combineNow_73 rfl (lv_at hl 0 rfl) ?_
    refine lv_bipush (v := (9 : Int32)) hx hb dX8_combineNow_74 (by decide) ?_
    refine ia11_9 hx hb hK hM (hu_n (hu_ne (hL.row (k := 1) (by decide) (Nat.lt_of_lt_of_le hf.2 hn1)) hq0 (by simp)) (hL.row (k := 1) (by decide) (Nat.lt_of_lt_of_le hf.2 hn1))) dX8_combineNow_76 ?_
    refine is8_7 hx hb hK hM hu_s dX8_combineNow_77 (fun H locs hM => ?_)
    replace hM := hM.eq (hu_u _ _ _ _ _ _)
    refine lv_astore (lv' := [(4, .ref q0), (3, .ref (Z.2.1 1 (ix p0))), (0, .ref ma), (1, .int p0), (2, .int p1)]) hx hb dX8_combineNow_78 hl (by decide) rfl (fun ls hl => ?_)
    refine lv_aload hx hb dX8_combineNow_80 (lv_at hl 0 rfl) ?_
    refine lv_iload_n hx hb dX8_combineNow_82 rfl (lv_at hl 4 rfl) ?_
    refine g_iald hx hb hK hM hu_s (vp_ix hw) dX8_combineNow_83 ?_
    exact g_iret hx hb hr hlocks hM (Nat.le_of_ble_eq_true rfl) (Nat.le_of_ble_eq_true rfl) ⟨(by unfold q_X8_combineNow; rw [if_pos c1]), (Fr.tr Fr.rf (Fr.new hq0))⟩ dX8_combineNow_84
def q_X8_truckNow (N : Nat → Nat) (U : Tb) (now th pr mo : Int32) (F Lx : Row) (p0 p1 : Int32) : Int32 := if (U 2 (ix p0) 2) = 0 then (rw8 (U 2 (ix p0) 1) (U 2 (ix p0) 2) (-1 : Int32) (0 : Int32) (U 2 (ix p0) 5) (U 2 (ix p0) 6) (U 2 (ix p0) 8) (U 2 (ix p0) 9) (ix p1)) else (rw8 (U 2 (ix p0) 1) (U 2 (ix p0) 2) (U 2 (ix p0) 3) (U 2 (ix p0) 4) (U 2 (ix p0) 5) (U 2 (ix p0) 6) (U 2 (ix p0) 8) (U 2 (ix p0) 9) (ix p1))
set_option maxHeartbeats 4000000 in
set_option maxRecDepth 100000 in
theorem c_X8_truckNow (l : Launch) (G : GG) (M : HM) (tx ma h0 fa lb t t2 : Nat) (Z : LZ) (N : Nat → Nat) (U : Tb) (now th pr mo : Int32) (F Lx : Row) (p0 p1 : Int32) (hO : XdR G M tx ma h0 fa lb th pr mo F Lx) (hL : MdR G M t h0 Z N U now) (d1 : tx ≠ t) (d2 : tx ≠ t2) (d3 : t ≠ t2)  (hf : ¬ p0 < 0 ∧ ix p0 < N 2) (hw : ¬ p1 < 0 ∧ ix p1 < 8) : Mi l yX8_truckNow (.code yX8_truckNow cX8_truckNow 5 (some .int) :: AL) 0 0 1 8 [.ref ma, .int p0, .int p1] G M (fun r M' => r = (q_X8_truckNow N U now th pr mo F Lx p0 p1) ∧ Fr t2 M M') := by
  refine Mi.go (by decide) (Nat.le_of_ble_eq_true rfl) ?_
  intro p e s m below meth c ls hx hb hr hml hown hlocks hname hts hK hM hl
  have hown : s.vm.findClass RX8 = some m.cls := hown
  have hl : lv_has ls 5 [(0, .ref ma), (1, .int p0), (2, .int p1)] := hl
  have hn0 := hL.cnt (k := 0) (by decide)
  have hn09 : N 0 ≤ 8 := by have : N 0 ≤ 8 := hn0; omega
  have hn1 := hL.cnt (k := 1) (by decide)
  have hn19 : N 1 ≤ 8 := by have : N 1 ≤ 4 := hn1; omega
  have hn2 := hL.cnt (k := 2) (by decide)
  have hn29 : N 2 ≤ 8 := by have : N 2 ≤ 4 := hn2; omega
  have hn3 := hL.cnt (k := 3) (by decide)
  have hn39 : N 3 ≤ 8 := by have : N 3 ≤ 3 := hn3; omega
  refine lv_aload_n hx hb dX8_truckNow_0 rfl (lv_at hl 0 rfl) ?_
  refine fg_X8_10 hx hb hts hown hK hM hO.1 dX8_truckNow_1 ?_
  refine fg_X8_73 hx hb hts hown hK hM hL.1 dX8_truckNow_4 ?_
  refine lv_iload_n hx hb dX8_truckNow_7 rfl (lv_at hl 1 rfl) ?_
  refine g_aaldR hx hb hK hM (hL.outer (k := 2) (by decide)) hf.1 (Nat.lt_of_lt_of_le hf.2 hn2) dX8_truckNow_8 ?_
  refine lv_astore_n (lv' := [(3, .ref (Z.2.1 2 (ix p0))), (0, .ref ma), (1, .int p0), (2, .int p1)]) hx hb dX8_truckNow_9 rfl hl (by decide) rfl (fun ls hl => ?_)
  refine lv_bipush (v := (8 : Int32)) hx hb dX8_truckNow_10 (by decide) ?_
  refine g_newI hx hb hK hM hts 8 (by decide) (by decide) (by decide) t2 (Nat.le_of_ble_eq_true rfl) (Nat.le_of_ble_eq_true rfl) dX8_truckNow_12 (fun q0 H hq0 hM => ?_)
  rw [rw8_0] at hM
  refine lv_dup hx hb dX8_truckNow_14 rfl ?_
  refine lv_iconst (v := (0 : Int32)) hx hb dX8_truckNow_15 (by decide) ?_
  refine lv_aload_n hx hb dX8_truckNow_16 rfl (lv_at hl 0 rfl) ?_
  refine lv_iconst (v := (1 : Int32)) hx hb dX8_truckNow_17 (by decide) ?_
  refine ia10_1 hx hb hK hM (hu_n (hu_ne (hL.row (k := 2) (by decide) (Nat.lt_of_lt_of_le hf.2 hn2)) hq0 (by simp)) (hL.row (k := 2) (by decide) (Nat.lt_of_lt_of_le hf.2 hn2))) dX8_truckNow_18 ?_
  refine is8_0 hx hb hK hM hu_s dX8_truckNow_19 (fun H locs hM => ?_)
  replace hM := hM.eq (hu_u _ _ _ _ _ _)
  refine lv_dup hx hb dX8_truckNow_20 rfl ?_
  refine lv_iconst (v := (1 : Int32)) hx hb dX8_truckNow_21 (by decide) ?_
  refine lv_aload_n hx hb dX8_truckNow_22 rfl (lv_at hl 0 rfl) ?_
  refine lv_iconst (v := (2 : Int32)) hx hb dX8_truckNow_23 (by decide) ?_
  refine ia10_2 hx hb hK hM (hu_n (hu_ne (hL.row (k := 2) (by decide) (Nat.lt_of_lt_of_le hf.2 hn2)) hq0 (by simp)) (hL.row (k := 2) (by decide) (Nat.lt_of_lt_of_le hf.2 hn2))) dX8_truckNow_24 ?_
  refine is8_1 hx hb hK hM hu_s dX8_truckNow_25 (fun H locs hM => ?_)
  replace hM := hM.eq (hu_u _ _ _ _ _ _)
  refine lv_dup hx hb dX8_truckNow_26 rfl ?_
  refine lv_iconst (v := (2 : Int32)) hx hb dX8_truckNow_27 (by decide) ?_
  refine lv_aload_n hx hb dX8_truckNow_28 rfl (lv_at hl 0 rfl) ?_
  refine lv_iconst (v := (2 : Int32)) hx hb dX8_truckNow_29 (by decide) ?_
  refine ia10_2 hx hb hK hM (hu_n (hu_ne (hL.row (k := 2) (by decide) (Nat.lt_of_lt_of_le hf.2 hn2)) hq0 (by simp)) (hL.row (k := 2) (by decide) (Nat.lt_of_lt_of_le hf.2 hn2))) dX8_truckNow_30 ?_
  refine lv_if_ne (tgt := 38) hx hb dX8_truckNow_31 (by decide) (fun c1 => ?_) (fun c1 => ?_)
  · refine lv_aload_n hx hb dX8_truckNow_38 rfl (lv_at hl 0 rfl) ?_
    refine lv_iconst (v := (3 : Int32)) hx hb dX8_truckNow_39 (by decide) ?_
    refine ia10_3 hx hb hK hM (hu_n (hu_ne (hL.row (k := 2) (by decide) (Nat.lt_of_lt_of_le hf.2 hn2)) hq0 (by simp)) (hL.row (k := 2) (by decide) (Nat.lt_of_lt_of_le hf.2 hn2))) dX8_truckNow_40 ?_
    refine is8_2 hx hb hK hM hu_s dX8_truckNow_41 (fun H locs hM => ?_)
    replace hM := hM.eq (hu_u _ _ _ _ _ _)
    refine lv_dup hx hb dX8_truckNow_42 rfl ?_
    refine lv_iconst (v := (3 : Int32)) hx hb dX8_truckNow_43 (by decide) ?_
    refine lv_aload_n hx hb dX8_truckNow_44 rfl (lv_at hl 0 rfl) ?_
    refine lv_iconst (v := (2 : Int32)) hx hb dX8_truckNow_45 (by decide) ?_
    refine ia10_2 hx hb hK hM (hu_n (hu_ne (hL.row (k := 2) (by decide) (Nat.lt_of_lt_of_le hf.2 hn2)) hq0 (by simp)) (hL.row (k := 2) (by decide) (Nat.lt_of_lt_of_le hf.2 hn2))) dX8_truckNow_46 ?_
    refine lv_if_ne (tgt := 54) hx hb dX8_truckNow_47 (by decide) (fun c2 => ?_) (fun c2 => ?_)
    · refine lv_aload_n hx hb dX8_truckNow_54 rfl (lv_at hl 0 rfl) ?_
      refine lv_iconst (v := (4 : Int32)) hx hb dX8_truckNow_55 (by decide) ?_
      refine ia10_4 hx hb hK hM (hu_n (hu_ne (hL.row (k := 2) (by decide) (Nat.lt_of_lt_of_le hf.2 hn2)) hq0 (by simp)) (hL.row (k := 2) (by decide) (Nat.lt_of_lt_of_le hf.2 hn2))) dX8_truckNow_56 ?_
      refine is8_3 hx hb hK hM hu_s dX8_truckNow_57 (fun H locs hM => ?_)
      replace hM := hM.eq (hu_u _ _ _ _ _ _)
      refine lv_dup hx hb dX8_truckNow_58 rfl ?_
      refine lv_iconst (v := (4 : Int32)) hx hb dX8_truckNow_59 (by decide) ?_
      refine lv_aload_n hx hb dX8_truckNow_60 rfl (lv_at hl 0 rfl) ?_
      refine lv_iconst (v := (5 : Int32)) hx hb dX8_truckNow_61 (by decide) ?_
      refine ia10_5 hx hb hK hM (hu_n (hu_ne (hL.row (k := 2) (by decide) (Nat.lt_of_lt_of_le hf.2 hn2)) hq0 (by simp)) (hL.row (k := 2) (by decide) (Nat.lt_of_lt_of_le hf.2 hn2))) dX8_truckNow_62 ?_
      refine is8_4 hx hb hK hM hu_s dX8_truckNow_63 (fun H locs hM => ?_)
      replace hM := hM.eq (hu_u _ _ _ _ _ _)
      refine lv_dup hx hb dX8_truckNow_64 rfl ?_
      refine lv_iconst (v := (5 : Int32)) hx hb dX8_truckNow_65 (by decide) ?_
      refine lv_aload_n hx hb dX8_truckNow_66 rfl (lv_at hl 0 rfl) ?_
      refine lv_bipush (v := (6 : Int32)) hx hb dX8_truckNow_67 (by decide) ?_
      refine ia10_6 hx hb hK hM (hu_n (hu_ne (hL.row (k := 2) (by decide) (Nat.lt_of_lt_of_le hf.2 hn2)) hq0 (by simp)) (hL.row (k := 2) (by decide) (Nat.lt_of_lt_of_le hf.2 hn2))) dX8_truckNow_69 ?_
      refine is8_5 hx hb hK hM hu_s dX8_truckNow_70 (fun H locs hM => ?_)
      replace hM := hM.eq (hu_u _ _ _ _ _ _)
      refine lv_dup hx hb dX8_truckNow_71 rfl ?_
      refine lv_bipush (v := (6 : Int32)) hx hb dX8_truckNow_72 (by decide) ?_
      refine lv_aload_n hx hb dX8_truckNow_74 rfl (lv_at hl 0 rfl) ?_
      refine lv_bipush (v := (8 : Int32)) hx hb dX8_truckNow_75 (by decide) ?_
      refine ia10_8 hx hb hK hM (hu_n (hu_ne (hL.row (k := 2) (by decide) (Nat.lt_of_lt_of_le hf.2 hn2)) hq0 (by simp)) (hL.row (k := 2) (by decide) (Nat.lt_of_lt_of_le hf.2 hn2))) dX8_truckNow_77 ?_
      refine is8_6 hx hb hK hM hu_s dX8_truckNow_78 (fun H locs hM => ?_)
      replace hM := hM.eq (hu_u _ _ _ _ _ _)
      refine lv_dup hx hb dX8_truckNow_79 rfl ?_
      refine lv_bipush (v := (7 : Int32)) hx hb dX8_truckNow_80 (by decide) ?_
      refine lv_aload_n hx hb dX8_truckNow_82 rfl (lv_at hl 0 rfl) ?_
      refine lv_bipush (v := (9 : Int32)) hx hb dX8_truckNow_83 (by decide) ?_
      refine ia10_9 hx hb hK hM (hu_n (hu_ne (hL.row (k := 2) (by decide) (Nat.lt_of_lt_of_le hf.2 hn2)) hq0 (by simp)) (hL.row (k := 2) (by decide) (Nat.lt_of_lt_of_le hf.2 hn2))) dX8_truckNow_85 ?_
      refine is8_7 hx hb hK hM hu_s dX8_truckNow_86 (fun H locs hM => ?_)
      replace hM := hM.eq (hu_u _ _ _ _ _ _)
      refine lv_astore (lv' := [(4, .ref q0), (3, .ref (Z.2.1 2 (ix p0))), (0, .ref ma), (1, .int p0), (2, .int p1)]) hx hb dX8_truckNow_87 hl (by decide) rfl (fun ls hl => ?_)
      refine lv_aload hx hb dX8_truckNow_89 (lv_at hl 0 rfl) ?_
      refine lv_iload_n hx hb dX8_truckNow_91 rfl (lv_at hl 4 rfl) ?_
      refine g_iald hx hb hK hM hu_s (vp_ix hw) dX8_truckNow_92 ?_
      exact g_iret hx hb hr hlocks hM (Nat.le_of_ble_eq_true rfl) (Nat.le_of_ble_eq_true rfl) ⟨(by unfold q_X8_truckNow; rw [if_neg c1]), (Fr.tr Fr.rf (Fr.new hq0))⟩ dX8_truckNow_93
    · exact absurd c2 c1
  · refine lv_iconst (v := (-1 : Int32)) hx hb dX8_truckNow_34 (by decide) ?_
    refine lv_goto (tgt := 41) hx hb dX8_truckNow_35 (by decide) ?_
    refine is8_2 hx hb hK hM hu_s dX8_truckNow_41 (fun H locs hM => ?_)
    replace hM := hM.eq (hu_u _ _ _ _ _ _)
    refine lv_dup hx hb dX8_truckNow_42 rfl ?_
    refine lv_iconst (v := (3 : Int32)) hx hb dX8_truckNow_43 (by decide) ?_
    refine lv_aload_n hx hb dX8_truckNow_44 rfl (lv_at hl 0 rfl) ?_
    refine lv_iconst (v := (2 : Int32)) hx hb dX8_truckNow_45 (by decide) ?_
    refine ia10_2 hx hb hK hM (hu_n (hu_ne (hL.row (k := 2) (by decide) (Nat.lt_of_lt_of_le hf.2 hn2)) hq0 (by simp)) (hL.row (k := 2) (by decide) (Nat.lt_of_lt_of_le hf.2 hn2))) dX8_truckNow_46 ?_
    refine lv_if_ne (tgt := 54) hx hb dX8_truckNow_47 (by decide) (fun c3 => ?_) (fun c3 => ?_)
    · exact absurd c1 c3
    · refine lv_iconst (v := (0 : Int32)) hx hb dX8_truckNow_50 (by decide) ?_
      refine lv_goto (tgt := 57) hx hb dX8_truckNow_51 (by decide) ?_
      refine is8_3 hx hb hK hM hu_s dX8_truckNow_57 (fun H locs hM => ?_)
      replace hM := hM.eq (hu_u _ _ _ _ _ _)
      refine lv_dup hx hb dX8_truckNow_58 rfl ?_
      refine lv_iconst (v := (4 : Int32)) hx hb dX8_truckNow_59 (by decide) ?_
      refine lv_aload_n hx hb dX8_truckNow_60 rfl (lv_at hl 0 rfl) ?_
      refine lv_iconst (v := (5 : Int32)) hx hb dX8_truckNow_61 (by decide) ?_
      refine ia10_5 hx hb hK hM (hu_n (hu_ne (hL.row (k := 2) (by decide) (Nat.lt_of_lt_of_le hf.2 hn2)) hq0 (by simp)) (hL.row (k := 2) (by decide) (Nat.lt_of_lt_of_le hf.2 hn2))) dX8_truckNow_62 ?_
      refine is8_4 hx hb hK hM hu_s dX8_truckNow_63 (fun H locs hM => ?_)
      replace hM := hM.eq (hu_u _ _ _ _ _ _)
      refine lv_dup hx hb dX8_truckNow_64 rfl ?_
      refine lv_iconst (v := (5 : Int32)) hx hb dX8_truckNow_65 (by decide) ?_
      refine lv_aload_n hx hb dX8_truckNow_66 rfl (lv_at hl 0 rfl) ?_
      refine lv_bipush (v := (6 : Int32)) hx hb dX8_truckNow_67 (by decide) ?_
      refine ia10_6 hx hb hK hM (hu_n (hu_ne (hL.row (k := 2) (by decide) (Nat.lt_of_lt_of_le hf.2 hn2)) hq0 (by simp)) (hL.row (k := 2) (by decide) (Nat.lt_of_lt_of_le hf.2 hn2))) dX8_truckNow_69 ?_
      refine is8_5 hx hb hK hM hu_s dX8_truckNow_70 (fun H locs hM => ?_)
      replace hM := hM.eq (hu_u _ _ _ _ _ _)
      refine lv_dup hx hb dX8_truckNow_71 rfl ?_
      refine lv_bipush (v := (6 : Int32)) hx hb dX8_truckNow_72 (by decide) ?_
      refine lv_aload_n hx hb dX8_truckNow_74 rfl (lv_at hl 0 rfl) ?_
      refine lv_bipush (v := (8 : Int32)) hx hb dX8_truckNow_75 (by decide) ?_
      refine ia10_8 hx hb hK hM (hu_n (hu_ne (hL.row (k := 2) (by decide) (Nat.lt_of_lt_of_le hf.2 hn2)) hq0 (by simp)) (hL.row (k := 2) (by decide) (Nat.lt_of_lt_of_le hf.2 hn2))) dX8_truckNow_77 ?_
      refine is8_6 hx hb hK hM hu_s dX8_truckNow_78 (fun H locs hM => ?_)
      replace hM := hM.eq (hu_u _ _ _ _ _ _)
      refine lv_dup hx hb dX8_truckNow_79 rfl ?_
      refine lv_bipush (v := (7 : Int32)) hx hb dX8_truckNow_80 (by decide) ?_
      refine lv_aload_n hx hb dX8_truckNow_82 rfl (lv_at hl 0 rfl) ?_
      refine lv_bipush (v := (9 : Int32)) hx hb dX8_truckNow_83 (by decide) ?_
      refine ia10_9 hx hb hK hM (hu_n (hu_ne (hL.row (k := 2) (by decide) (Nat.lt_of_lt_of_le hf.2 hn2)) hq0 (by simp)) (hL.row (k := 2) (by decide) (Nat.lt_of_lt_of_le hf.2 hn2))) dX8_truckNow_85 ?_
      refine is8_7 hx hb hK hM hu_s dX8_truckNow_86 (fun H locs hM => ?_)
      replace hM := hM.eq (hu_u _ _ _ _ _ _)
      refine lv_astore (lv' := [(4, .ref q0), (3, .ref (Z.2.1 2 (ix p0))), (0, .ref ma), (1, .int p0), (2, .int p1)]) hx hb dX8_truckNow_87 hl (by decide) rfl (fun ls hl => ?_)
      refine lv_aload hx hb dX8_truckNow_89 (lv_at hl 0 rfl) ?_
      refine lv_iload_n hx hb dX8_truckNow_91 rfl (lv_at hl 4 rfl) ?_
      refine g_iald hx hb hK hM hu_s (vp_ix hw) dX8_truckNow_92 ?_
      exact g_iret hx hb hr hlocks hM (Nat.le_of_ble_eq_true rfl) (Nat.le_of_ble_eq_true rfl) ⟨(by unfold q_X8_truckNow; rw [if_pos c1]), (Fr.tr Fr.rf (Fr.new hq0))⟩ dX8_truckNow_93
def q_X8_manyNow (N : Nat → Nat) (U : Tb) (now th pr mo : Int32) (F Lx : Row) (p0 : Int32) : Int32 := (rw13 now (nI (N 0)) (sa 0 (fun j => U 0 j 2 - U 0 j 3) (N 0)) (nI (N 1)) (sa 0 (fun j => U 1 j 6) (N 1)) (nI (N 2)) (nI (N 3)) (nI (N 4)) mo (sa 0 (fun j => U 3 j 3) (N 3)) (q_X7_between N U now (-1 : Int32)) (sa 0 (fun j => U 1 j 9) (N 1)) (sa 0 (fun j => U 2 j 8) (N 2)) (ix p0))
set_option maxHeartbeats 4000000 in
set_option maxRecDepth 100000 in
theorem c_X8_manyNow (l : Launch) (G : GG) (M : HM) (tx ma h0 fa lb t t2 : Nat) (Z : LZ) (N : Nat → Nat) (U : Tb) (now th pr mo : Int32) (F Lx : Row) (p0 : Int32) (hO : XdR G M tx ma h0 fa lb th pr mo F Lx) (hL : MdR G M t h0 Z N U now) (d1 : tx ≠ t) (d2 : tx ≠ t2) (d3 : t ≠ t2)  (hw : ¬ p0 < 0 ∧ ix p0 < 13) : Mi l yX8_manyNow (.code yX8_manyNow cX8_manyNow 8 (some .int) :: AL) 1 23 1 13 [.ref ma, .int p0] G M (fun r M' => r = (q_X8_manyNow N U now th pr mo F Lx p0) ∧ Fr t2 M M') := by
  refine Mi.go (by decide) (Nat.le_of_ble_eq_true rfl) ?_
  intro p e s m below meth c ls hx hb hr hml hown hlocks hname hts hK hM hl
  have hown : s.vm.findClass RX8 = some m.cls := hown
  have hl : lv_has ls 8 [(0, .ref ma), (1, .int p0)] := hl
  have hn0 := hL.cnt (k := 0) (by decide)
  have hn09 : N 0 ≤ 8 := by have : N 0 ≤ 8 := hn0; omega
  have hn1 := hL.cnt (k := 1) (by decide)
  have hn19 : N 1 ≤ 8 := by have : N 1 ≤ 4 := hn1; omega
  have hn2 := hL.cnt (k := 2) (by decide)
  have hn29 : N 2 ≤ 8 := by have : N 2 ≤ 4 := hn2; omega
  have hn3 := hL.cnt (k := 3) (by decide)
  have hn39 : N 3 ≤ 8 := by have : N 3 ≤ 3 := hn3; omega
  refine lv_iconst (v := (0 : Int32)) hx hb dX8_manyNow_0 (by decide) ?_
  refine lv_istore_n (lv' := [(2, .int (0 : Int32)), (0, .ref ma), (1, .int p0)]) hx hb dX8_manyNow_1 rfl hl (by decide) rfl (fun ls hl => ?_)
  refine lv_iconst (v := (0 : Int32)) hx hb dX8_manyNow_2 (by decide) ?_
  refine lv_istore_n (lv' := [(3, .int (0 : Int32)), (2, .int (0 : Int32)), (0, .ref ma), (1, .int p0)]) hx hb dX8_manyNow_3 rfl hl (by decide) rfl (fun ls hl => ?_)
  refine lv_iconst (v := (0 : Int32)) hx hb dX8_manyNow_4 (by decide) ?_
  refine lv_istore (lv' := [(4, .int (0 : Int32)), (3, .int (0 : Int32)), (2, .int (0 : Int32)), (0, .ref ma), (1, .int p0)]) hx hb dX8_manyNow_5 hl (by decide) rfl (fun ls hl => ?_)
  refine lv_iconst (v := (0 : Int32)) hx hb dX8_manyNow_7 (by decide) ?_
  refine lv_istore (lv' := [(5, .int (0 : Int32)), (4, .int (0 : Int32)), (3, .int (0 : Int32)), (2, .int (0 : Int32)), (0, .ref ma), (1, .int p0)]) hx hb dX8_manyNow_8 hl (by decide) rfl (fun ls hl => ?_)
  refine lv_iconst (v := (0 : Int32)) hx hb dX8_manyNow_10 (by decide) ?_
  refine lv_istore (lv' := [(6, .int (0 : Int32)), (5, .int (0 : Int32)), (4, .int (0 : Int32)), (3, .int (0 : Int32)), (2, .int (0 : Int32)), (0, .ref ma), (1, .int p0)]) hx hb dX8_manyNow_11 hl (by decide) rfl (fun ls hl => ?_)
  refine lv_iconst (v := (0 : Int32)) hx hb dX8_manyNow_13 (by decide) ?_
  refine lv_istore (lv' := [(7, .int (0 : Int32)), (6, .int (0 : Int32)), (5, .int (0 : Int32)), (4, .int (0 : Int32)), (3, .int (0 : Int32)), (2, .int (0 : Int32)), (0, .ref ma), (1, .int p0)]) hx hb dX8_manyNow_14 hl (by decide) rfl (fun ls hl => ?_)
  have L16 : ∀ (n i : Nat), i ≤ N 0 → N 0 - i < n → ∀ (H : Heap) (locs : List Loc) (ls : Array Slot), Wd G M s H locs → lv_has ls 8 [(7, .int (nI i)), (6, .int (0 : Int32)), (5, .int (0 : Int32)), (4, .int (0 : Int32)), (3, .int (0 : Int32)), (2, .int (sa 0 (fun j => U 0 j 2 - U 0 j 3) i)), (0, .ref ma), (1, .int p0)] → W p l e ({ frames := 1, cells := 1, slots := 13, locals := 23 } : Room) s m [.ref ma, .int p0].toArray below meth c H locs 0 0 (MQ below (va_Qi (fun r M' => r = (q_X8_manyNow N U now th pr mo F Lx p0) ∧ Fr t2 M M') (gB G) (gA G)) [.ref ma, .int p0].toArray s 1 13 (gA G)) (F0 m 16 ls []) := by
    intro n
    induction n with
    | zero => intro i h1 h2; omega
    | succ n ih =>
      intro i h1 h9 H locs ls hM hl
      refine lv_iload hx hb dX8_manyNow_16 (lv_at hl 0 rfl) ?_
      refine lv_aload_n hx hb dX8_manyNow_18 rfl (lv_at hl 6 rfl) ?_
      refine fg_X8_10 hx hb hts hown hK hM hO.1 dX8_manyNow_19 ?_
      refine fg_X8_33 hx hb hts hown hK hM hL.1 dX8_manyNow_22 ?_
      refine lv_icmp_ge (tgt := 62) hx hb dX8_manyNow_25 (by decide) (fun c1 => ?_) (fun c1 => ?_)
      · have hi : i = N 0 := by
          have := (nI_leI (by omega) (by omega)).mp c1
          omega
        subst hi
        refine lv_iconst (v := (0 : Int32)) hx hb dX8_manyNow_62 (by decide) ?_
        refine lv_istore (lv' := [(7, .int (0 : Int32)), (6, .int (0 : Int32)), (5, .int (0 : Int32)), (4, .int (0 : Int32)), (3, .int (0 : Int32)), (2, .int (sa 0 (fun j => U 0 j 2 - U 0 j 3) (N 0))), (0, .ref ma), (1, .int p0)]) hx hb dX8_manyNow_63 hl (by decide) rfl (fun ls hl => ?_)
        have L65 : ∀ (n i : Nat), i ≤ N 1 → N 1 - i < n → ∀ (H : Heap) (locs : List Loc) (ls : Array Slot), Wd G M s H locs → lv_has ls 8 [(7, .int (nI i)), (6, .int (0 : Int32)), (5, .int (sa 0 (fun j => U 1 j 9) i)), (4, .int (0 : Int32)), (3, .int (sa 0 (fun j => U 1 j 6) i)), (2, .int (sa 0 (fun j => U 0 j 2 - U 0 j 3) (N 0))), (0, .ref ma), (1, .int p0)] → W p l e ({ frames := 1, cells := 1, slots := 13, locals := 23 } : Room) s m [.ref ma, .int p0].toArray below meth c H locs 0 0 (MQ below (va_Qi (fun r M' => r = (q_X8_manyNow N U now th pr mo F Lx p0) ∧ Fr t2 M M') (gB G) (gA G)) [.ref ma, .int p0].toArray s 1 13 (gA G)) (F0 m 65 ls []) := by
          intro n
          induction n with
          | zero => intro i h1 h2; omega
          | succ n ih =>
            intro i h1 h9 H locs ls hM hl
            refine lv_iload hx hb dX8_manyNow_65 (lv_at hl 0 rfl) ?_
            refine lv_aload_n hx hb dX8_manyNow_67 rfl (lv_at hl 6 rfl) ?_
            refine fg_X8_10 hx hb hts hown hK hM hO.1 dX8_manyNow_68 ?_
            refine fg_X8_40 hx hb hts hown hK hM hL.1 dX8_manyNow_71 ?_
            refine lv_icmp_ge (tgt := 117) hx hb dX8_manyNow_74 (by decide) (fun c2 => ?_) (fun c2 => ?_)
            · have hi : i = N 1 := by
                have := (nI_leI (by omega) (by omega)).mp c2
                omega
              subst hi
              refine lv_iconst (v := (0 : Int32)) hx hb dX8_manyNow_117 (by decide) ?_
              refine lv_istore (lv' := [(7, .int (0 : Int32)), (6, .int (0 : Int32)), (5, .int (sa 0 (fun j => U 1 j 9) (N 1))), (4, .int (0 : Int32)), (3, .int (sa 0 (fun j => U 1 j 6) (N 1))), (2, .int (sa 0 (fun j => U 0 j 2 - U 0 j 3) (N 0))), (0, .ref ma), (1, .int p0)]) hx hb dX8_manyNow_118 hl (by decide) rfl (fun ls hl => ?_)
              have L120 : ∀ (n i : Nat), i ≤ N 3 → N 3 - i < n → ∀ (H : Heap) (locs : List Loc) (ls : Array Slot), Wd G M s H locs → lv_has ls 8 [(7, .int (nI i)), (6, .int (0 : Int32)), (5, .int (sa 0 (fun j => U 1 j 9) (N 1))), (4, .int (sa 0 (fun j => U 3 j 3) i)), (3, .int (sa 0 (fun j => U 1 j 6) (N 1))), (2, .int (sa 0 (fun j => U 0 j 2 - U 0 j 3) (N 0))), (0, .ref ma), (1, .int p0)] → W p l e ({ frames := 1, cells := 1, slots := 13, locals := 23 } : Room) s m [.ref ma, .int p0].toArray below meth c H locs 0 0 (MQ below (va_Qi (fun r M' => r = (q_X8_manyNow N U now th pr mo F Lx p0) ∧ Fr t2 M M') (gB G) (gA G)) [.ref ma, .int p0].toArray s 1 13 (gA G)) (F0 m 120 ls []) := by
                intro n
                induction n with
                | zero => intro i h1 h2; omega
                | succ n ih =>
                  intro i h1 h9 H locs ls hM hl
                  refine lv_iload hx hb dX8_manyNow_120 (lv_at hl 0 rfl) ?_
                  refine lv_aload_n hx hb dX8_manyNow_122 rfl (lv_at hl 6 rfl) ?_
                  refine fg_X8_10 hx hb hts hown hK hM hO.1 dX8_manyNow_123 ?_
                  refine fg_X8_46 hx hb hts hown hK hM hL.1 dX8_manyNow_126 ?_
                  refine lv_icmp_ge (tgt := 155) hx hb dX8_manyNow_129 (by decide) (fun c3 => ?_) (fun c3 => ?_)
                  · have hi : i = N 3 := by
                      have := (nI_leI (by omega) (by omega)).mp c3
                      omega
                    subst hi
                    refine lv_iconst (v := (0 : Int32)) hx hb dX8_manyNow_155 (by decide) ?_
                    refine lv_istore (lv' := [(7, .int (0 : Int32)), (6, .int (0 : Int32)), (5, .int (sa 0 (fun j => U 1 j 9) (N 1))), (4, .int (sa 0 (fun j => U 3 j 3) (N 3))), (3, .int (sa 0 (fun j => U 1 j 6) (N 1))), (2, .int (sa 0 (fun j => U 0 j 2 - U 0 j 3) (N 0))), (0, .ref ma), (1, .int p0)]) hx hb dX8_manyNow_156 hl (by decide) rfl (fun ls hl => ?_)
                    have L158 : ∀ (n i : Nat), i ≤ N 2 → N 2 - i < n → ∀ (H : Heap) (locs : List Loc) (ls : Array Slot), Wd G M s H locs → lv_has ls 8 [(7, .int (nI i)), (6, .int (sa 0 (fun j => U 2 j 8) i)), (5, .int (sa 0 (fun j => U 1 j 9) (N 1))), (4, .int (sa 0 (fun j => U 3 j 3) (N 3))), (3, .int (sa 0 (fun j => U 1 j 6) (N 1))), (2, .int (sa 0 (fun j => U 0 j 2 - U 0 j 3) (N 0))), (0, .ref ma), (1, .int p0)] → W p l e ({ frames := 1, cells := 1, slots := 13, locals := 23 } : Room) s m [.ref ma, .int p0].toArray below meth c H locs 0 0 (MQ below (va_Qi (fun r M' => r = (q_X8_manyNow N U now th pr mo F Lx p0) ∧ Fr t2 M M') (gB G) (gA G)) [.ref ma, .int p0].toArray s 1 13 (gA G)) (F0 m 158 ls []) := by
                      intro n
                      induction n with
                      | zero => intro i h1 h2; omega
                      | succ n ih =>
                        intro i h1 h9 H locs ls hM hl
                        refine lv_iload hx hb dX8_manyNow_158 (lv_at hl 0 rfl) ?_
                        refine lv_aload_n hx hb dX8_manyNow_160 rfl (lv_at hl 6 rfl) ?_
                        refine fg_X8_10 hx hb hts hown hK hM hO.1 dX8_manyNow_161 ?_
                        refine fg_X8_43 hx hb hts hown hK hM hL.1 dX8_manyNow_164 ?_
                        refine lv_icmp_ge (tgt := 194) hx hb dX8_manyNow_167 (by decide) (fun c4 => ?_) (fun c4 => ?_)
                        · have hi : i = N 2 := by
                            have := (nI_leI (by omega) (by omega)).mp c4
                            omega
                          subst hi
                          refine lv_bipush (v := (13 : Int32)) hx hb dX8_manyNow_194 (by decide) ?_
                          refine g_newI hx hb hK hM hts 13 (by decide) (by decide) (by decide) t2 (Nat.le_of_ble_eq_true rfl) (Nat.le_of_ble_eq_true rfl) dX8_manyNow_196 (fun q0 H hq0 hM => ?_)
                          rw [rw13_0] at hM
                          refine lv_dup hx hb dX8_manyNow_198 rfl ?_
                          refine lv_iconst (v := (0 : Int32)) hx hb dX8_manyNow_199 (by decide) ?_
                          refine lv_aload_n hx hb dX8_manyNow_200 rfl (lv_at hl 6 rfl) ?_
                          refine fg_X8_10 hx hb hts hown hK hM (hu_n (hu_ne hO.1 hq0 (by simp)) hO.1) dX8_manyNow_201 ?_
                          refine fg_X8_107 hx hb hts hown hK hM (hu_n (hu_ne hL.1 hq0 (by simp)) hL.1) dX8_manyNow_204 ?_
                          refine is13_0 hx hb hK hM hu_s dX8_manyNow_207 (fun H locs hM => ?_)
                          replace hM := hM.eq (hu_u _ _ _ _ _ _)
                          refine lv_dup hx hb dX8_manyNow_208 rfl ?_
                          refine lv_iconst (v := (1 : Int32)) hx hb dX8_manyNow_209 (by decide) ?_
                          refine lv_aload_n hx hb dX8_manyNow_210 rfl (lv_at hl 6 rfl) ?_
                          refine fg_X8_10 hx hb hts hown hK hM (hu_n (hu_ne hO.1 hq0 (by simp)) hO.1) dX8_manyNow_211 ?_
                          refine fg_X8_33 hx hb hts hown hK hM (hu_n (hu_ne hL.1 hq0 (by simp)) hL.1) dX8_manyNow_214 ?_
                          refine is13_1 hx hb hK hM hu_s dX8_manyNow_217 (fun H locs hM => ?_)
                          replace hM := hM.eq (hu_u _ _ _ _ _ _)
                          refine lv_dup hx hb dX8_manyNow_218 rfl ?_
                          refine lv_iconst (v := (2 : Int32)) hx hb dX8_manyNow_219 (by decide) ?_
                          refine lv_iload_n hx hb dX8_manyNow_220 rfl (lv_at hl 5 rfl) ?_
                          refine is13_2 hx hb hK hM hu_s dX8_manyNow_221 (fun H locs hM => ?_)
                          replace hM := hM.eq (hu_u _ _ _ _ _ _)
                          refine lv_dup hx hb dX8_manyNow_222 rfl ?_
                          refine lv_iconst (v := (3 : Int32)) hx hb dX8_manyNow_223 (by decide) ?_
                          refine lv_aload_n hx hb dX8_manyNow_224 rfl (lv_at hl 6 rfl) ?_
                          refine fg_X8_10 hx hb hts hown hK hM (hu_n (hu_ne hO.1 hq0 (by simp)) hO.1) dX8_manyNow_225 ?_
                          refine fg_X8_40 hx hb hts hown hK hM (hu_n (hu_ne hL.1 hq0 (by simp)) hL.1) dX8_manyNow_228 ?_
                          refine is13_3 hx hb hK hM hu_s dX8_manyNow_231 (fun H locs hM => ?_)
                          replace hM := hM.eq (hu_u _ _ _ _ _ _)
                          refine lv_dup hx hb dX8_manyNow_232 rfl ?_
                          refine lv_iconst (v := (4 : Int32)) hx hb dX8_manyNow_233 (by decide) ?_
                          refine lv_iload_n hx hb dX8_manyNow_234 rfl (lv_at hl 4 rfl) ?_
                          refine is13_4 hx hb hK hM hu_s dX8_manyNow_235 (fun H locs hM => ?_)
                          replace hM := hM.eq (hu_u _ _ _ _ _ _)
                          refine lv_dup hx hb dX8_manyNow_236 rfl ?_
                          refine lv_iconst (v := (5 : Int32)) hx hb dX8_manyNow_237 (by decide) ?_
                          refine lv_aload_n hx hb dX8_manyNow_238 rfl (lv_at hl 6 rfl) ?_
                          refine fg_X8_10 hx hb hts hown hK hM (hu_n (hu_ne hO.1 hq0 (by simp)) hO.1) dX8_manyNow_239 ?_
                          refine fg_X8_43 hx hb hts hown hK hM (hu_n (hu_ne hL.1 hq0 (by simp)) hL.1) dX8_manyNow_242 ?_
                          refine is13_5 hx hb hK hM hu_s dX8_manyNow_245 (fun H locs hM => ?_)
                          replace hM := hM.eq (hu_u _ _ _ _ _ _)
                          refine lv_dup hx hb dX8_manyNow_246 rfl ?_
                          refine lv_bipush (v := (6 : Int32)) hx hb dX8_manyNow_247 (by decide) ?_
                          refine lv_aload_n hx hb dX8_manyNow_249 rfl (lv_at hl 6 rfl) ?_
                          refine fg_X8_10 hx hb hts hown hK hM (hu_n (hu_ne hO.1 hq0 (by simp)) hO.1) dX8_manyNow_250 ?_
                          refine fg_X8_46 hx hb hts hown hK hM (hu_n (hu_ne hL.1 hq0 (by simp)) hL.1) dX8_manyNow_253 ?_
                          refine is13_6 hx hb hK hM hu_s dX8_manyNow_256 (fun H locs hM => ?_)
                          replace hM := hM.eq (hu_u _ _ _ _ _ _)
                          refine lv_dup hx hb dX8_manyNow_257 rfl ?_
                          refine lv_bipush (v := (7 : Int32)) hx hb dX8_manyNow_258 (by decide) ?_
                          refine lv_aload_n hx hb dX8_manyNow_260 rfl (lv_at hl 6 rfl) ?_
                          refine fg_X8_10 hx hb hts hown hK hM (hu_n (hu_ne hO.1 hq0 (by simp)) hO.1) dX8_manyNow_261 ?_
                          refine fg_X8_110 hx hb hts hown hK hM (hu_n (hu_ne hL.1 hq0 (by simp)) hL.1) dX8_manyNow_264 ?_
                          refine g_callFi (n9 := 0) (As := []) (rest := [.int (7 : Int32), .ref q0, .ref q0]) hx hb hml hl.1 hown hts hK hM (c_Jx4a65c_size_8abf5 l G _ Z.2.2.1 t _ _ _ ((hL.new hq0).2.2.1.1)) (hK.1.1 0 _ rfl).2 hK.2.2.1.1 wm_X8_114 wl_Jx4a65c_size_8abf5_by_List_size wi_Jx4a65c_size_8abf5 wn_Jx4a65c wc_Jx4a65c_size_8abf5 (by decide +kernel) (hM.recv hK (ci := 0) rfl ((hL.new hq0).2.2.1.1)) ⟨Nat.le_of_ble_eq_true rfl, Nat.le_of_ble_eq_true rfl⟩ ⟨Nat.le_of_ble_eq_true rfl, Nat.le_of_ble_eq_true rfl⟩ rfl (Nat.le_of_ble_eq_true rfl) rfl dX8_manyNow_267 (fun r_267 Mz H locs hq hM => ?_)
                          have hq1 := hq.1.symm
                          have hq2 := hq.2.symm
                          subst hq1 hq2
                          refine is13_7 hx hb hK hM hu_s dX8_manyNow_272 (fun H locs hM => ?_)
                          replace hM := hM.eq (hu_u _ _ _ _ _ _)
                          refine lv_dup hx hb dX8_manyNow_273 rfl ?_
                          refine lv_bipush (v := (8 : Int32)) hx hb dX8_manyNow_274 (by decide) ?_
                          refine lv_aload_n hx hb dX8_manyNow_276 rfl (lv_at hl 6 rfl) ?_
                          refine fg_X8_27 hx hb hts hown hK hM (hu_n (hu_ne hO.1 hq0 (by simp)) hO.1) dX8_manyNow_277 ?_
                          refine is13_8 hx hb hK hM hu_s dX8_manyNow_280 (fun H locs hM => ?_)
                          replace hM := hM.eq (hu_u _ _ _ _ _ _)
                          refine lv_dup hx hb dX8_manyNow_281 rfl ?_
                          refine lv_bipush (v := (9 : Int32)) hx hb dX8_manyNow_282 (by decide) ?_
                          refine lv_iload hx hb dX8_manyNow_284 (lv_at hl 3 rfl) ?_
                          refine is13_9 hx hb hK hM hu_s dX8_manyNow_286 (fun H locs hM => ?_)
                          replace hM := hM.eq (hu_u _ _ _ _ _ _)
                          refine lv_dup hx hb dX8_manyNow_287 rfl ?_
                          refine lv_bipush (v := (10 : Int32)) hx hb dX8_manyNow_288 (by decide) ?_
                          refine lv_aload_n hx hb dX8_manyNow_290 rfl (lv_at hl 6 rfl) ?_
                          refine fg_X8_10 hx hb hts hown hK hM (hu_n (hu_ne hO.1 hq0 (by simp)) hO.1) dX8_manyNow_291 ?_
                          refine lv_iconst (v := (-1 : Int32)) hx hb dX8_manyNow_294 (by decide) ?_
                          refine g_callVi (n9 := 1) (As := [.int (-1 : Int32)]) (rest := [.int (10 : Int32), .ref q0, .ref q0]) hx hb hml hl.1 hown hts hK hM (c_X7_between l G _ t h0 Z N U now (-1 : Int32) (hL.new hq0)) wm_X8_133 wi_X7_between wl_X7_between wn_X7 wc_X7_between (by decide +kernel) (hM.recv hK (ci := 8) rfl (hL.new hq0).1) ⟨Nat.le_of_ble_eq_true rfl, Nat.le_of_ble_eq_true rfl⟩ ⟨Nat.le_of_ble_eq_true rfl, Nat.le_of_ble_eq_true rfl⟩ rfl (Nat.le_of_ble_eq_true rfl) rfl dX8_manyNow_295 (fun r_295 Mz H locs hq hM => ?_)
                          have hq1 := hq.1.symm
                          have hq2 := hq.2.symm
                          subst hq1 hq2
                          refine is13_10 hx hb hK hM hu_s dX8_manyNow_298 (fun H locs hM => ?_)
                          replace hM := hM.eq (hu_u _ _ _ _ _ _)
                          refine lv_dup hx hb dX8_manyNow_299 rfl ?_
                          refine lv_bipush (v := (11 : Int32)) hx hb dX8_manyNow_300 (by decide) ?_
                          refine lv_iload hx hb dX8_manyNow_302 (lv_at hl 2 rfl) ?_
                          refine is13_11 hx hb hK hM hu_s dX8_manyNow_304 (fun H locs hM => ?_)
                          replace hM := hM.eq (hu_u _ _ _ _ _ _)
                          refine lv_dup hx hb dX8_manyNow_305 rfl ?_
                          refine lv_bipush (v := (12 : Int32)) hx hb dX8_manyNow_306 (by decide) ?_
                          refine lv_iload hx hb dX8_manyNow_308 (lv_at hl 1 rfl) ?_
                          refine is13_12 hx hb hK hM hu_s dX8_manyNow_310 (fun H locs hM => ?_)
                          replace hM := hM.eq (hu_u _ _ _ _ _ _)
                          refine lv_astore (lv' := [(7, .ref q0), (6, .int (sa 0 (fun j => U 2 j 8) (N 2))), (5, .int (sa 0 (fun j => U 1 j 9) (N 1))), (4, .int (sa 0 (fun j => U 3 j 3) (N 3))), (3, .int (sa 0 (fun j => U 1 j 6) (N 1))), (2, .int (sa 0 (fun j => U 0 j 2 - U 0 j 3) (N 0))), (0, .ref ma), (1, .int p0)]) hx hb dX8_manyNow_311 hl (by decide) rfl (fun ls hl => ?_)
                          refine lv_aload hx hb dX8_manyNow_313 (lv_at hl 0 rfl) ?_
                          refine lv_iload_n hx hb dX8_manyNow_315 rfl (lv_at hl 7 rfl) ?_
                          refine g_iald hx hb hK hM hu_s (vp_ix hw) dX8_manyNow_316 ?_
                          exact g_iret hx hb hr hlocks hM (Nat.le_of_ble_eq_true rfl) (Nat.le_of_ble_eq_true rfl) ⟨(by unfold q_X8_manyNow; rfl), (Fr.tr Fr.rf (Fr.new hq0))⟩ dX8_manyNow_317
                        · have hi : i < N 2 := by
                            rcases Nat.lt_or_ge i (N 2) with z | z
                            · exact z
                            · exact absurd (nI_le z (by omega)) c4
                          refine lv_iload hx hb dX8_manyNow_170 (lv_at hl 1 rfl) ?_
                          refine lv_aload_n hx hb dX8_manyNow_172 rfl (lv_at hl 6 rfl) ?_
                          refine fg_X8_10 hx hb hts hown hK hM hO.1 dX8_manyNow_173 ?_
                          refine fg_X8_73 hx hb hts hown hK hM hL.1 dX8_manyNow_176 ?_
                          refine lv_iload hx hb dX8_manyNow_179 (lv_at hl 0 rfl) ?_
                          refine g_aaldN hx hb hK hM (hL.outer (k := 2) (by decide)) (Nat.lt_of_lt_of_le hi hn2) (by show 4 < 1000; decide) dX8_manyNow_181 ?_
                          refine lv_bipush (v := (8 : Int32)) hx hb dX8_manyNow_182 (by decide) ?_
                          refine ia10_8 hx hb hK hM (hL.row (k := 2) (by decide) (Nat.lt_of_lt_of_le hi hn2)) dX8_manyNow_184 ?_
                          refine lv_iadd hx hb dX8_manyNow_185 ?_
                          refine lv_istore (lv' := [(6, .int ((sa 0 (fun j => U 2 j 8) i) + (U 2 i 8))), (7, .int (nI i)), (5, .int (sa 0 (fun j => U 1 j 9) (N 1))), (4, .int (sa 0 (fun j => U 3 j 3) (N 3))), (3, .int (sa 0 (fun j => U 1 j 6) (N 1))), (2, .int (sa 0 (fun j => U 0 j 2 - U 0 j 3) (N 0))), (0, .ref ma), (1, .int p0)]) hx hb dX8_manyNow_186 hl (by decide) rfl (fun ls hl => ?_)
                          refine lv_iinc (v := (nI (i + 1))) (lv' := [(7, .int (nI (i + 1))), (6, .int ((sa 0 (fun j => U 2 j 8) i) + (U 2 i 8))), (5, .int (sa 0 (fun j => U 1 j 9) (N 1))), (4, .int (sa 0 (fun j => U 3 j 3) (N 3))), (3, .int (sa 0 (fun j => U 1 j 6) (N 1))), (2, .int (sa 0 (fun j => U 0 j 2 - U 0 j 3) (N 0))), (0, .ref ma), (1, .int p0)]) hx hb dX8_manyNow_188 hl (k := 1) rfl (nI_1 i) (by decide) rfl (fun ls hl => ?_)
                          refine lv_goto (tgt := 158) hx hb dX8_manyNow_191 (by decide) ?_
                          have ea6 : sa 0 (fun j => U 2 j 8) (i + 1) = ((sa 0 (fun j => U 2 j 8) i) + (U 2 i 8)) := rfl
                          exact ih (i + 1) (by omega) (by omega) _ _ _ hM (by rw [ea6]; exact lv_sub hl [0, 1, 2, 3, 4, 5, 6, 7] rfl)
                    exact L158 (N 2 + 1) 0 (Nat.zero_le _) (by omega) _ _ _ hM (lv_sub hl [0, 1, 2, 3, 4, 5, 6, 7] rfl)
                  · have hi : i < N 3 := by
                      rcases Nat.lt_or_ge i (N 3) with z | z
                      · exact z
                      · exact absurd (nI_le z (by omega)) c3
                    refine lv_iload hx hb dX8_manyNow_132 (lv_at hl 3 rfl) ?_
                    refine lv_aload_n hx hb dX8_manyNow_134 rfl (lv_at hl 6 rfl) ?_
                    refine fg_X8_10 hx hb hts hown hK hM hO.1 dX8_manyNow_135 ?_
                    refine fg_X8_76 hx hb hts hown hK hM hL.1 dX8_manyNow_138 ?_
                    refine lv_iload hx hb dX8_manyNow_141 (lv_at hl 0 rfl) ?_
                    refine g_aaldN hx hb hK hM (hL.outer (k := 3) (by decide)) (Nat.lt_of_lt_of_le hi hn3) (by show 3 < 1000; decide) dX8_manyNow_143 ?_
                    refine lv_iconst (v := (3 : Int32)) hx hb dX8_manyNow_144 (by decide) ?_
                    refine ia6_3 hx hb hK hM (hL.row (k := 3) (by decide) (Nat.lt_of_lt_of_le hi hn3)) dX8_manyNow_145 ?_
                    refine lv_iadd hx hb dX8_manyNow_146 ?_
                    refine lv_istore (lv' := [(4, .int ((sa 0 (fun j => U 3 j 3) i) + (U 3 i 3))), (7, .int (nI i)), (6, .int (0 : Int32)), (5, .int (sa 0 (fun j => U 1 j 9) (N 1))), (3, .int (sa 0 (fun j => U 1 j 6) (N 1))), (2, .int (sa 0 (fun j => U 0 j 2 - U 0 j 3) (N 0))), (0, .ref ma), (1, .int p0)]) hx hb dX8_manyNow_147 hl (by decide) rfl (fun ls hl => ?_)
                    refine lv_iinc (v := (nI (i + 1))) (lv' := [(7, .int (nI (i + 1))), (4, .int ((sa 0 (fun j => U 3 j 3) i) + (U 3 i 3))), (6, .int (0 : Int32)), (5, .int (sa 0 (fun j => U 1 j 9) (N 1))), (3, .int (sa 0 (fun j => U 1 j 6) (N 1))), (2, .int (sa 0 (fun j => U 0 j 2 - U 0 j 3) (N 0))), (0, .ref ma), (1, .int p0)]) hx hb dX8_manyNow_149 hl (k := 1) rfl (nI_1 i) (by decide) rfl (fun ls hl => ?_)
                    refine lv_goto (tgt := 120) hx hb dX8_manyNow_152 (by decide) ?_
                    have ea4 : sa 0 (fun j => U 3 j 3) (i + 1) = ((sa 0 (fun j => U 3 j 3) i) + (U 3 i 3)) := rfl
                    exact ih (i + 1) (by omega) (by omega) _ _ _ hM (by rw [ea4]; exact lv_sub hl [0, 2, 3, 1, 4, 5, 6, 7] rfl)
              exact L120 (N 3 + 1) 0 (Nat.zero_le _) (by omega) _ _ _ hM (lv_sub hl [0, 1, 2, 3, 4, 5, 6, 7] rfl)
            · have hi : i < N 1 := by
                rcases Nat.lt_or_ge i (N 1) with z | z
                · exact z
                · exact absurd (nI_le z (by omega)) c2
              refine lv_iload_n hx hb dX8_manyNow_77 rfl (lv_at hl 4 rfl) ?_
              refine lv_aload_n hx hb dX8_manyNow_78 rfl (lv_at hl 6 rfl) ?_
              refine fg_X8_10 hx hb hts hown hK hM hO.1 dX8_manyNow_79 ?_
              refine fg_X8_70 hx hb hts hown hK hM hL.1 dX8_manyNow_82 ?_
              refine lv_iload hx hb dX8_manyNow_85 (lv_at hl 0 rfl) ?_
              refine g_aaldN hx hb hK hM (hL.outer (k := 1) (by decide)) (Nat.lt_of_lt_of_le hi hn1) (by show 4 < 1000; decide) dX8_manyNow_87 ?_
              refine lv_bipush (v := (6 : Int32)) hx hb dX8_manyNow_88 (by decide) ?_
              refine ia11_6 hx hb hK hM (hL.row (k := 1) (by decide) (Nat.lt_of_lt_of_le hi hn1)) dX8_manyNow_90 ?_
              refine lv_iadd hx hb dX8_manyNow_91 ?_
              refine lv_istore_n (lv' := [(3, .int ((sa 0 (fun j => U 1 j 6) i) + (U 1 i 6))), (7, .int (nI i)), (6, .int (0 : Int32)), (5, .int (sa 0 (fun j => U 1 j 9) i)), (4, .int (0 : Int32)), (2, .int (sa 0 (fun j => U 0 j 2 - U 0 j 3) (N 0))), (0, .ref ma), (1, .int p0)]) hx hb dX8_manyNow_92 rfl hl (by decide) rfl (fun ls hl => ?_)
              refine lv_iload hx hb dX8_manyNow_93 (lv_at hl 3 rfl) ?_
              refine lv_aload_n hx hb dX8_manyNow_95 rfl (lv_at hl 6 rfl) ?_
              refine fg_X8_10 hx hb hts hown hK hM hO.1 dX8_manyNow_96 ?_
              refine fg_X8_70 hx hb hts hown hK hM hL.1 dX8_manyNow_99 ?_
              refine lv_iload hx hb dX8_manyNow_102 (lv_at hl 1 rfl) ?_
              refine g_aaldN hx hb hK hM (hL.outer (k := 1) (by decide)) (Nat.lt_of_lt_of_le hi hn1) (by show 4 < 1000; decide) dX8_manyNow_104 ?_
              refine lv_bipush (v := (9 : Int32)) hx hb dX8_manyNow_105 (by decide) ?_
              refine ia11_9 hx hb hK hM (hL.row (k := 1) (by decide) (Nat.lt_of_lt_of_le hi hn1)) dX8_manyNow_107 ?_
              refine lv_iadd hx hb dX8_manyNow_108 ?_
              refine lv_istore (lv' := [(5, .int ((sa 0 (fun j => U 1 j 9) i) + (U 1 i 9))), (3, .int ((sa 0 (fun j => U 1 j 6) i) + (U 1 i 6))), (7, .int (nI i)), (6, .int (0 : Int32)), (4, .int (0 : Int32)), (2, .int (sa 0 (fun j => U 0 j 2 - U 0 j 3) (N 0))), (0, .ref ma), (1, .int p0)]) hx hb dX8_manyNow_109 hl (by decide) rfl (fun ls hl => ?_)
              refine lv_iinc (v := (nI (i + 1))) (lv' := [(7, .int (nI (i + 1))), (5, .int ((sa 0 (fun j => U 1 j 9) i) + (U 1 i 9))), (3, .int ((sa 0 (fun j => U 1 j 6) i) + (U 1 i 6))), (6, .int (0 : Int32)), (4, .int (0 : Int32)), (2, .int (sa 0 (fun j => U 0 j 2 - U 0 j 3) (N 0))), (0, .ref ma), (1, .int p0)]) hx hb dX8_manyNow_111 hl (k := 2) rfl (nI_1 i) (by decide) rfl (fun ls hl => ?_)
              refine lv_goto (tgt := 65) hx hb dX8_manyNow_114 (by decide) ?_
              have ea3 : sa 0 (fun j => U 1 j 6) (i + 1) = ((sa 0 (fun j => U 1 j 6) i) + (U 1 i 6)) := rfl
              have ea5 : sa 0 (fun j => U 1 j 9) (i + 1) = ((sa 0 (fun j => U 1 j 9) i) + (U 1 i 9)) := rfl
              exact ih (i + 1) (by omega) (by omega) _ _ _ hM (by rw [ea3, ea5]; exact lv_sub hl [0, 3, 1, 4, 2, 5, 6, 7] rfl)
        exact L65 (N 1 + 1) 0 (Nat.zero_le _) (by omega) _ _ _ hM (lv_sub hl [0, 1, 2, 3, 4, 5, 6, 7] rfl)
      · have hi : i < N 0 := by
          rcases Nat.lt_or_ge i (N 0) with z | z
          · exact z
          · exact absurd (nI_le z (by omega)) c1
        refine lv_iload_n hx hb dX8_manyNow_28 rfl (lv_at hl 5 rfl) ?_
        refine lv_aload_n hx hb dX8_manyNow_29 rfl (lv_at hl 6 rfl) ?_
        refine fg_X8_10 hx hb hts hown hK hM hO.1 dX8_manyNow_30 ?_
        refine fg_X8_57 hx hb hts hown hK hM hL.1 dX8_manyNow_33 ?_
        refine lv_iload hx hb dX8_manyNow_36 (lv_at hl 0 rfl) ?_
        refine g_aaldN hx hb hK hM (hL.outer (k := 0) (by decide)) (Nat.lt_of_lt_of_le hi hn0) (by show 8 < 1000; decide) dX8_manyNow_38 ?_
        refine lv_iconst (v := (2 : Int32)) hx hb dX8_manyNow_39 (by decide) ?_
        refine ia11_2 hx hb hK hM (hL.row (k := 0) (by decide) (Nat.lt_of_lt_of_le hi hn0)) dX8_manyNow_40 ?_
        refine lv_aload_n hx hb dX8_manyNow_41 rfl (lv_at hl 6 rfl) ?_
        refine fg_X8_10 hx hb hts hown hK hM hO.1 dX8_manyNow_42 ?_
        refine fg_X8_57 hx hb hts hown hK hM hL.1 dX8_manyNow_45 ?_
        refine lv_iload hx hb dX8_manyNow_48 (lv_at hl 0 rfl) ?_
        refine g_aaldN hx hb hK hM (hL.outer (k := 0) (by decide)) (Nat.lt_of_lt_of_le hi hn0) (by show 8 < 1000; decide) dX8_manyNow_50 ?_
        refine lv_iconst (v := (3 : Int32)) hx hb dX8_manyNow_51 (by decide) ?_
        refine ia11_3 hx hb hK hM (hL.row (k := 0) (by decide) (Nat.lt_of_lt_of_le hi hn0)) dX8_manyNow_52 ?_
        refine lv_isub hx hb dX8_manyNow_53 ?_
        refine lv_iadd hx hb dX8_manyNow_54 ?_
        refine lv_istore_n (lv' := [(2, .int ((sa 0 (fun j => U 0 j 2 - U 0 j 3) i) + ((U 0 i 2) - (U 0 i 3)))), (7, .int (nI i)), (6, .int (0 : Int32)), (5, .int (0 : Int32)), (4, .int (0 : Int32)), (3, .int (0 : Int32)), (0, .ref ma), (1, .int p0)]) hx hb dX8_manyNow_55 rfl hl (by decide) rfl (fun ls hl => ?_)
        refine lv_iinc (v := (nI (i + 1))) (lv' := [(7, .int (nI (i + 1))), (2, .int ((sa 0 (fun j => U 0 j 2 - U 0 j 3) i) + ((U 0 i 2) - (U 0 i 3)))), (6, .int (0 : Int32)), (5, .int (0 : Int32)), (4, .int (0 : Int32)), (3, .int (0 : Int32)), (0, .ref ma), (1, .int p0)]) hx hb dX8_manyNow_56 hl (k := 1) rfl (nI_1 i) (by decide) rfl (fun ls hl => ?_)
        refine lv_goto (tgt := 16) hx hb dX8_manyNow_59 (by decide) ?_
        have ea2 : sa 0 (fun j => U 0 j 2 - U 0 j 3) (i + 1) = ((sa 0 (fun j => U 0 j 2 - U 0 j 3) i) + ((U 0 i 2) - (U 0 i 3))) := rfl
        exact ih (i + 1) (by omega) (by omega) _ _ _ hM (by rw [ea2]; exact lv_sub hl [0, 2, 3, 4, 5, 1, 6, 7] rfl)
  exact L16 (N 0 + 1) 0 (Nat.zero_le _) (by omega) _ _ _ hM (lv_sub hl [0, 1, 2, 3, 4, 5, 6, 7] rfl)
def q_X8_ofField (N : Nat → Nat) (U : Tb) (now th pr mo : Int32) (F Lx : Row) (p0 p1 : Int32) : Int32 := if (t_X8_in_0 p0 (0 : Int32) ((nI (N 0)) - (1 : Int32))) = 0 then t_X8_no_0 else (if (t_X8_in_0 p1 (0 : Int32) (11 : Int32)) = 0 then t_X8_no_0 else (q_X8_fieldNow N U now (0 : Int32) pr mo F Lx p0 p1))
def th_X8_ofField (N : Nat → Nat) (U : Tb) (now th pr mo : Int32) (F Lx : Row) (p0 p1 : Int32) : Int32 := if (t_X8_in_0 p0 (0 : Int32) ((nI (N 0)) - (1 : Int32))) = 0 then (1 : Int32) else (if (t_X8_in_0 p1 (0 : Int32) (11 : Int32)) = 0 then (2 : Int32) else (0 : Int32))
set_option maxHeartbeats 4000000 in
set_option maxRecDepth 100000 in
theorem c_X8_ofField (l : Launch) (G : GG) (M : HM) (tx ma h0 fa lb t t2 : Nat) (Z : LZ) (N : Nat → Nat) (U : Tb) (now th pr mo : Int32) (F Lx : Row) (p0 p1 : Int32) (hO : XdR G M tx ma h0 fa lb th pr mo F Lx) (hL : MdR G M t h0 Z N U now) (d1 : tx ≠ t) (d2 : tx ≠ t2) (d3 : t ≠ t2)   : Mi l yX8_ofField (.code yX8_ofField cX8_ofField 3 (some .int) :: AL) 2 46 0 0 [.ref ma, .int p0, .int p1] G M (fun r M' => r = (q_X8_ofField N U now th pr mo F Lx p0 p1) ∧ XP G M M' tx ma h0 fa lb t t2 N U now (th_X8_ofField N U now th pr mo F Lx p0 p1) pr mo F Lx) := by
  refine Mi.go (by decide) (Nat.le_of_ble_eq_true rfl) ?_
  intro p e s m below meth c ls hx hb hr hml hown hlocks hname hts hK hM hl
  have hown : s.vm.findClass RX8 = some m.cls := hown
  have hl : lv_has ls 3 [(0, .ref ma), (1, .int p0), (2, .int p1)] := hl
  have hn0 := hL.cnt (k := 0) (by decide)
  have hn09 : N 0 ≤ 8 := by have : N 0 ≤ 8 := hn0; omega
  have hn1 := hL.cnt (k := 1) (by decide)
  have hn19 : N 1 ≤ 8 := by have : N 1 ≤ 4 := hn1; omega
  have hn2 := hL.cnt (k := 2) (by decide)
  have hn29 : N 2 ≤ 8 := by have : N 2 ≤ 4 := hn2; omega
  have hn3 := hL.cnt (k := 3) (by decide)
  have hn39 : N 3 ≤ 8 := by have : N 3 ≤ 3 := hn3; omega
  refine lv_aload_n hx hb dX8_ofField_0 rfl (lv_at hl 0 rfl) ?_
  refine lv_iconst (v := (0 : Int32)) hx hb dX8_ofField_1 (by decide) ?_
  refine fp_X8_30 hx hb hts hown hK hM hO.1 dX8_ofField_2 (fun H locs hM => ?_)
  obtain ⟨M1, eM1⟩ : ∃ z, z = hu M ma tx (.inr (9, [.int (0 : Int32), .ref h0, .ref fa, .ref lb, .int pr, .int mo])) := ⟨_, rfl⟩
  replace hM : Wd G M1 s H locs := hM.eq eM1.symm
  have hO1 : XdR G M1 tx ma h0 fa lb (0 : Int32) pr mo F Lx := by rw [eM1]; exact hO.setO (0 : Int32) pr mo
  have hL1 : MdR G M1 t h0 Z N U now := by rw [eM1]; exact hL.frame (Ne.symm d1) (Fr.up hO.1)
  have hF1 : F3 tx t t2 M M1 := by rw [eM1]; exact F3.tr (F3.rf) (F3.up hO.1 (Or.inr (Or.inl rfl)))
  refine lv_aload_n hx hb dX8_ofField_5 rfl (lv_at hl 0 rfl) ?_
  refine lv_iload_n hx hb dX8_ofField_6 rfl (lv_at hl 1 rfl) ?_
  refine g_callVi (n9 := 1) (As := [.int p0]) (rest := []) hx hb hml hl.1 hown hts hK hM (c_X8_isField l G _ tx ma h0 fa lb t t2 Z N U now (0 : Int32) pr mo F Lx p0 hO1 hL1) wm_X8_67 wi_X8_isField wl_X8_isField wn_X8 wc_X8_isField (by decide +kernel) (hM.recv hK (ci := 9) rfl hO1.1) ⟨Nat.le_of_ble_eq_true rfl, Nat.le_of_ble_eq_true rfl⟩ ⟨Nat.le_of_ble_eq_true rfl, Nat.le_of_ble_eq_true rfl⟩ rfl (Nat.le_of_ble_eq_true rfl) rfl dX8_ofField_7 (fun r_7 Mz H locs hq hM => ?_)
  have hq1 := hq.1.symm
  have hq2 := hq.2.symm
  subst hq1 hq2
  refine lv_if_ne (tgt := 19) hx hb dX8_ofField_10 (by decide) (fun c1 => ?_) (fun c1 => ?_)
  · refine lv_iload_n hx hb dX8_ofField_19 rfl (lv_at hl 2 rfl) ?_
    refine lv_iconst (v := (0 : Int32)) hx hb dX8_ofField_20 (by decide) ?_
    refine lv_bipush (v := (11 : Int32)) hx hb dX8_ofField_21 (by decide) ?_
    refine g_callSi (n9 := 3) (As := [.int p1, .int (0 : Int32), .int (11 : Int32)]) (rest := []) hx hb hml hl.1 hown hts hK hM (c_X8_in l G _ p1 (0 : Int32) (11 : Int32) ) wm_X8_36 wt_X8_in wn_X8 wc_X8_in (by decide +kernel) ⟨Nat.le_of_ble_eq_true rfl, Nat.le_of_ble_eq_true rfl⟩ ⟨Nat.le_of_ble_eq_true rfl, Nat.le_of_ble_eq_true rfl⟩ rfl (Nat.le_of_ble_eq_true rfl) rfl dX8_ofField_23 (fun r_23 M1 H locs hq hM => ?_)
    have hq1 := hq.1.symm
    have hq2 := hq.2.symm
    subst hq1 hq2
    refine lv_if_ne (tgt := 35) hx hb dX8_ofField_26 (by decide) (fun c2 => ?_) (fun c2 => ?_)
    · refine lv_aload_n hx hb dX8_ofField_35 rfl (lv_at hl 0 rfl) ?_
      refine lv_iload_n hx hb dX8_ofField_36 rfl (lv_at hl 1 rfl) ?_
      refine lv_iload_n hx hb dX8_ofField_37 rfl (lv_at hl 2 rfl) ?_
      refine g_callVi (n9 := 2) (As := [.int p0, .int p1]) (rest := []) hx hb hml hl.1 hown hts hK hM (c_X8_fieldNow l G _ tx ma h0 fa lb t t2 Z N U now (0 : Int32) pr mo F Lx p0 p1 hO1 hL1 d1 d2 d3 (inN9 c1 hn09) (in_ix (c := 11) c2 (by decide))) wm_X8_136 wi_X8_fieldNow wl_X8_fieldNow wn_X8 wc_X8_fieldNow (by decide +kernel) (hM.recv hK (ci := 9) rfl hO1.1) ⟨Nat.le_of_ble_eq_true rfl, Nat.le_of_ble_eq_true rfl⟩ ⟨Nat.le_of_ble_eq_true rfl, Nat.le_of_ble_eq_true rfl⟩ rfl (Nat.le_of_ble_eq_true rfl) rfl dX8_ofField_38 (fun r_38 M7 H locs hq hM => ?_)
      obtain ⟨er, hF7⟩ := hq
      subst er
      have hO7 := hO1.frame d2 hF7
      have hL7 := hL1.frame d3 hF7
      have hF8 := F3.tr hF1 (F3.fr2 hF7)
      exact g_iret hx hb hr hlocks hM (Nat.le_of_ble_eq_true rfl) (Nat.le_of_ble_eq_true rfl) ⟨(by unfold q_X8_ofField; rw [if_neg c1, if_neg c2]), (by rw [show th_X8_ofField N U now th pr mo F Lx p0 p1 = (0 : Int32) from by unfold th_X8_ofField; rw [if_neg c1, if_neg c2]]; exact ⟨hO7, ⟨Z, hL7⟩, hF8⟩)⟩ dX8_ofField_41
    · refine lv_aload_n hx hb dX8_ofField_29 rfl (lv_at hl 0 rfl) ?_
      refine lv_iconst (v := (2 : Int32)) hx hb dX8_ofField_30 (by decide) ?_
      refine g_callVi (n9 := 1) (As := [.int (2 : Int32)]) (rest := []) hx hb hml hl.1 hown hts hK hM (c_X8_no l G _ ma tx (0 : Int32) pr mo h0 fa lb (2 : Int32) hO1.1) wm_X8_49 wi_X8_no wl_X8_no wn_X8 wc_X8_no (by decide +kernel) (hM.recv hK (ci := 9) rfl hO1.1) ⟨Nat.le_of_ble_eq_true rfl, Nat.le_of_ble_eq_true rfl⟩ ⟨Nat.le_of_ble_eq_true rfl, Nat.le_of_ble_eq_true rfl⟩ rfl (Nat.le_of_ble_eq_true rfl) rfl dX8_ofField_31 (fun r_31 M9 H locs hq hM => ?_)
      obtain ⟨er, eM9⟩ := hq
      subst er
      replace hM := hM.eq eM9
      obtain ⟨M2, eM2⟩ : ∃ z, z = hu M1 ma tx (.inr (9, [.int (2 : Int32), .ref h0, .ref fa, .ref lb, .int pr, .int mo])) := ⟨_, rfl⟩
      replace hM : Wd G M2 s H locs := hM.eq eM2.symm
      have hO2 : XdR G M2 tx ma h0 fa lb (2 : Int32) pr mo F Lx := by rw [eM2]; exact hO1.setO (2 : Int32) pr mo
      have hL2 : MdR G M2 t h0 Z N U now := by rw [eM2]; exact hL1.frame (Ne.symm d1) (Fr.up hO1.1)
      have hF2 : F3 tx t t2 M M2 := by rw [eM2]; exact F3.tr hF1 (F3.up hO1.1 (Or.inr (Or.inl rfl)))
      exact g_iret hx hb hr hlocks hM (Nat.le_of_ble_eq_true rfl) (Nat.le_of_ble_eq_true rfl) ⟨(by unfold q_X8_ofField; rw [if_neg c1, if_pos c2]), (by rw [show th_X8_ofField N U now th pr mo F Lx p0 p1 = (2 : Int32) from by unfold th_X8_ofField; rw [if_neg c1, if_pos c2]]; exact ⟨hO2, ⟨Z, hL2⟩, hF2⟩)⟩ dX8_ofField_34
  · refine lv_aload_n hx hb dX8_ofField_13 rfl (lv_at hl 0 rfl) ?_
    refine lv_iconst (v := (1 : Int32)) hx hb dX8_ofField_14 (by decide) ?_
    refine g_callVi (n9 := 1) (As := [.int (1 : Int32)]) (rest := []) hx hb hml hl.1 hown hts hK hM (c_X8_no l G _ ma tx (0 : Int32) pr mo h0 fa lb (1 : Int32) hO1.1) wm_X8_49 wi_X8_no wl_X8_no wn_X8 wc_X8_no (by decide +kernel) (hM.recv hK (ci := 9) rfl hO1.1) ⟨Nat.le_of_ble_eq_true rfl, Nat.le_of_ble_eq_true rfl⟩ ⟨Nat.le_of_ble_eq_true rfl, Nat.le_of_ble_eq_true rfl⟩ rfl (Nat.le_of_ble_eq_true rfl) rfl dX8_ofField_15 (fun r_15 M9 H locs hq hM => ?_)
    obtain ⟨er, eM9⟩ := hq
    subst er
    replace hM := hM.eq eM9
    obtain ⟨M2, eM2⟩ : ∃ z, z = hu M1 ma tx (.inr (9, [.int (1 : Int32), .ref h0, .ref fa, .ref lb, .int pr, .int mo])) := ⟨_, rfl⟩
    replace hM : Wd G M2 s H locs := hM.eq eM2.symm
    have hO2 : XdR G M2 tx ma h0 fa lb (1 : Int32) pr mo F Lx := by rw [eM2]; exact hO1.setO (1 : Int32) pr mo
    have hL2 : MdR G M2 t h0 Z N U now := by rw [eM2]; exact hL1.frame (Ne.symm d1) (Fr.up hO1.1)
    have hF2 : F3 tx t t2 M M2 := by rw [eM2]; exact F3.tr hF1 (F3.up hO1.1 (Or.inr (Or.inl rfl)))
    exact g_iret hx hb hr hlocks hM (Nat.le_of_ble_eq_true rfl) (Nat.le_of_ble_eq_true rfl) ⟨(by unfold q_X8_ofField; rw [if_pos c1]), (by rw [show th_X8_ofField N U now th pr mo F Lx p0 p1 = (1 : Int32) from by unfold th_X8_ofField; rw [if_pos c1]]; exact ⟨hO2, ⟨Z, hL2⟩, hF2⟩)⟩ dX8_ofField_18
def q_X8_ofCombine (N : Nat → Nat) (U : Tb) (now th pr mo : Int32) (F Lx : Row) (p0 p1 : Int32) : Int32 := if (t_X8_in_0 p0 (0 : Int32) ((nI (N 1)) - (1 : Int32))) = 0 then t_X8_no_0 else (if (t_X8_in_0 p1 (0 : Int32) (7 : Int32)) = 0 then t_X8_no_0 else (q_X8_combineNow N U now (0 : Int32) pr mo F Lx p0 p1))
def th_X8_ofCombine (N : Nat → Nat) (U : Tb) (now th pr mo : Int32) (F Lx : Row) (p0 p1 : Int32) : Int32 := if (t_X8_in_0 p0 (0 : Int32) ((nI (N 1)) - (1 : Int32))) = 0 then (1 : Int32) else (if (t_X8_in_0 p1 (0 : Int32) (7 : Int32)) = 0 then (2 : Int32) else (0 : Int32))
set_option maxHeartbeats 4000000 in
set_option maxRecDepth 100000 in
theorem c_X8_ofCombine (l : Launch) (G : GG) (M : HM) (tx ma h0 fa lb t t2 : Nat) (Z : LZ) (N : Nat → Nat) (U : Tb) (now th pr mo : Int32) (F Lx : Row) (p0 p1 : Int32) (hO : XdR G M tx ma h0 fa lb th pr mo F Lx) (hL : MdR G M t h0 Z N U now) (d1 : tx ≠ t) (d2 : tx ≠ t2) (d3 : t ≠ t2)   : Mi l yX8_ofCombine (.code yX8_ofCombine cX8_ofCombine 3 (some .int) :: AL) 2 43 1 8 [.ref ma, .int p0, .int p1] G M (fun r M' => r = (q_X8_ofCombine N U now th pr mo F Lx p0 p1) ∧ XP G M M' tx ma h0 fa lb t t2 N U now (th_X8_ofCombine N U now th pr mo F Lx p0 p1) pr mo F Lx) := by
  refine Mi.go (by decide) (Nat.le_of_ble_eq_true rfl) ?_
  intro p e s m below meth c ls hx hb hr hml hown hlocks hname hts hK hM hl
  have hown : s.vm.findClass RX8 = some m.cls := hown
  have hl : lv_has ls 3 [(0, .ref ma), (1, .int p0), (2, .int p1)] := hl
  have hn0 := hL.cnt (k := 0) (by decide)
  have hn09 : N 0 ≤ 8 := by have : N 0 ≤ 8 := hn0; omega
  have hn1 := hL.cnt (k := 1) (by decide)
  have hn19 : N 1 ≤ 8 := by have : N 1 ≤ 4 := hn1; omega
  have hn2 := hL.cnt (k := 2) (by decide)
  have hn29 : N 2 ≤ 8 := by have : N 2 ≤ 4 := hn2; omega
  have hn3 := hL.cnt (k := 3) (by decide)
  have hn39 : N 3 ≤ 8 := by have : N 3 ≤ 3 := hn3; omega
  refine lv_aload_n hx hb dX8_ofCombine_0 rfl (lv_at hl 0 rfl) ?_
  refine lv_iconst (v := (0 : Int32)) hx hb dX8_ofCombine_1 (by decide) ?_
  refine fp_X8_30 hx hb hts hown hK hM hO.1 dX8_ofCombine_2 (fun H locs hM => ?_)
  obtain ⟨M1, eM1⟩ : ∃ z, z = hu M ma tx (.inr (9, [.int (0 : Int32), .ref h0, .ref fa, .ref lb, .int pr, .int mo])) := ⟨_, rfl⟩
  replace hM : Wd G M1 s H locs := hM.eq eM1.symm
  have hO1 : XdR G M1 tx ma h0 fa lb (0 : Int32) pr mo F Lx := by rw [eM1]; exact hO.setO (0 : Int32) pr mo
  have hL1 : MdR G M1 t h0 Z N U now := by rw [eM1]; exact hL.frame (Ne.symm d1) (Fr.up hO.1)
  have hF1 : F3 tx t t2 M M1 := by rw [eM1]; exact F3.tr (F3.rf) (F3.up hO.1 (Or.inr (Or.inl rfl)))
  refine lv_aload_n hx hb dX8_ofCombine_5 rfl (lv_at hl 0 rfl) ?_
  refine lv_iload_n hx hb dX8_ofCombine_6 rfl (lv_at hl 1 rfl) ?_
  refine g_callVi (n9 := 1) (As := [.int p0]) (rest := []) hx hb hml hl.1 hown hts hK hM (c_X8_isCombine l G _ tx ma h0 fa lb t t2 Z N U now (0 : Int32) pr mo F Lx p0 hO1 hL1) wm_X8_79 wi_X8_isCombine wl_X8_isCombine wn_X8 wc_X8_isCombine (by decide +kernel) (hM.recv hK (ci := 9) rfl hO1.1) ⟨Nat.le_of_ble_eq_true rfl, Nat.le_of_ble_eq_true rfl⟩ ⟨Nat.le_of_ble_eq_true rfl, Nat.le_of_ble_eq_true rfl⟩ rfl (Nat.le_of_ble_eq_true rfl) rfl dX8_ofCombine_7 (fun r_7 Mz H locs hq hM => ?_)
  have hq1 := hq.1.symm
  have hq2 := hq.2.symm
  subst hq1 hq2
  refine lv_if_ne (tgt := 19) hx hb dX8_ofCombine_10 (by decide) (fun c1 => ?_) (fun c1 => ?_)
  · refine lv_iload_n hx hb dX8_ofCombine_19 rfl (lv_at hl 2 rfl) ?_
    refine lv_iconst (v := (0 : Int32)) hx hb dX8_ofCombine_20 (by decide) ?_
    refine lv_bipush (v := (7 : Int32)) hx hb dX8_ofCombine_21 (by decide) ?_
    refine g_callSi (n9 := 3) (As := [.int p1, .int (0 : Int32), .int (7 : Int32)]) (rest := []) hx hb hml hl.1 hown hts hK hM (c_X8_in l G _ p1 (0 : Int32) (7 : Int32) ) wm_X8_36 wt_X8_in wn_X8 wc_X8_in (by decide +kernel) ⟨Nat.le_of_ble_eq_true rfl, Nat.le_of_ble_eq_true rfl⟩ ⟨Nat.le_of_ble_eq_true rfl, Nat.le_of_ble_eq_true rfl⟩ rfl (Nat.le_of_ble_eq_true rfl) rfl dX8_ofCombine_23 (fun r_23 M1 H locs hq hM => ?_)
    have hq1 := hq.1.symm
    have hq2 := hq.2.symm
    subst hq1 hq2
    refine lv_if_ne (tgt := 35) hx hb dX8_ofCombine_26 (by decide) (fun c2 => ?_) (fun c2 => ?_)
    · refine lv_aload_n hx hb dX8_ofCombine_35 rfl (lv_at hl 0 rfl) ?_
      refine lv_iload_n hx hb dX8_ofCombine_36 rfl (lv_at hl 1 rfl) ?_
      refine lv_iload_n hx hb dX8_ofCombine_37 rfl (lv_at hl 2 rfl) ?_
      refine g_callVi (n9 := 2) (As := [.int p0, .int p1]) (rest := []) hx hb hml hl.1 hown hts hK hM (c_X8_combineNow l G _ tx ma h0 fa lb t t2 Z N U now (0 : Int32) pr mo F Lx p0 p1 hO1 hL1 d1 d2 d3 (inN9 c1 hn19) (in_ix (c := 7) c2 (by decide))) wm_X8_139 wi_X8_combineNow wl_X8_combineNow wn_X8 wc_X8_combineNow (by decide +kernel) (hM.recv hK (ci := 9) rfl hO1.1) ⟨Nat.le_of_ble_eq_true rfl, Nat.le_of_ble_eq_true rfl⟩ ⟨Nat.le_of_ble_eq_true rfl, Nat.le_of_ble_eq_true rfl⟩ rfl (Nat.le_of_ble_eq_true rfl) rfl dX8_ofCombine_38 (fun r_38 M7 H locs hq hM => ?_)
      obtain ⟨er, hF7⟩ := hq
      subst er
      have hO7 := hO1.frame d2 hF7
      have hL7 := hL1.frame d3 hF7
      have hF8 := F3.tr hF1 (F3.fr2 hF7)
      exact g_iret hx hb hr hlocks hM (Nat.le_of_ble_eq_true rfl) (Nat.le_of_ble_eq_true rfl) ⟨(by unfold q_X8_ofCombine; rw [if_neg c1, if_neg c2]), (by rw [show th_X8_ofCombine N U now th pr mo F Lx p0 p1 = (0 : Int32) from by unfold th_X8_ofCombine; rw [if_neg c1, if_neg c2]]; exact ⟨hO7, ⟨Z, hL7⟩, hF8⟩)⟩ dX8_ofCombine_41
    · refine lv_aload_n hx hb dX8_ofCombine_29 rfl (lv_at hl 0 rfl) ?_
      refine lv_iconst (v := (2 : Int32)) hx hb dX8_ofCombine_30 (by decide) ?_
      refine g_callVi (n9 := 1) (As := [.int (2 : Int32)]) (rest := []) hx hb hml hl.1 hown hts hK hM (c_X8_no l G _ ma tx (0 : Int32) pr mo h0 fa lb (2 : Int32) hO1.1) wm_X8_49 wi_X8_no wl_X8_no wn_X8 wc_X8_no (by decide +kernel) (hM.recv hK (ci := 9) rfl hO1.1) ⟨Nat.le_of_ble_eq_true rfl, Nat.le_of_ble_eq_true rfl⟩ ⟨Nat.le_of_ble_eq_true rfl, Nat.le_of_ble_eq_true rfl⟩ rfl (Nat.le_of_ble_eq_true rfl) rfl dX8_ofCombine_31 (fun r_31 M9 H locs hq hM => ?_)
      obtain ⟨er, eM9⟩ := hq
      subst er
      replace hM := hM.eq eM9
      obtain ⟨M2, eM2⟩ : ∃ z, z = hu M1 ma tx (.inr (9, [.int (2 : Int32), .ref h0, .ref fa, .ref lb, .int pr, .int mo])) := ⟨_, rfl⟩
      replace hM : Wd G M2 s H locs := hM.eq eM2.symm
      have hO2 : XdR G M2 tx ma h0 fa lb (2 : Int32) pr mo F Lx := by rw [eM2]; exact hO1.setO (2 : Int32) pr mo
      have hL2 : MdR G M2 t h0 Z N U now := by rw [eM2]; exact hL1.frame (Ne.symm d1) (Fr.up hO1.1)
      have hF2 : F3 tx t t2 M M2 := by rw [eM2]; exact F3.tr hF1 (F3.up hO1.1 (Or.inr (Or.inl rfl)))
      exact g_iret hx hb hr hlocks hM (Nat.le_of_ble_eq_true rfl) (Nat.le_of_ble_eq_true rfl) ⟨(by unfold q_X8_ofCombine; rw [if_neg c1, if_pos c2]), (by rw [show th_X8_ofCombine N U now th pr mo F Lx p0 p1 = (2 : Int32) from by unfold th_X8_ofCombine; rw [if_neg c1, if_pos c2]]; exact ⟨hO2, ⟨Z, hL2⟩, hF2⟩)⟩ dX8_ofCombine_34
  · refine lv_aload_n hx hb dX8_ofCombine_13 rfl (lv_at hl 0 rfl) ?_
    refine lv_iconst (v := (1 : Int32)) hx hb dX8_ofCombine_14 (by decide) ?_
    refine g_callVi (n9 := 1) (As := [.int (1 : Int32)]) (rest := []) hx hb hml hl.1 hown hts hK hM (c_X8_no l G _ ma tx (0 : Int32) pr mo h0 fa lb (1 : Int32) hO1.1) wm_X8_49 wi_X8_no wl_X8_no wn_X8 wc_X8_no (by decide +kernel) (hM.recv hK (ci := 9) rfl hO1.1) ⟨Nat.le_of_ble_eq_true rfl, Nat.le_of_ble_eq_true rfl⟩ ⟨Nat.le_of_ble_eq_true rfl, Nat.le_of_ble_eq_true rfl⟩ rfl (Nat.le_of_ble_eq_true rfl) rfl dX8_ofCombine_15 (fun r_15 M9 H locs hq hM => ?_)
    obtain ⟨er, eM9⟩ := hq
    subst er
    replace hM := hM.eq eM9
    obtain ⟨M2, eM2⟩ : ∃ z, z = hu M1 ma tx (.inr (9, [.int (1 : Int32), .ref h0, .ref fa, .ref lb, .int pr, .int mo])) := ⟨_, rfl⟩
    replace hM : Wd G M2 s H locs := hM.eq eM2.symm
    have hO2 : XdR G M2 tx ma h0 fa lb (1 : Int32) pr mo F Lx := by rw [eM2]; exact hO1.setO (1 : Int32) pr mo
    have hL2 : MdR G M2 t h0 Z N U now := by rw [eM2]; exact hL1.frame (Ne.symm d1) (Fr.up hO1.1)
    have hF2 : F3 tx t t2 M M2 := by rw [eM2]; exact F3.tr hF1 (F3.up hO1.1 (Or.inr (Or.inl rfl)))
    exact g_iret hx hb hr hlocks hM (Nat.le_of_ble_eq_true rfl) (Nat.le_of_ble_eq_true rfl) ⟨(by unfold q_X8_ofCombine; rw [if_pos c1]), (by rw [show th_X8_ofCombine N U now th pr mo F Lx p0 p1 = (1 : Int32) from by unfold th_X8_ofCombine; rw [if_pos c1]]; exact ⟨hO2, ⟨Z, hL2⟩, hF2⟩)⟩ dX8_ofCombine_18
def q_X8_ofTruck (N : Nat → Nat) (U : Tb) (now th pr mo : Int32) (F Lx : Row) (p0 p1 : Int32) : Int32 := if (t_X8_in_0 p0 (0 : Int32) ((nI (N 2)) - (1 : Int32))) = 0 then t_X8_no_0 else (if (t_X8_in_0 p1 (0 : Int32) (7 : Int32)) = 0 then t_X8_no_0 else (q_X8_truckNow N U now (0 : Int32) pr mo F Lx p0 p1))
def th_X8_ofTruck (N : Nat → Nat) (U : Tb) (now th pr mo : Int32) (F Lx : Row) (p0 p1 : Int32) : Int32 := if (t_X8_in_0 p0 (0 : Int32) ((nI (N 2)) - (1 : Int32))) = 0 then (1 : Int32) else (if (t_X8_in_0 p1 (0 : Int32) (7 : Int32)) = 0 then (2 : Int32) else (0 : Int32))
set_option maxHeartbeats 4000000 in
set_option maxRecDepth 100000 in
theorem c_X8_ofTruck (l : Launch) (G : GG) (M : HM) (tx ma h0 fa lb t t2 : Nat) (Z : LZ) (N : Nat → Nat) (U : Tb) (now th pr mo : Int32) (F Lx : Row) (p0 p1 : Int32) (hO : XdR G M tx ma h0 fa lb th pr mo F Lx) (hL : MdR G M t h0 Z N U now) (d1 : tx ≠ t) (d2 : tx ≠ t2) (d3 : t ≠ t2)   : Mi l yX8_ofTruck (.code yX8_ofTruck cX8_ofTruck 3 (some .int) :: AL) 2 43 1 8 [.ref ma, .int p0, .int p1] G M (fun r M' => r = (q_X8_ofTruck N U now th pr mo F Lx p0 p1) ∧ XP G M M' tx ma h0 fa lb t t2 N U now (th_X8_ofTruck N U now th pr mo F Lx p0 p1) pr mo F Lx) := by
  refine Mi.go (by decide) (Nat.le_of_ble_eq_true rfl) ?_
  intro p e s m below meth c ls hx hb hr hml hown hlocks hname hts hK hM hl
  have hown : s.vm.findClass RX8 = some m.cls := hown
  have hl : lv_has ls 3 [(0, .ref ma), (1, .int p0), (2, .int p1)] := hl
  have hn0 := hL.cnt (k := 0) (by decide)
  have hn09 : N 0 ≤ 8 := by have : N 0 ≤ 8 := hn0; omega
  have hn1 := hL.cnt (k := 1) (by decide)
  have hn19 : N 1 ≤ 8 := by have : N 1 ≤ 4 := hn1; omega
  have hn2 := hL.cnt (k := 2) (by decide)
  have hn29 : N 2 ≤ 8 := by have : N 2 ≤ 4 := hn2; omega
  have hn3 := hL.cnt (k := 3) (by decide)
  have hn39 : N 3 ≤ 8 := by have : N 3 ≤ 3 := hn3; omega
  refine lv_aload_n hx hb dX8_ofTruck_0 rfl (lv_at hl 0 rfl) ?_
  refine lv_iconst (v := (0 : Int32)) hx hb dX8_ofTruck_1 (by decide) ?_
  refine fp_X8_30 hx hb hts hown hK hM hO.1 dX8_ofTruck_2 (fun H locs hM => ?_)
  obtain ⟨M1, eM1⟩ : ∃ z, z = hu M ma tx (.inr (9, [.int (0 : Int32), .ref h0, .ref fa, .ref lb, .int pr, .int mo])) := ⟨_, rfl⟩
  replace hM : Wd G M1 s H locs := hM.eq eM1.symm
  have hO1 : XdR G M1 tx ma h0 fa lb (0 : Int32) pr mo F Lx := by rw [eM1]; exact hO.setO (0 : Int32) pr mo
  have hL1 : MdR G M1 t h0 Z N U now := by rw [eM1]; exact hL.frame (Ne.symm d1) (Fr.up hO.1)
  have hF1 : F3 tx t t2 M M1 := by rw [eM1]; exact F3.tr (F3.rf) (F3.up hO.1 (Or.inr (Or.inl rfl)))
  refine lv_aload_n hx hb dX8_ofTruck_5 rfl (lv_at hl 0 rfl) ?_
  refine lv_iload_n hx hb dX8_ofTruck_6 rfl (lv_at hl 1 rfl) ?_
  refine g_callVi (n9 := 1) (As := [.int p0]) (rest := []) hx hb hml hl.1 hown hts hK hM (c_X8_isTruck l G _ tx ma h0 fa lb t t2 Z N U now (0 : Int32) pr mo F Lx p0 hO1 hL1) wm_X8_90 wi_X8_isTruck wl_X8_isTruck wn_X8 wc_X8_isTruck (by decide +kernel) (hM.recv hK (ci := 9) rfl hO1.1) ⟨Nat.le_of_ble_eq_true rfl, Nat.le_of_ble_eq_true rfl⟩ ⟨Nat.le_of_ble_eq_true rfl, Nat.le_of_ble_eq_true rfl⟩ rfl (Nat.le_of_ble_eq_true rfl) rfl dX8_ofTruck_7 (fun r_7 Mz H locs hq hM => ?_)
  have hq1 := hq.1.symm
  have hq2 := hq.2.symm
  subst hq1 hq2
  refine lv_if_ne (tgt := 19) hx hb dX8_ofTruck_10 (by decide) (fun c1 => ?_) (fun c1 => ?_)
  · refine lv_iload_n hx hb dX8_ofTruck_19 rfl (lv_at hl 2 rfl) ?_
    refine lv_iconst (v := (0 : Int32)) hx hb dX8_ofTruck_20 (by decide) ?_
    refine lv_bipush (v := (7 : Int32)) hx hb dX8_ofTruck_21 (by decide) ?_
    refine g_callSi (n9 := 3) (As := [.int p1, .int (0 : Int32), .int (7 : Int32)]) (rest := []) hx hb hml hl.1 hown hts hK hM (c_X8_in l G _ p1 (0 : Int32) (7 : Int32) ) wm_X8_36 wt_X8_in wn_X8 wc_X8_in (by decide +kernel) ⟨Nat.le_of_ble_eq_true rfl, Nat.le_of_ble_eq_true rfl⟩ ⟨Nat.le_of_ble_eq_true rfl, Nat.le_of_ble_eq_true rfl⟩ rfl (Nat.le_of_ble_eq_true rfl) rfl dX8_ofTruck_23 (fun r_23 M1 H locs hq hM => ?_)
    have hq1 := hq.1.symm
    have hq2 := hq.2.symm
    subst hq1 hq2
    refine lv_if_ne (tgt := 35) hx hb dX8_ofTruck_26 (by decide) (fun c2 => ?_) (fun c2 => ?_)
    · refine lv_aload_n hx hb dX8_ofTruck_35 rfl (lv_at hl 0 rfl) ?_
      refine lv_iload_n hx hb dX8_ofTruck_36 rfl (lv_at hl 1 rfl) ?_
      refine lv_iload_n hx hb dX8_ofTruck_37 rfl (lv_at hl 2 rfl) ?_
      refine g_callVi (n9 := 2) (As := [.int p0, .int p1]) (rest := []) hx hb hml hl.1 hown hts hK hM (c_X8_truckNow l G _ tx ma h0 fa lb t t2 Z N U now (0 : Int32) pr mo F Lx p0 p1 hO1 hL1 d1 d2 d3 (inN9 c1 hn29) (in_ix (c := 7) c2 (by decide))) wm_X8_142 wi_X8_truckNow wl_X8_truckNow wn_X8 wc_X8_truckNow (by decide +kernel) (hM.recv hK (ci := 9) rfl hO1.1) ⟨Nat.le_of_ble_eq_true rfl, Nat.le_of_ble_eq_true rfl⟩ ⟨Nat.le_of_ble_eq_true rfl, Nat.le_of_ble_eq_true rfl⟩ rfl (Nat.le_of_ble_eq_true rfl) rfl dX8_ofTruck_38 (fun r_38 M7 H locs hq hM => ?_)
      obtain ⟨er, hF7⟩ := hq
      subst er
      have hO7 := hO1.frame d2 hF7
      have hL7 := hL1.frame d3 hF7
      have hF8 := F3.tr hF1 (F3.fr2 hF7)
      exact g_iret hx hb hr hlocks hM (Nat.le_of_ble_eq_true rfl) (Nat.le_of_ble_eq_true rfl) ⟨(by unfold q_X8_ofTruck; rw [if_neg c1, if_neg c2]), (by rw [show th_X8_ofTruck N U now th pr mo F Lx p0 p1 = (0 : Int32) from by unfold th_X8_ofTruck; rw [if_neg c1, if_neg c2]]; exact ⟨hO7, ⟨Z, hL7⟩, hF8⟩)⟩ dX8_ofTruck_41
    · refine lv_aload_n hx hb dX8_ofTruck_29 rfl (lv_at hl 0 rfl) ?_
      refine lv_iconst (v := (2 : Int32)) hx hb dX8_ofTruck_30 (by decide) ?_
      refine g_callVi (n9 := 1) (As := [.int (2 : Int32)]) (rest := []) hx hb hml hl.1 hown hts hK hM (c_X8_no l G _ ma tx (0 : Int32) pr mo h0 fa lb (2 : Int32) hO1.1) wm_X8_49 wi_X8_no wl_X8_no wn_X8 wc_X8_no (by decide +kernel) (hM.recv hK (ci := 9) rfl hO1.1) ⟨Nat.le_of_ble_eq_true rfl, Nat.le_of_ble_eq_true rfl⟩ ⟨Nat.le_of_ble_eq_true rfl, Nat.le_of_ble_eq_true rfl⟩ rfl (Nat.le_of_ble_eq_true rfl) rfl dX8_ofTruck_31 (fun r_31 M9 H locs hq hM => ?_)
      obtain ⟨er, eM9⟩ := hq
      subst er
      replace hM := hM.eq eM9
      obtain ⟨M2, eM2⟩ : ∃ z, z = hu M1 ma tx (.inr (9, [.int (2 : Int32), .ref h0, .ref fa, .ref lb, .int pr, .int mo])) := ⟨_, rfl⟩
      replace hM : Wd G M2 s H locs := hM.eq eM2.symm
      have hO2 : XdR G M2 tx ma h0 fa lb (2 : Int32) pr mo F Lx := by rw [eM2]; exact hO1.setO (2 : Int32) pr mo
      have hL2 : MdR G M2 t h0 Z N U now := by rw [eM2]; exact hL1.frame (Ne.symm d1) (Fr.up hO1.1)
      have hF2 : F3 tx t t2 M M2 := by rw [eM2]; exact F3.tr hF1 (F3.up hO1.1 (Or.inr (Or.inl rfl)))
      exact g_iret hx hb hr hlocks hM (Nat.le_of_ble_eq_true rfl) (Nat.le_of_ble_eq_true rfl) ⟨(by unfold q_X8_ofTruck; rw [if_neg c1, if_pos c2]), (by rw [show th_X8_ofTruck N U now th pr mo F Lx p0 p1 = (2 : Int32) from by unfold th_X8_ofTruck; rw [if_neg c1, if_pos c2]]; exact ⟨hO2, ⟨Z, hL2⟩, hF2⟩)⟩ dX8_ofTruck_34
  · refine lv_aload_n hx hb dX8_ofTruck_13 rfl (lv_at hl 0 rfl) ?_
    refine lv_iconst (v := (1 : Int32)) hx hb dX8_ofTruck_14 (by decide) ?_
    refine g_callVi (n9 := 1) (As := [.int (1 : Int32)]) (rest := []) hx hb hml hl.1 hown hts hK hM (c_X8_no l G _ ma tx (0 : Int32) pr mo h0 fa lb (1 : Int32) hO1.1) wm_X8_49 wi_X8_no wl_X8_no wn_X8 wc_X8_no (by decide +kernel) (hM.recv hK (ci := 9) rfl hO1.1) ⟨Nat.le_of_ble_eq_true rfl, Nat.le_of_ble_eq_true rfl⟩ ⟨Nat.le_of_ble_eq_true rfl, Nat.le_of_ble_eq_true rfl⟩ rfl (Nat.le_of_ble_eq_true rfl) rfl dX8_ofTruck_15 (fun r_15 M9 H locs hq hM => ?_)
    obtain ⟨er, eM9⟩ := hq
    subst er
    replace hM := hM.eq eM9
    obtain ⟨M2, eM2⟩ : ∃ z, z = hu M1 ma tx (.inr (9, [.int (1 : Int32), .ref h0, .ref fa, .ref lb, .int pr, .int mo])) := ⟨_, rfl⟩
    replace hM : Wd G M2 s H locs := hM.eq eM2.symm
    have hO2 : XdR G M2 tx ma h0 fa lb (1 : Int32) pr mo F Lx := by rw [eM2]; exact hO1.setO (1 : Int32) pr mo
    have hL2 : MdR G M2 t h0 Z N U now := by rw [eM2]; exact hL1.frame (Ne.symm d1) (Fr.up hO1.1)
    have hF2 : F3 tx t t2 M M2 := by rw [eM2]; exact F3.tr hF1 (F3.up hO1.1 (Or.inr (Or.inl rfl)))
    exact g_iret hx hb hr hlocks hM (Nat.le_of_ble_eq_true rfl) (Nat.le_of_ble_eq_true rfl) ⟨(by unfold q_X8_ofTruck; rw [if_pos c1]), (by rw [show th_X8_ofTruck N U now th pr mo F Lx p0 p1 = (1 : Int32) from by unfold th_X8_ofTruck; rw [if_pos c1]]; exact ⟨hO2, ⟨Z, hL2⟩, hF2⟩)⟩ dX8_ofTruck_18
def q_X8_ofTicket (N : Nat → Nat) (U : Tb) (now th pr mo : Int32) (F Lx : Row) (p0 p1 : Int32) : Int32 := if (t_X8_in_0 p0 (0 : Int32) ((nI (N 4)) - (1 : Int32))) = 0 then t_X8_no_0 else (if (t_X8_in_0 p1 (0 : Int32) (6 : Int32)) = 0 then t_X8_no_0 else (rw7 (U 4 (ix p0) 0) (U 4 (ix p0) 1) (U 4 (ix p0) 2) (U 4 (ix p0) 3) (U 4 (ix p0) 4) (U 4 (ix p0) 5) (U 4 (ix p0) 6) (ix p1)))
def th_X8_ofTicket (N : Nat → Nat) (U : Tb) (now th pr mo : Int32) (F Lx : Row) (p0 p1 : Int32) : Int32 := if (t_X8_in_0 p0 (0 : Int32) ((nI (N 4)) - (1 : Int32))) = 0 then (1 : Int32) else (if (t_X8_in_0 p1 (0 : Int32) (6 : Int32)) = 0 then (2 : Int32) else (0 : Int32))
set_option maxHeartbeats 4000000 in
set_option maxRecDepth 100000 in
theorem c_X8_ofTicket (l : Launch) (G : GG) (M : HM) (tx ma h0 fa lb t t2 : Nat) (Z : LZ) (N : Nat → Nat) (U : Tb) (now th pr mo : Int32) (F Lx : Row) (p0 p1 : Int32) (hO : XdR G M tx ma h0 fa lb th pr mo F Lx) (hL : MdR G M t h0 Z N U now) (d1 : tx ≠ t) (d2 : tx ≠ t2) (d3 : t ≠ t2)   : Mi l yX8_ofTicket (.code yX8_ofTicket cX8_ofTicket 3 (some .int) :: AL) 3 64 0 0 [.ref ma, .int p0, .int p1] G M (fun r M' => r = (q_X8_ofTicket N U now th pr mo F Lx p0 p1) ∧ XP G M M' tx ma h0 fa lb t t2 N U now (th_X8_ofTicket N U now th pr mo F Lx p0 p1) pr mo F Lx) := by
  refine Mi.go (by decide) (Nat.le_of_ble_eq_true rfl) ?_
  intro p e s m below meth c ls hx hb hr hml hown hlocks hname hts hK hM hl
  have hown : s.vm.findClass RX8 = some m.cls := hown
  have hl : lv_has ls 3 [(0, .ref ma), (1, .int p0), (2, .int p1)] := hl
  have hn0 := hL.cnt (k := 0) (by decide)
  have hn09 : N 0 ≤ 8 := by have : N 0 ≤ 8 := hn0; omega
  have hn1 := hL.cnt (k := 1) (by decide)
  have hn19 : N 1 ≤ 8 := by have : N 1 ≤ 4 := hn1; omega
  have hn2 := hL.cnt (k := 2) (by decide)
  have hn29 : N 2 ≤ 8 := by have : N 2 ≤ 4 := hn2; omega
  have hn3 := hL.cnt (k := 3) (by decide)
  have hn39 : N 3 ≤ 8 := by have : N 3 ≤ 3 := hn3; omega
  refine lv_aload_n hx hb dX8_ofTicket_0 rfl (lv_at hl 0 rfl) ?_
  refine lv_iconst (v := (0 : Int32)) hx hb dX8_ofTicket_1 (by decide) ?_
  refine fp_X8_30 hx hb hts hown hK hM hO.1 dX8_ofTicket_2 (fun H locs hM => ?_)
  obtain ⟨M1, eM1⟩ : ∃ z, z = hu M ma tx (.inr (9, [.int (0 : Int32), .ref h0, .ref fa, .ref lb, .int pr, .int mo])) := ⟨_, rfl⟩
  replace hM : Wd G M1 s H locs := hM.eq eM1.symm
  have hO1 : XdR G M1 tx ma h0 fa lb (0 : Int32) pr mo F Lx := by rw [eM1]; exact hO.setO (0 : Int32) pr mo
  have hL1 : MdR G M1 t h0 Z N U now := by rw [eM1]; exact hL.frame (Ne.symm d1) (Fr.up hO.1)
  have hF1 : F3 tx t t2 M M1 := by rw [eM1]; exact F3.tr (F3.rf) (F3.up hO.1 (Or.inr (Or.inl rfl)))
  refine lv_iload_n hx hb dX8_ofTicket_5 rfl (lv_at hl 1 rfl) ?_
  refine lv_iconst (v := (0 : Int32)) hx hb dX8_ofTicket_6 (by decide) ?_
  refine lv_aload_n hx hb dX8_ofTicket_7 rfl (lv_at hl 0 rfl) ?_
  refine fg_X8_10 hx hb hts hown hK hM hO1.1 dX8_ofTicket_8 ?_
  refine fg_X8_110 hx hb hts hown hK hM hL1.1 dX8_ofTicket_11 ?_
  refine g_callFi (n9 := 0) (As := []) (rest := [.int (0 : Int32), .int p0]) hx hb hml hl.1 hown hts hK hM (c_Jx4a65c_size_8abf5 l G _ Z.2.2.1 t _ _ _ (hL1.2.2.1.1)) (hK.1.1 0 _ rfl).2 hK.2.2.1.1 wm_X8_114 wl_Jx4a65c_size_8abf5_by_List_size wi_Jx4a65c_size_8abf5 wn_Jx4a65c wc_Jx4a65c_size_8abf5 (by decide +kernel) (hM.recv hK (ci := 0) rfl (hL1.2.2.1.1)) ⟨Nat.le_of_ble_eq_true rfl, Nat.le_of_ble_eq_true rfl⟩ ⟨Nat.le_of_ble_eq_true rfl, Nat.le_of_ble_eq_true rfl⟩ rfl (Nat.le_of_ble_eq_true rfl) rfl dX8_ofTicket_14 (fun r_14 Mz H locs hq hM => ?_)
  have hq1 := hq.1.symm
  have hq2 := hq.2.symm
  subst hq1 hq2
  refine lv_iconst (v := (1 : Int32)) hx hb dX8_ofTicket_19 (by decide) ?_
  refine lv_isub hx hb dX8_ofTicket_20 ?_
  refine g_callSi (n9 := 3) (As := [.int p0, .int (0 : Int32), .int ((nI (N 4)) - (1 : Int32))]) (rest := []) hx hb hml hl.1 hown hts hK hM (c_X8_in l G _ p0 (0 : Int32) ((nI (N 4)) - (1 : Int32)) ) wm_X8_36 wt_X8_in wn_X8 wc_X8_in (by decide +kernel) ⟨Nat.le_of_ble_eq_true rfl, Nat.le_of_ble_eq_true rfl⟩ ⟨Nat.le_of_ble_eq_true rfl, Nat.le_of_ble_eq_true rfl⟩ rfl (Nat.le_of_ble_eq_true rfl) rfl dX8_ofTicket_21 (fun r_21 M1 H locs hq hM => ?_)
  have hq1 := hq.1.symm
  have hq2 := hq.2.symm
  subst hq1 hq2
  refine lv_if_ne (tgt := 33) hx hb dX8_ofTicket_24 (by decide) (fun c1 => ?_) (fun c1 => ?_)
  · refine lv_iload_n hx hb dX8_ofTicket_33 rfl (lv_at hl 2 rfl) ?_
    refine lv_iconst (v := (0 : Int32)) hx hb dX8_ofTicket_34 (by decide) ?_
    refine lv_bipush (v := (6 : Int32)) hx hb dX8_ofTicket_35 (by decide) ?_
    refine g_callSi (n9 := 3) (As := [.int p1, .int (0 : Int32), .int (6 : Int32)]) (rest := []) hx hb hml hl.1 hown hts hK hM (c_X8_in l G _ p1 (0 : Int32) (6 : Int32) ) wm_X8_36 wt_X8_in wn_X8 wc_X8_in (by decide +kernel) ⟨Nat.le_of_ble_eq_true rfl, Nat.le_of_ble_eq_true rfl⟩ ⟨Nat.le_of_ble_eq_true rfl, Nat.le_of_ble_eq_true rfl⟩ rfl (Nat.le_of_ble_eq_true rfl) rfl dX8_ofTicket_37 (fun r_37 M1 H locs hq hM => ?_)
    have hq1 := hq.1.symm
    have hq2 := hq.2.symm
    subst hq1 hq2
    refine lv_if_ne (tgt := 49) hx hb dX8_ofTicket_40 (by decide) (fun c2 => ?_) (fun c2 => ?_)
    · refine lv_aload_n hx hb dX8_ofTicket_49 rfl (lv_at hl 0 rfl) ?_
      refine fg_X8_10 hx hb hts hown hK hM hO1.1 dX8_ofTicket_50 ?_
      refine fg_X8_110 hx hb hts hown hK hM hL1.1 dX8_ofTicket_53 ?_
      refine lv_iload_n hx hb dX8_ofTicket_56 rfl (lv_at hl 1 rfl) ?_
      have hgt := inN c1 hL.2.2.2.2.2.2.2.1
      refine g_callFq (n9 := 1) (As := [.int p0]) (rest := []) hx hb hml hl.1 hown hts hK hM (c_getP l G _ t Z.2.2.1 (N 4) _ _ p0 _ _ (hL1.2.2.1) hgt.1 hgt.2) (hK.1.1 0 _ rfl).2 hK.2.2.1.2.1 wm_X8_124 wl_Jx4a65c_get_915e3_by_List_get wi_Jx4a65c_get_915e3 wn_Jx4a65c wc_Jx4a65c_get_915e3 (by decide +kernel) (hM.recv hK (ci := 0) rfl (hL1.2.2.1.1)) ⟨Nat.le_of_ble_eq_true rfl, Nat.le_of_ble_eq_true rfl⟩ ⟨Nat.le_of_ble_eq_true rfl, Nat.le_of_ble_eq_true rfl⟩ rfl (Nat.le_of_ble_eq_true rfl) rfl dX8_ofTicket_57 (fun r_57 Mz H locs hq hM => ?_)
      have hq1 := (hq.1.trans (hL1.2.2.2.2.1 (ix p0) hgt.2)).symm
      have hq2 := hq.2.symm
      subst hq1 hq2
      refine g_castA hx hb hown (hts _ wk_X8_128) hK hM (hL1.row (k := 4) (by decide) hgt.2) dX8_ofTicket_62 ?_
      refine lv_iload_n hx hb dX8_ofTicket_65 rfl (lv_at hl 2 rfl) ?_
      refine g_iald hx hb hK hM (hL1.row (k := 4) (by decide) hgt.2) (vp_ix (in_ix (c := 6) c2 (by decide))) dX8_ofTicket_66 ?_
      exact g_iret hx hb hr hlocks hM (Nat.le_of_ble_eq_true rfl) (Nat.le_of_ble_eq_true rfl) ⟨(by unfold q_X8_ofTicket; rw [if_neg c1, if_neg c2]), (by rw [show th_X8_ofTicket N U now th pr mo F Lx p0 p1 = (0 : Int32) from by unfold th_X8_ofTicket; rw [if_neg c1, if_neg c2]]; exact ⟨hO1, ⟨Z, hL1⟩, hF1⟩)⟩ dX8_ofTicket_67
    · refine lv_aload_n hx hb dX8_ofTicket_43 rfl (lv_at hl 0 rfl) ?_
      refine lv_iconst (v := (2 : Int32)) hx hb dX8_ofTicket_44 (by decide) ?_
      refine g_callVi (n9 := 1) (As := [.int (2 : Int32)]) (rest := []) hx hb hml hl.1 hown hts hK hM (c_X8_no l G _ ma tx (0 : Int32) pr mo h0 fa lb (2 : Int32) hO1.1) wm_X8_49 wi_X8_no wl_X8_no wn_X8 wc_X8_no (by decide +kernel) (hM.recv hK (ci := 9) rfl hO1.1) ⟨Nat.le_of_ble_eq_true rfl, Nat.le_of_ble_eq_true rfl⟩ ⟨Nat.le_of_ble_eq_true rfl, Nat.le_of_ble_eq_true rfl⟩ rfl (Nat.le_of_ble_eq_true rfl) rfl dX8_ofTicket_45 (fun r_45 M9 H locs hq hM => ?_)
      obtain ⟨er, eM9⟩ := hq
      subst er
      replace hM := hM.eq eM9
      obtain ⟨M2, eM2⟩ : ∃ z, z = hu M1 ma tx (.inr (9, [.int (2 : Int32), .ref h0, .ref fa, .ref lb, .int pr, .int mo])) := ⟨_, rfl⟩
      replace hM : Wd G M2 s H locs := hM.eq eM2.symm
      have hO2 : XdR G M2 tx ma h0 fa lb (2 : Int32) pr mo F Lx := by rw [eM2]; exact hO1.setO (2 : Int32) pr mo
      have hL2 : MdR G M2 t h0 Z N U now := by rw [eM2]; exact hL1.frame (Ne.symm d1) (Fr.up hO1.1)
      have hF2 : F3 tx t t2 M M2 := by rw [eM2]; exact F3.tr hF1 (F3.up hO1.1 (Or.inr (Or.inl rfl)))
      exact g_iret hx hb hr hlocks hM (Nat.le_of_ble_eq_true rfl) (Nat.le_of_ble_eq_true rfl) ⟨(by unfold q_X8_ofTicket; rw [if_neg c1, if_pos c2]), (by rw [show th_X8_ofTicket N U now th pr mo F Lx p0 p1 = (2 : Int32) from by unfold th_X8_ofTicket; rw [if_neg c1, if_pos c2]]; exact ⟨hO2, ⟨Z, hL2⟩, hF2⟩)⟩ dX8_ofTicket_48
  · refine lv_aload_n hx hb dX8_ofTicket_27 rfl (lv_at hl 0 rfl) ?_
    refine lv_iconst (v := (1 : Int32)) hx hb dX8_ofTicket_28 (by decide) ?_
    refine g_callVi (n9 := 1) (As := [.int (1 : Int32)]) (rest := []) hx hb hml hl.1 hown hts hK hM (c_X8_no l G _ ma tx (0 : Int32) pr mo h0 fa lb (1 : Int32) hO1.1) wm_X8_49 wi_X8_no wl_X8_no wn_X8 wc_X8_no (by decide +kernel) (hM.recv hK (ci := 9) rfl hO1.1) ⟨Nat.le_of_ble_eq_true rfl, Nat.le_of_ble_eq_true rfl⟩ ⟨Nat.le_of_ble_eq_true rfl, Nat.le_of_ble_eq_true rfl⟩ rfl (Nat.le_of_ble_eq_true rfl) rfl dX8_ofTicket_29 (fun r_29 M9 H locs hq hM => ?_)
    obtain ⟨er, eM9⟩ := hq
    subst er
    replace hM := hM.eq eM9
    obtain ⟨M2, eM2⟩ : ∃ z, z = hu M1 ma tx (.inr (9, [.int (1 : Int32), .ref h0, .ref fa, .ref lb, .int pr, .int mo])) := ⟨_, rfl⟩
    replace hM : Wd G M2 s H locs := hM.eq eM2.symm
    have hO2 : XdR G M2 tx ma h0 fa lb (1 : Int32) pr mo F Lx := by rw [eM2]; exact hO1.setO (1 : Int32) pr mo
    have hL2 : MdR G M2 t h0 Z N U now := by rw [eM2]; exact hL1.frame (Ne.symm d1) (Fr.up hO1.1)
    have hF2 : F3 tx t t2 M M2 := by rw [eM2]; exact F3.tr hF1 (F3.up hO1.1 (Or.inr (Or.inl rfl)))
    exact g_iret hx hb hr hlocks hM (Nat.le_of_ble_eq_true rfl) (Nat.le_of_ble_eq_true rfl) ⟨(by unfold q_X8_ofTicket; rw [if_pos c1]), (by rw [show th_X8_ofTicket N U now th pr mo F Lx p0 p1 = (1 : Int32) from by unfold th_X8_ofTicket; rw [if_pos c1]]; exact ⟨hO2, ⟨Z, hL2⟩, hF2⟩)⟩ dX8_ofTicket_32
def q_X8_many (N : Nat → Nat) (U : Tb) (now th pr mo : Int32) (F Lx : Row) (p0 : Int32) : Int32 := if (t_X8_in_0 p0 (0 : Int32) (12 : Int32)) = 0 then t_X8_no_0 else (q_X8_manyNow N U now (0 : Int32) pr mo F Lx p0)
def th_X8_many (N : Nat → Nat) (U : Tb) (now th pr mo : Int32) (F Lx : Row) (p0 : Int32) : Int32 := if (t_X8_in_0 p0 (0 : Int32) (12 : Int32)) = 0 then (1 : Int32) else (0 : Int32)
set_option maxHeartbeats 4000000 in
set_option maxRecDepth 100000 in
theorem c_X8_many (l : Launch) (G : GG) (M : HM) (tx ma h0 fa lb t t2 : Nat) (Z : LZ) (N : Nat → Nat) (U : Tb) (now th pr mo : Int32) (F Lx : Row) (p0 : Int32) (hO : XdR G M tx ma h0 fa lb th pr mo F Lx) (hL : MdR G M t h0 Z N U now) (d1 : tx ≠ t) (d2 : tx ≠ t2) (d3 : t ≠ t2)   : Mi l yX8_many (.code yX8_many cX8_many 2 (some .int) :: AL) 2 50 1 13 [.ref ma, .int p0] G M (fun r M' => r = (q_X8_many N U now th pr mo F Lx p0) ∧ XP G M M' tx ma h0 fa lb t t2 N U now (th_X8_many N U now th pr mo F Lx p0) pr mo F Lx) := by
  refine Mi.go (by decide) (Nat.le_of_ble_eq_true rfl) ?_
  intro p e s m below meth c ls hx hb hr hml hown hlocks hname hts hK hM hl
  have hown : s.vm.findClass RX8 = some m.cls := hown
  have hl : lv_has ls 2 [(0, .ref ma), (1, .int p0)] := hl
  have hn0 := hL.cnt (k := 0) (by decide)
  have hn09 : N 0 ≤ 8 := by have : N 0 ≤ 8 := hn0; omega
  have hn1 := hL.cnt (k := 1) (by decide)
  have hn19 : N 1 ≤ 8 := by have : N 1 ≤ 4 := hn1; omega
  have hn2 := hL.cnt (k := 2) (by decide)
  have hn29 : N 2 ≤ 8 := by have : N 2 ≤ 4 := hn2; omega
  have hn3 := hL.cnt (k := 3) (by decide)
  have hn39 : N 3 ≤ 8 := by have : N 3 ≤ 3 := hn3; omega
  refine lv_aload_n hx hb dX8_many_0 rfl (lv_at hl 0 rfl) ?_
  refine lv_iconst (v := (0 : Int32)) hx hb dX8_many_1 (by decide) ?_
  refine fp_X8_30 hx hb hts hown hK hM hO.1 dX8_many_2 (fun H locs hM => ?_)
  obtain ⟨M1, eM1⟩ : ∃ z, z = hu M ma tx (.inr (9, [.int (0 : Int32), .ref h0, .ref fa, .ref lb, .int pr, .int mo])) := ⟨_, rfl⟩
  replace hM : Wd G M1 s H locs := hM.eq eM1.symm
  have hO1 : XdR G M1 tx ma h0 fa lb (0 : Int32) pr mo F Lx := by rw [eM1]; exact hO.setO (0 : Int32) pr mo
  have hL1 : MdR G M1 t h0 Z N U now := by rw [eM1]; exact hL.frame (Ne.symm d1) (Fr.up hO.1)
  have hF1 : F3 tx t t2 M M1 := by rw [eM1]; exact F3.tr (F3.rf) (F3.up hO.1 (Or.inr (Or.inl rfl)))
  refine lv_iload_n hx hb dX8_many_5 rfl (lv_at hl 1 rfl) ?_
  refine lv_iconst (v := (0 : Int32)) hx hb dX8_many_6 (by decide) ?_
  refine lv_bipush (v := (12 : Int32)) hx hb dX8_many_7 (by decide) ?_
  refine g_callSi (n9 := 3) (As := [.int p0, .int (0 : Int32), .int (12 : Int32)]) (rest := []) hx hb hml hl.1 hown hts hK hM (c_X8_in l G _ p0 (0 : Int32) (12 : Int32) ) wm_X8_36 wt_X8_in wn_X8 wc_X8_in (by decide +kernel) ⟨Nat.le_of_ble_eq_true rfl, Nat.le_of_ble_eq_true rfl⟩ ⟨Nat.le_of_ble_eq_true rfl, Nat.le_of_ble_eq_true rfl⟩ rfl (Nat.le_of_ble_eq_true rfl) rfl dX8_many_9 (fun r_9 M1 H locs hq hM => ?_)
  have hq1 := hq.1.symm
  have hq2 := hq.2.symm
  subst hq1 hq2
  refine lv_if_ne (tgt := 21) hx hb dX8_many_12 (by decide) (fun c1 => ?_) (fun c1 => ?_)
  · refine lv_aload_n hx hb dX8_many_21 rfl (lv_at hl 0 rfl) ?_
    refine lv_iload_n hx hb dX8_many_22 rfl (lv_at hl 1 rfl) ?_
    refine g_callVi (n9 := 1) (As := [.int p0]) (rest := []) hx hb hml hl.1 hown hts hK hM (c_X8_manyNow l G _ tx ma h0 fa lb t t2 Z N U now (0 : Int32) pr mo F Lx p0 hO1 hL1 d1 d2 d3 (in_ix (c := 12) c1 (by decide))) wm_X8_145 wi_X8_manyNow wl_X8_manyNow wn_X8 wc_X8_manyNow (by decide +kernel) (hM.recv hK (ci := 9) rfl hO1.1) ⟨Nat.le_of_ble_eq_true rfl, Nat.le_of_ble_eq_true rfl⟩ ⟨Nat.le_of_ble_eq_true rfl, Nat.le_of_ble_eq_true rfl⟩ rfl (Nat.le_of_ble_eq_true rfl) rfl dX8_many_23 (fun r_23 M7 H locs hq hM => ?_)
    obtain ⟨er, hF7⟩ := hq
    subst er
    have hO7 := hO1.frame d2 hF7
    have hL7 := hL1.frame d3 hF7
    have hF8 := F3.tr hF1 (F3.fr2 hF7)
    exact g_iret hx hb hr hlocks hM (Nat.le_of_ble_eq_true rfl) (Nat.le_of_ble_eq_true rfl) ⟨(by unfold q_X8_many; rw [if_neg c1]), (by rw [show th_X8_many N U now th pr mo F Lx p0 = (0 : Int32) from by unfold th_X8_many; rw [if_neg c1]]; exact ⟨hO7, ⟨Z, hL7⟩, hF8⟩)⟩ dX8_many_26
  · refine lv_aload_n hx hb dX8_many_15 rfl (lv_at hl 0 rfl) ?_
    refine lv_iconst (v := (1 : Int32)) hx hb dX8_many_16 (by decide) ?_
    refine g_callVi (n9 := 1) (As := [.int (1 : Int32)]) (rest := []) hx hb hml hl.1 hown hts hK hM (c_X8_no l G _ ma tx (0 : Int32) pr mo h0 fa lb (1 : Int32) hO1.1) wm_X8_49 wi_X8_no wl_X8_no wn_X8 wc_X8_no (by decide +kernel) (hM.recv hK (ci := 9) rfl hO1.1) ⟨Nat.le_of_ble_eq_true rfl, Nat.le_of_ble_eq_true rfl⟩ ⟨Nat.le_of_ble_eq_true rfl, Nat.le_of_ble_eq_true rfl⟩ rfl (Nat.le_of_ble_eq_true rfl) rfl dX8_many_17 (fun r_17 M9 H locs hq hM => ?_)
    obtain ⟨er, eM9⟩ := hq
    subst er
    replace hM := hM.eq eM9
    obtain ⟨M2, eM2⟩ : ∃ z, z = hu M1 ma tx (.inr (9, [.int (1 : Int32), .ref h0, .ref fa, .ref lb, .int pr, .int mo])) := ⟨_, rfl⟩
    replace hM : Wd G M2 s H locs := hM.eq eM2.symm
    have hO2 : XdR G M2 tx ma h0 fa lb (1 : Int32) pr mo F Lx := by rw [eM2]; exact hO1.setO (1 : Int32) pr mo
    have hL2 : MdR G M2 t h0 Z N U now := by rw [eM2]; exact hL1.frame (Ne.symm d1) (Fr.up hO1.1)
    have hF2 : F3 tx t t2 M M2 := by rw [eM2]; exact F3.tr hF1 (F3.up hO1.1 (Or.inr (Or.inl rfl)))
    exact g_iret hx hb hr hlocks hM (Nat.le_of_ble_eq_true rfl) (Nat.le_of_ble_eq_true rfl) ⟨(by unfold q_X8_many; rw [if_pos c1]), (by rw [show th_X8_many N U now th pr mo F Lx p0 = (1 : Int32) from by unfold th_X8_many; rw [if_pos c1]]; exact ⟨hO2, ⟨Z, hL2⟩, hF2⟩)⟩ dX8_many_20
def q_X8_owed (N : Nat → Nat) (U : Tb) (now th pr mo : Int32) (F Lx : Row) (p0 p1 : Int32) : Int32 := if (t_X8_in_0 p0 (0 : Int32) (3 : Int32)) = 0 then t_X8_no_0 else (if p1 = 0 then (F (ix p0)) else (Lx (ix p0)))
def th_X8_owed (N : Nat → Nat) (U : Tb) (now th pr mo : Int32) (F Lx : Row) (p0 p1 : Int32) : Int32 := if (t_X8_in_0 p0 (0 : Int32) (3 : Int32)) = 0 then (1 : Int32) else (0 : Int32)
set_option maxHeartbeats 4000000 in
set_option maxRecDepth 100000 in
theorem c_X8_owed (l : Launch) (G : GG) (M : HM) (tx ma h0 fa lb t t2 : Nat) (Z : LZ) (N : Nat → Nat) (U : Tb) (now th pr mo : Int32) (F Lx : Row) (p0 p1 : Int32) (hO : XdR G M tx ma h0 fa lb th pr mo F Lx) (hL : MdR G M t h0 Z N U now) (d1 : tx ≠ t) (d2 : tx ≠ t2) (d3 : t ≠ t2)   : Mi l yX8_owed (.code yX8_owed cX8_owed 3 (some .int) :: AL) 1 22 0 0 [.ref ma, .int p0, .int p1] G M (fun r M' => r = (q_X8_owed N U now th pr mo F Lx p0 p1) ∧ XP G M M' tx ma h0 fa lb t t2 N U now (th_X8_owed N U now th pr mo F Lx p0 p1) pr mo F Lx) := by
  refine Mi.go (by decide) (Nat.le_of_ble_eq_true rfl) ?_
  intro p e s m below meth c ls hx hb hr hml hown hlocks hname hts hK hM hl
  have hown : s.vm.findClass RX8 = some m.cls := hown
  have hl : lv_has ls 3 [(0, .ref ma), (1, .int p0), (2, .int p1)] := hl
  have hn0 := hL.cnt (k := 0) (by decide)
  have hn09 : N 0 ≤ 8 := by have : N 0 ≤ 8 := hn0; omega
  have hn1 := hL.cnt (k := 1) (by decide)
  have hn19 : N 1 ≤ 8 := by have : N 1 ≤ 4 := hn1; omega
  have hn2 := hL.cnt (k := 2) (by decide)
  have hn29 : N 2 ≤ 8 := by have : N 2 ≤ 4 := hn2; omega
  have hn3 := hL.cnt (k := 3) (by decide)
  have hn39 : N 3 ≤ 8 := by have : N 3 ≤ 3 := hn3; omega
  refine lv_aload_n hx hb dX8_owed_0 rfl (lv_at hl 0 rfl) ?_
  refine lv_iconst (v := (0 : Int32)) hx hb dX8_owed_1 (by decide) ?_
  refine fp_X8_30 hx hb hts hown hK hM hO.1 dX8_owed_2 (fun H locs hM => ?_)
  obtain ⟨M1, eM1⟩ : ∃ z, z = hu M ma tx (.inr (9, [.int (0 : Int32), .ref h0, .ref fa, .ref lb, .int pr, .int mo])) := ⟨_, rfl⟩
  replace hM : Wd G M1 s H locs := hM.eq eM1.symm
  have hO1 : XdR G M1 tx ma h0 fa lb (0 : Int32) pr mo F Lx := by rw [eM1]; exact hO.setO (0 : Int32) pr mo
  have hL1 : MdR G M1 t h0 Z N U now := by rw [eM1]; exact hL.frame (Ne.symm d1) (Fr.up hO.1)
  have hF1 : F3 tx t t2 M M1 := by rw [eM1]; exact F3.tr (F3.rf) (F3.up hO.1 (Or.inr (Or.inl rfl)))
  refine lv_iload_n hx hb dX8_owed_5 rfl (lv_at hl 1 rfl) ?_
  refine lv_iconst (v := (0 : Int32)) hx hb dX8_owed_6 (by decide) ?_
  refine lv_iconst (v := (3 : Int32)) hx hb dX8_owed_7 (by decide) ?_
  refine g_callSi (n9 := 3) (As := [.int p0, .int (0 : Int32), .int (3 : Int32)]) (rest := []) hx hb hml hl.1 hown hts hK hM (c_X8_in l G _ p0 (0 : Int32) (3 : Int32) ) wm_X8_36 wt_X8_in wn_X8 wc_X8_in (by decide +kernel) ⟨Nat.le_of_ble_eq_true rfl, Nat.le_of_ble_eq_true rfl⟩ ⟨Nat.le_of_ble_eq_true rfl, Nat.le_of_ble_eq_true rfl⟩ rfl (Nat.le_of_ble_eq_true rfl) rfl dX8_owed_8 (fun r_8 M1 H locs hq hM => ?_)
  have hq1 := hq.1.symm
  have hq2 := hq.2.symm
  subst hq1 hq2
  refine lv_if_ne (tgt := 20) hx hb dX8_owed_11 (by decide) (fun c1 => ?_) (fun c1 => ?_)
  · refine lv_iload_n hx hb dX8_owed_20 rfl (lv_at hl 2 rfl) ?_
    refine lv_if_eq (tgt := 33) hx hb dX8_owed_21 (by decide) (fun c2 => ?_) (fun c2 => ?_)
    · refine lv_aload_n hx hb dX8_owed_33 rfl (lv_at hl 0 rfl) ?_
      refine fg_X8_16 hx hb hts hown hK hM hO1.1 dX8_owed_34 ?_
      refine lv_iload_n hx hb dX8_owed_37 rfl (lv_at hl 1 rfl) ?_
      refine g_iald hx hb hK hM hO1.2.1 (vp_ix (in_ix (c := 3) c1 (by decide))) dX8_owed_38 ?_
      exact g_iret hx hb hr hlocks hM (Nat.le_of_ble_eq_true rfl) (Nat.le_of_ble_eq_true rfl) ⟨(by unfold q_X8_owed; rw [if_neg c1, if_pos c2]), (by rw [show th_X8_owed N U now th pr mo F Lx p0 p1 = (0 : Int32) from by unfold th_X8_owed; rw [if_neg c1]]; exact ⟨hO1, ⟨Z, hL1⟩, hF1⟩)⟩ dX8_owed_39
    · refine lv_aload_n hx hb dX8_owed_24 rfl (lv_at hl 0 rfl) ?_
      refine fg_X8_20 hx hb hts hown hK hM hO1.1 dX8_owed_25 ?_
      refine lv_iload_n hx hb dX8_owed_28 rfl (lv_at hl 1 rfl) ?_
      refine g_iald hx hb hK hM hO1.2.2.1 (vp_ix (in_ix (c := 3) c1 (by decide))) dX8_owed_29 ?_
      refine lv_goto (tgt := 39) hx hb dX8_owed_30 (by decide) ?_
      exact g_iret hx hb hr hlocks hM (Nat.le_of_ble_eq_true rfl) (Nat.le_of_ble_eq_true rfl) ⟨(by unfold q_X8_owed; rw [if_neg c1, if_neg c2]), (by rw [show th_X8_owed N U now th pr mo F Lx p0 p1 = (0 : Int32) from by unfold th_X8_owed; rw [if_neg c1]]; exact ⟨hO1, ⟨Z, hL1⟩, hF1⟩)⟩ dX8_owed_39
  · refine lv_aload_n hx hb dX8_owed_14 rfl (lv_at hl 0 rfl) ?_
    refine lv_iconst (v := (1 : Int32)) hx hb dX8_owed_15 (by decide) ?_
    refine g_callVi (n9 := 1) (As := [.int (1 : Int32)]) (rest := []) hx hb hml hl.1 hown hts hK hM (c_X8_no l G _ ma tx (0 : Int32) pr mo h0 fa lb (1 : Int32) hO1.1) wm_X8_49 wi_X8_no wl_X8_no wn_X8 wc_X8_no (by decide +kernel) (hM.recv hK (ci := 9) rfl hO1.1) ⟨Nat.le_of_ble_eq_true rfl, Nat.le_of_ble_eq_true rfl⟩ ⟨Nat.le_of_ble_eq_true rfl, Nat.le_of_ble_eq_true rfl⟩ rfl (Nat.le_of_ble_eq_true rfl) rfl dX8_owed_16 (fun r_16 M9 H locs hq hM => ?_)
    obtain ⟨er, eM9⟩ := hq
    subst er
    replace hM := hM.eq eM9
    obtain ⟨M2, eM2⟩ : ∃ z, z = hu M1 ma tx (.inr (9, [.int (1 : Int32), .ref h0, .ref fa, .ref lb, .int pr, .int mo])) := ⟨_, rfl⟩
    replace hM : Wd G M2 s H locs := hM.eq eM2.symm
    have hO2 : XdR G M2 tx ma h0 fa lb (1 : Int32) pr mo F Lx := by rw [eM2]; exact hO1.setO (1 : Int32) pr mo
    have hL2 : MdR G M2 t h0 Z N U now := by rw [eM2]; exact hL1.frame (Ne.symm d1) (Fr.up hO1.1)
    have hF2 : F3 tx t t2 M M2 := by rw [eM2]; exact F3.tr hF1 (F3.up hO1.1 (Or.inr (Or.inl rfl)))
    exact g_iret hx hb hr hlocks hM (Nat.le_of_ble_eq_true rfl) (Nat.le_of_ble_eq_true rfl) ⟨(by unfold q_X8_owed; rw [if_pos c1]), (by rw [show th_X8_owed N U now th pr mo F Lx p0 p1 = (1 : Int32) from by unfold th_X8_owed; rw [if_pos c1]]; exact ⟨hO2, ⟨Z, hL2⟩, hF2⟩)⟩ dX8_owed_19

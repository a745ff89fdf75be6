/-! an hour of the reference, as a function of its tables -/
def rpR (cl w a r : Int32) (f : Row) : Row := rw11 (f 0) (f 1) (f 2) (f 3) (mn (100 : Int32) ((f 4) + (t_X7_ripen_0 w))) (t_X7_ripen_1 (f 4) (f 5) w a r) (t_X7_ripen_2 (f 4) (f 5) (f 6) cl w a r) (f 7) (f 8) (f 9) (f 10)
def ripR (cl w a r : Int32) : Nat → Tb → Tb
  | 0, U => U
  | i + 1, U => tu (ripR cl w a r i U) 0 i (rpR cl w a r (ripR cl w a r i U 0 i))
def wksR (N : Nat → Nat) (now r : Int32) : Nat → Tb → Tb
  | 0, U => U
  | i + 1, U => u_X7_work N (wksR N now r i U) now (nI i) r i
def drsR (N : Nat → Nat) (now : Int32) : Nat → Tb × Nat → Tb × Nat
  | 0, S => S
  | i + 1, S => (u_X7_drive (nu N 4 (drsR N now i S).2) (drsR N now i S).1 now i, n_X7_drive (nu N 4 (drsR N now i S).2) (drsR N now i S).1 now i)
def wkS (N : Nat → Nat) (now w a r : Int32) (U : Tb) : Tb := wksR N (now + 1) r (N 1) (ripR (clk (now + 1)) w a r (N 0) U)
def goR (N : Nat → Nat) (now w a r : Int32) (S : Tb × Nat) : Tb × Nat := drsR N (now + 1) (N 2) (wkS N now w a r S.1, S.2)
def GoOK (N : Nat → Nat) (U : Tb) (i : Nat) : Prop := ¬ U 1 i 7 = (-1 : Int32) → ¬ U 1 i 7 < 0 ∧ ix (U 1 i 7) < N 0
def DrOK (N : Nat → Nat) (U : Tb) (i : Nat) : Prop := (U 2 i 0 = (1 : Int32) → ¬ U 2 i 7 < 0 ∧ ix (U 2 i 7) < N 1) ∧ (¬ U 2 i 0 = 0 → ¬ U 2 i 0 = (1 : Int32) → ¬ U 2 i 7 < 0 ∧ ix (U 2 i 7) < N 3) ∧ (0 < U 2 i 2 → ¬ U 2 i 3 < 0 ∧ ix (U 2 i 3) < N 0)
/-- where an hour may go -/
def HrOK (N : Nat → Nat) (now w a r : Int32) (S : Tb × Nat) : Prop := (∀ i, i < N 1 → GoOK N (wksR N (now + 1) r i (ripR (clk (now + 1)) w a r (N 0) S.1)) i) ∧ ∀ i, i < N 2 → DrOK N (drsR N (now + 1) i (wkS N now w a r S.1, S.2)).1 i
theorem n_sell_ge {N : Nat → Nat} {U : Tb} {now : Int32} {i v : Nat} : N 4 ≤ n_X7_sell N U now i v := by
  unfold n_X7_sell
  (repeat' split) <;> omega
theorem n_drive_ge {N : Nat → Nat} {U : Tb} {now : Int32} {i : Nat} : N 4 ≤ n_X7_drive N U now i := by
  unfold n_X7_drive
  (repeat' split) <;> first | exact Nat.le_refl _ | exact n_sell_ge
theorem drsR_mono {N : Nat → Nat} {now : Int32} {S : Tb × Nat} {i j : Nat} (h : i ≤ j) : (drsR N now i S).2 ≤ (drsR N now j S).2 := by
  induction h with
  | refl => exact Nat.le_refl _
  | @step j _ ih => exact Nat.le_trans ih (n_drive_ge (N := nu N 4 (drsR N now j S).2))
theorem goR_ge {N : Nat → Nat} {now w a r : Int32} {S : Tb × Nat} : S.2 ≤ (goR N now w a r S).2 := drsR_mono (N := N) (now := now + 1) (S := (wkS N now w a r S.1, S.2)) (i := 0) (Nat.zero_le (N 2))
set_option maxHeartbeats 4000000 in
set_option maxRecDepth 100000 in
theorem c_X7_go (l : Launch) (G : GG) (M : HM) (t h0 : Nat) (Z : LZ) (N : Nat → Nat) (U : Tb) (now : Int32) (p0 p1 p2 : Int32) (hL : MdR G M t h0 Z N U now)  (hOK : HrOK N now p0 p1 p2 (U, N 4)) (B : Nat) (hB : (goR N now p0 p1 p2 (U, N 4)).2 ≤ B) (hB6 : B < 600) : Mi l yX7_go (.code yX7_go cX7_go 6 (some .int) :: AL) 9 217 (2 * ((goR N now p0 p1 p2 (U, N 4)).2 - N 4)) ((17 + 2 * B) * ((goR N now p0 p1 p2 (U, N 4)).2 - N 4)) [.ref h0, .int p0, .int p1, .int p2] G M (fun r M' => r = nI (goR N now p0 p1 p2 (U, N 4)).2 - nI (N 4) ∧ ∃ Z', MdR G M' t h0 Z' (nu N 4 (goR N now p0 p1 p2 (U, N 4)).2) (goR N now p0 p1 p2 (U, N 4)).1 (now + 1) ∧ Fr t M M') := by
  refine Mi.go (by decide) (Nat.le_of_ble_eq_true rfl) ?_
  intro p e s m below meth c ls hx hb hr hml hown hlocks hname hts hK hM hl
  have hown : s.vm.findClass RX7 = some m.cls := hown
  have hl : lv_has ls 6 [(0, .ref h0), (1, .int p0), (2, .int p1), (3, .int p2)] := hl
  obtain ⟨mc, emc⟩ : ∃ z, z = (2 * ((goR N now p0 p1 p2 (U, N 4)).2 - N 4)) := ⟨_, rfl⟩
  obtain ⟨ms, ems⟩ : ∃ z, z = ((17 + 2 * B) * ((goR N now p0 p1 p2 (U, N 4)).2 - N 4)) := ⟨_, rfl⟩
  rw [← emc, ← ems]
  have hn0 := hL.cnt (k := 0) (by decide)
  have hn09 : N 0 ≤ 8 := by have : N 0 ≤ 8 := hn0; omega
  have hn1 := hL.cnt (k := 1) (by decide)
  have hn19 : N 1 ≤ 8 := by have : N 1 ≤ 4 := hn1; omega
  have hn2 := hL.cnt (k := 2) (by decide)
  have hn29 : N 2 ≤ 8 := by have : N 2 ≤ 4 := hn2; omega
  have hn3 := hL.cnt (k := 3) (by decide)
  have hn39 : N 3 ≤ 8 := by have : N 3 ≤ 3 := hn3; omega
  refine lv_aload_n hx hb dX7_go_0 rfl (lv_at hl 0 rfl) ?_
  refine lv_dup hx hb dX7_go_1 rfl ?_
  refine fg_X7_52 hx hb hts hown hK hM hL.1 dX7_go_2 ?_
  refine lv_iconst (v := (1 : Int32)) hx hb dX7_go_5 (by decide) ?_
  refine lv_iadd hx hb dX7_go_6 ?_
  refine fp_X7_52 hx hb hts hown hK hM hL.1 dX7_go_7 (fun H locs hM => ?_)
  obtain ⟨M1, eM1⟩ : ∃ z, z = hu M h0 t (mdE Z N (now + (1 : Int32))) := ⟨_, rfl⟩
  replace hM := hM.eq eM1.symm
  have hL1 : MdR G M1 t h0 Z N U (now + (1 : Int32)) := by rw [eM1]; exact hL.setLand N _ rfl (fun k hk => hL.cnt hk)
  have hF1 : Fr t M M1 := by rw [eM1]; exact Fr.tr Fr.rf (Fr.up hL.1)
  refine lv_iconst (v := (0 : Int32)) hx hb dX7_go_10 (by decide) ?_
  refine lv_istore (lv' := [(4, .int (0 : Int32)), (0, .ref h0), (1, .int p0), (2, .int p1), (3, .int p2)]) hx hb dX7_go_11 hl (by decide) rfl (fun ls hl => ?_)
  have L13 : ∀ (n i : Nat), i ≤ N 0 → N 0 - i < n → ∀ (M5 : HM) (H : Heap) (locs : List Loc) (ls : Array Slot) (Z5 : LZ) (U5 : Tb), U5 = ripR (clk (now + 1)) p0 p1 p2 i U → MdR G M5 t h0 Z5 N U5 (now + 1) → Fr t M M5 → Wd G M5 s H locs → lv_has ls 6 [(4, .int (nI i)), (0, .ref h0), (1, .int p0), (2, .int p1), (3, .int p2)] → W p l e ({ frames := 9, cells := mc, slots := ms, locals := 217 } : Room) s m [.ref h0, .int p0, .int p1, .int p2].toArray below meth c H locs 0 0 (MQ below (va_Qi (fun r M' => r = nI (goR N now p0 p1 p2 (U, N 4)).2 - nI (N 4) ∧ ∃ Z', MdR G M' t h0 Z' (nu N 4 (goR N now p0 p1 p2 (U, N 4)).2) (goR N now p0 p1 p2 (U, N 4)).1 (now + 1) ∧ Fr t M M') (gB G) (gA G)) [.ref h0, .int p0, .int p1, .int p2].toArray s mc ms (gA G)) (F0 m 13 ls []) := by
    intro n
    induction n with
    | zero => intro i h1 h2; omega
    | succ n ih =>
      intro i h1 h9 M5 H locs ls Z5 U5 eU hL5 hF5 hM hl
      refine lv_iload hx hb dX7_go_13 (lv_at hl 0 rfl) ?_
      refine lv_aload_n hx hb dX7_go_15 rfl (lv_at hl 1 rfl) ?_
      refine fg_X7_33 hx hb hts hown hK hM hL5.1 dX7_go_16 ?_
      refine lv_icmp_ge (tgt := 45) hx hb dX7_go_19 (by decide) (fun c1 => ?_) (fun c1 => ?_)
      · have hi : i = N 0 := by
          have := (nI_leI (by omega) (by omega)).mp c1
          omega
        subst hi
        have eV : U5 = ripR (clk (now + 1)) p0 p1 p2 (N 0) U := eU
        refine lv_iconst (v := (0 : Int32)) hx hb dX7_go_45 (by decide) ?_
        refine lv_istore (lv' := [(4, .int (0 : Int32)), (0, .ref h0), (1, .int p0), (2, .int p1), (3, .int p2)]) hx hb dX7_go_46 hl (by decide) rfl (fun ls hl => ?_)
        have L48 : ∀ (n i : Nat), i ≤ N 1 → N 1 - i < n → ∀ (M5 : HM) (H : Heap) (locs : List Loc) (ls : Array Slot) (Z5 : LZ) (U6 : Tb), U6 = wksR N (now + 1) p2 i (ripR (clk (now + 1)) p0 p1 p2 (N 0) U) → MdR G M5 t h0 Z5 N U6 (now + 1) → Fr t M M5 → Wd G M5 s H locs → lv_has ls 6 [(4, .int (nI i)), (0, .ref h0), (1, .int p0), (2, .int p1), (3, .int p2)] → W p l e ({ frames := 9, cells := mc, slots := ms, locals := 217 } : Room) s m [.ref h0, .int p0, .int p1, .int p2].toArray below meth c H locs 0 0 (MQ below (va_Qi (fun r M' => r = nI (goR N now p0 p1 p2 (U, N 4)).2 - nI (N 4) ∧ ∃ Z', MdR G M' t h0 Z' (nu N 4 (goR N now p0 p1 p2 (U, N 4)).2) (goR N now p0 p1 p2 (U, N 4)).1 (now + 1) ∧ Fr t M M') (gB G) (gA G)) [.ref h0, .int p0, .int p1, .int p2].toArray s mc ms (gA G)) (F0 m 48 ls []) := by
          intro n
          induction n with
          | zero => intro i h1 h2; omega
          | succ n ih =>
            intro i h1 h9 M5 H locs ls Z5 U5 eU hL5 hF5 hM hl
            refine lv_iload hx hb dX7_go_48 (lv_at hl 0 rfl) ?_
            refine lv_aload_n hx hb dX7_go_50 rfl (lv_at hl 1 rfl) ?_
            refine fg_X7_43 hx hb hts hown hK hM hL5.1 dX7_go_51 ?_
            refine lv_icmp_ge (tgt := 77) hx hb dX7_go_54 (by decide) (fun c2 => ?_) (fun c2 => ?_)
            · have hi : i = N 1 := by
                have := (nI_leI (by omega) (by omega)).mp c2
                omega
              subst hi
              have eV2 : U5 = wkS N now p0 p1 p2 U := eU
              refine lv_aload_n hx hb dX7_go_77 rfl (lv_at hl 1 rfl) ?_
              refine fg_X7_28 hx hb hts hown hK hM hL5.1 dX7_go_78 ?_
              refine g_callFi (n9 := 0) (As := []) (rest := []) hx hb hml hl.1 hown hts hK hM (c_Jx4a65c_size_8abf5 l G _ Z5.2.2.1 t _ _ _ (hL5.2.2.1.1)) (hK.1.1 0 _ rfl).2 hK.2.2.1.1 wm_X7_76 wl_Jx4a65c_size_8abf5_by_List_size wi_Jx4a65c_size_8abf5 wn_Jx4a65c wc_Jx4a65c_size_8abf5 (by decide +kernel) (hM.recv hK (ci := 0) rfl (hL5.2.2.1.1)) ⟨Nat.le_of_ble_eq_true rfl, Nat.le_of_ble_eq_true rfl⟩ ⟨Nat.zero_le _, Nat.zero_le _⟩ rfl (Nat.le_of_ble_eq_true rfl) rfl dX7_go_81 (fun r_81 Mz H locs hq hM => ?_)
              have hq1 := hq.1.symm
              have hq2 := hq.2.symm
              subst hq1 hq2
              refine lv_istore (lv' := [(4, .int (nI (N 4))), (0, .ref h0), (1, .int p0), (2, .int p1), (3, .int p2)]) hx hb dX7_go_86 hl (by decide) rfl (fun ls hl => ?_)
              refine lv_iconst (v := (0 : Int32)) hx hb dX7_go_88 (by decide) ?_
              refine lv_istore (lv' := [(5, .int (0 : Int32)), (4, .int (nI (N 4))), (0, .ref h0), (1, .int p0), (2, .int p1), (3, .int p2)]) hx hb dX7_go_89 hl (by decide) rfl (fun ls hl => ?_)
              have L91 : ∀ (n i : Nat), i ≤ N 2 → N 2 - i < n → ∀ (M5 : HM) (H : Heap) (locs : List Loc) (ls : Array Slot) (Z5 : LZ) (S5 : Tb × Nat), S5 = drsR N (now + 1) i (wkS N now p0 p1 p2 U, N 4) → MdR G M5 t h0 Z5 (nu N 4 S5.2) S5.1 (now + 1) → Fr t M M5 → Wd G M5 s H locs → lv_has ls 6 [(5, .int (nI i)), (4, .int (nI (N 4))), (0, .ref h0), (1, .int p0), (2, .int p1), (3, .int p2)] → W p l e ({ frames := 9, cells := mc, slots := ms, locals := 217 } : Room) s m [.ref h0, .int p0, .int p1, .int p2].toArray below meth c H locs (2 * (S5.2 - N 4)) ((17 + 2 * B) * (S5.2 - N 4)) (MQ below (va_Qi (fun r M' => r = nI (goR N now p0 p1 p2 (U, N 4)).2 - nI (N 4) ∧ ∃ Z', MdR G M' t h0 Z' (nu N 4 (goR N now p0 p1 p2 (U, N 4)).2) (goR N now p0 p1 p2 (U, N 4)).1 (now + 1) ∧ Fr t M M') (gB G) (gA G)) [.ref h0, .int p0, .int p1, .int p2].toArray s mc ms (gA G)) (F0 m 91 ls []) := by
                intro n
                induction n with
                | zero => intro i h1 h2; omega
                | succ n ih =>
                  intro i h1 h9 M5 H locs ls Z5 S5 eS hL5 hF5 hM hl
                  have m1 : S5.2 ≤ (goR N now p0 p1 p2 (U, N 4)).2 := by rw [eS]; exact drsR_mono h1
                  have m0 : N 4 ≤ S5.2 := by rw [eS]; exact drsR_mono (i := 0) (S := (wkS N now p0 p1 p2 U, N 4)) (Nat.zero_le _)
                  refine lv_iload hx hb dX7_go_91 (lv_at hl 0 rfl) ?_
                  refine lv_aload_n hx hb dX7_go_93 rfl (lv_at hl 2 rfl) ?_
                  refine fg_X7_46 hx hb hts hown hK hM (show M5 h0 = some (t, (.inr (8, [.ref (Z5.1 0), .ref (Z5.1 1), .ref (Z5.1 2), .ref (Z5.1 3), .ref Z5.2.2.1, .int (now + 1), .int (nI (N 0)), .int (nI (N 1)), .int (nI (N 2)), .int (nI (N 3))]))) from hL5.1) dX7_go_94 ?_
                  refine lv_icmp_ge (tgt := 117) hx hb dX7_go_97 (by decide) (fun c3 => ?_) (fun c3 => ?_)
                  · have hi : i = N 2 := by
                      have := (nI_leI (by omega) (by omega)).mp c3
                      omega
                    subst hi
                    refine lv_aload_n hx hb dX7_go_117 rfl (lv_at hl 2 rfl) ?_
                    refine fg_X7_28 hx hb hts hown hK hM (show M5 h0 = some (t, (.inr (8, [.ref (Z5.1 0), .ref (Z5.1 1), .ref (Z5.1 2), .ref (Z5.1 3), .ref Z5.2.2.1, .int (now + 1), .int (nI (N 0)), .int (nI (N 1)), .int (nI (N 2)), .int (nI (N 3))]))) from hL5.1) dX7_go_118 ?_
                    refine g_callFi (n9 := 0) (As := []) (rest := []) hx hb hml hl.1 hown hts hK hM (c_Jx4a65c_size_8abf5 l G _ Z5.2.2.1 t _ _ _ (hL5.2.2.1.1)) (hK.1.1 0 _ rfl).2 hK.2.2.1.1 wm_X7_76 wl_Jx4a65c_size_8abf5_by_List_size wi_Jx4a65c_size_8abf5 wn_Jx4a65c wc_Jx4a65c_size_8abf5 (by decide +kernel) (hM.recv hK (ci := 0) rfl (hL5.2.2.1.1)) ⟨Nat.le_of_ble_eq_true rfl, Nat.le_of_ble_eq_true rfl⟩ ⟨by show 2 * (S5.2 - N 4) + 0 ≤ mc; omega, by show (17 + 2 * B) * (S5.2 - N 4) + 0 ≤ ms; rw [ems]; exact Nat.mul_le_mul_left _ (by omega)⟩ rfl (Nat.le_of_ble_eq_true rfl) rfl dX7_go_121 (fun r_121 Mz H locs hq hM => ?_)
                    have hq1 := hq.1.symm
                    have hq2 := hq.2.symm
                    subst hq1 hq2
                    refine lv_iload hx hb dX7_go_126 (lv_at hl 1 rfl) ?_
                    refine lv_isub hx hb dX7_go_128 ?_
                    have eS9 : S5 = (goR N now p0 p1 p2 (U, N 4)) := eS
                    refine g_iret hx hb hr hlocks hM (by show 2 * (S5.2 - N 4) ≤ mc; omega) (by show (17 + 2 * B) * (S5.2 - N 4) ≤ ms; rw [ems]; exact Nat.mul_le_mul_left _ (by omega)) ⟨?_, Z5, ?_, hF5⟩ dX7_go_129
                    · rw [← eS9]; rfl
                    · rw [← eS9]; exact hL5
                  · have hi : i < N 2 := by
                      rcases Nat.lt_or_ge i (N 2) with z | z
                      · exact z
                      · exact absurd (nI_le z (by omega)) c3
                    refine lv_aload_n hx hb dX7_go_100 rfl (lv_at hl 2 rfl) ?_
                    refine lv_aload_n hx hb dX7_go_101 rfl (lv_at hl 2 rfl) ?_
                    refine fg_X7_19 hx hb hts hown hK hM (show M5 h0 = some (t, (.inr (8, [.ref (Z5.1 0), .ref (Z5.1 1), .ref (Z5.1 2), .ref (Z5.1 3), .ref Z5.2.2.1, .int (now + 1), .int (nI (N 0)), .int (nI (N 1)), .int (nI (N 2)), .int (nI (N 3))]))) from hL5.1) dX7_go_102 ?_
                    refine lv_iload hx hb dX7_go_105 (lv_at hl 0 rfl) ?_
                    refine g_aaldN hx hb hK hM (hL5.outer (k := 2) (by decide)) (Nat.lt_of_lt_of_le hi hn2) (by show 4 < 1000; decide) dX7_go_107 ?_
                    have hd9 := hOK.2 i hi
                    rw [← eS] at hd9
                    obtain ⟨S6, e9⟩ : ∃ z, z = drsR N (now + 1) (i + 1) (wkS N now p0 p1 p2 U, N 4) := ⟨_, rfl⟩
                    have e8 : S6 = (u_X7_drive (nu N 4 S5.2) S5.1 (now + 1) i, n_X7_drive (nu N 4 S5.2) S5.1 (now + 1) i) := by rw [e9, eS]; rfl
                    have m2 : S6.2 ≤ (goR N now p0 p1 p2 (U, N 4)).2 := by rw [e9]; exact drsR_mono (by omega)
                    have m3 : S5.2 ≤ S6.2 := by rw [e8]; exact n_drive_ge (N := nu N 4 S5.2)
                    have e7 : n_X7_drive (nu N 4 S5.2) S5.1 (now + 1) i = S6.2 := by rw [e8]
                    refine g_callVv (n9 := 1) (As := [.ref (Z5.2.1 2 i)]) (rest := []) hx hb hml hl.1 hown hts hK hM (c_X7_drive l G _ t h0 Z5 (nu N 4 S5.2) S5.1 (now + 1) i hL5 (Nat.lt_of_lt_of_le hi hn2) hd9.1 hd9.2.1 hd9.2.2 (by show S5.2 < 600; omega) B (by rw [e7]; omega)) wm_X7_81 wi_X7_drive wl_X7_drive wn_X7 wc_X7_drive (by decide +kernel) (hM.recv hK (ci := 8) rfl hL5.1) ⟨Nat.le_of_ble_eq_true rfl, Nat.le_of_ble_eq_true rfl⟩ ⟨by show 2 * (S5.2 - N 4) + 2 * (n_X7_drive (nu N 4 S5.2) S5.1 (now + 1) i - S5.2) ≤ mc; rw [e7]; omega, by show (17 + 2 * B) * (S5.2 - N 4) + (17 + 2 * B) * (n_X7_drive (nu N 4 S5.2) S5.1 (now + 1) i - S5.2) ≤ ms; rw [e7, ems, ← Nat.mul_add]; exact Nat.mul_le_mul_left _ (by omega)⟩ rfl (Nat.le_of_ble_eq_true rfl) rfl dX7_go_108 (fun M7 H locs hq hM => ?_)
                    obtain ⟨Z7, hL7, hF7⟩ := hq
                    have hF8 := Fr.tr hF5 hF7
                    have hL8 : MdR G M7 t h0 Z7 (nu N 4 S6.2) S6.1 (now + 1) := by rw [e8]; rw [nu_nu] at hL7; exact hL7
                    refine W.cst (cells' := 2 * (S6.2 - N 4)) (slots' := (17 + 2 * B) * (S6.2 - N 4)) (by show 2 * (S5.2 - N 4) + 2 * (n_X7_drive (nu N 4 S5.2) S5.1 (now + 1) i - S5.2) = _; rw [e7]; omega) (by show (17 + 2 * B) * (S5.2 - N 4) + (17 + 2 * B) * (n_X7_drive (nu N 4 S5.2) S5.1 (now + 1) i - S5.2) = _; rw [e7, ← Nat.mul_add]; congr 1; omega) ?_
                    refine lv_iinc (v := (nI (i + 1))) (lv' := [(5, .int (nI (i + 1))), (4, .int (nI (N 4))), (0, .ref h0), (1, .int p0), (2, .int p1), (3, .int p2)]) hx hb dX7_go_111 hl (k := 0) rfl (nI_1 i) (by decide) rfl (fun ls hl => ?_)
                    refine lv_goto (tgt := 91) hx hb dX7_go_114 (by decide) ?_
                    exact ih (i + 1) (by omega) (by omega) _ _ _ _ _ _ e9 hL8 hF8 hM (lv_sub hl [0, 1, 2, 3, 4, 5] rfl)
              refine W.cst (cells' := 2 * (N 4 - N 4)) (slots' := (17 + 2 * B) * (N 4 - N 4)) (by rw [Nat.sub_self]) (by rw [Nat.sub_self, Nat.mul_zero]) ?_
              exact L91 (N 2 + 1) 0 (Nat.zero_le _) (by omega) _ _ _ _ Z5 (wkS N now p0 p1 p2 U, N 4) rfl (by show MdR G M5 t h0 Z5 (nu N 4 (N 4)) _ (now + 1); rw [nu_i, ← eV2]; exact hL5) hF5 hM (lv_sub hl [0, 1, 2, 3, 4, 5] rfl)
            · have hi : i < N 1 := by
                rcases Nat.lt_or_ge i (N 1) with z | z
                · exact z
                · exact absurd (nI_le z (by omega)) c2
              refine lv_aload_n hx hb dX7_go_57 rfl (lv_at hl 1 rfl) ?_
              refine lv_iload hx hb dX7_go_58 (lv_at hl 0 rfl) ?_
              refine lv_aload_n hx hb dX7_go_60 rfl (lv_at hl 1 rfl) ?_
              refine fg_X7_16 hx hb hts hown hK hM hL5.1 dX7_go_61 ?_
              refine lv_iload hx hb dX7_go_64 (lv_at hl 0 rfl) ?_
              refine g_aaldN hx hb hK hM (hL5.outer (k := 1) (by decide)) (Nat.lt_of_lt_of_le hi hn1) (by show 4 < 1000; decide) dX7_go_66 ?_
              refine lv_iload_n hx hb dX7_go_67 rfl (lv_at hl 4 rfl) ?_
              have hg9 := hOK.1 i hi
              rw [← eU] at hg9
              refine g_callVv (n9 := 3) (As := [.int (nI i), .ref (Z5.2.1 1 i), .int p2]) (rest := []) hx hb hml hl.1 hown hts hK hM (c_X7_work l G _ t h0 Z5 N U5 (now + 1) (nI i) p2 i hL5 (Nat.lt_of_lt_of_le hi hn1) hg9) wm_X7_72 wi_X7_work wl_X7_work wn_X7 wc_X7_work (by decide +kernel) (hM.recv hK (ci := 8) rfl hL5.1) ⟨Nat.le_of_ble_eq_true rfl, Nat.le_of_ble_eq_true rfl⟩ ⟨Nat.zero_le _, Nat.zero_le _⟩ rfl (Nat.le_of_ble_eq_true rfl) rfl dX7_go_68 (fun M7 H locs hq hM => ?_)
              obtain ⟨Z7, hL7, hF7⟩ := hq
              have hF8 := Fr.tr hF5 hF7
              refine lv_iinc (v := (nI (i + 1))) (lv' := [(4, .int (nI (i + 1))), (0, .ref h0), (1, .int p0), (2, .int p1), (3, .int p2)]) hx hb dX7_go_71 hl (k := 0) rfl (nI_1 i) (by decide) rfl (fun ls hl => ?_)
              refine lv_goto (tgt := 48) hx hb dX7_go_74 (by decide) ?_
              exact ih (i + 1) (by omega) (by omega) _ _ _ _ _ _ (by rw [eU]; rfl) hL7 hF8 hM (lv_sub hl [0, 1, 2, 3, 4] rfl)
        exact L48 (N 1 + 1) 0 (Nat.zero_le _) (by omega) _ _ _ _ _ _ eV hL5 hF5 hM (lv_sub hl [0, 1, 2, 3, 4] rfl)
      · have hi : i < N 0 := by
          rcases Nat.lt_or_ge i (N 0) with z | z
          · exact z
          · exact absurd (nI_le z (by omega)) c1
        refine lv_aload_n hx hb dX7_go_22 rfl (lv_at hl 1 rfl) ?_
        refine fg_X7_11 hx hb hts hown hK hM hL5.1 dX7_go_23 ?_
        refine lv_iload hx hb dX7_go_26 (lv_at hl 0 rfl) ?_
        refine g_aaldN hx hb hK hM (hL5.outer (k := 0) (by decide)) (Nat.lt_of_lt_of_le hi hn0) (by show 8 < 1000; decide) dX7_go_28 ?_
        refine lv_aload_n hx hb dX7_go_29 rfl (lv_at hl 1 rfl) ?_
        refine g_callVi (n9 := 0) (As := []) (rest := [.ref (Z5.2.1 0 i)]) hx hb hml hl.1 hown hts hK hM (c_X7_clock l G _ t h0 Z5 N U5 (now + 1) hL5) wm_X7_64 wi_X7_clock wl_X7_clock wn_X7 wc_X7_clock (by decide +kernel) (hM.recv hK (ci := 8) rfl hL5.1) ⟨Nat.le_of_ble_eq_true rfl, Nat.le_of_ble_eq_true rfl⟩ ⟨Nat.zero_le _, Nat.zero_le _⟩ rfl (Nat.le_of_ble_eq_true rfl) rfl dX7_go_30 (fun r_30 Mz H locs hq hM => ?_)
        have hq1 := hq.1.symm
        have hq2 := hq.2.symm
        subst hq1 hq2
        refine lv_iload_n hx hb dX7_go_33 rfl (lv_at hl 2 rfl) ?_
        refine lv_iload_n hx hb dX7_go_34 rfl (lv_at hl 3 rfl) ?_
        refine lv_iload_n hx hb dX7_go_35 rfl (lv_at hl 4 rfl) ?_
        refine g_callSv (n9 := 5) (As := [.ref (Z5.2.1 0 i), .int (clk (now + 1)), .int p0, .int p1, .int p2]) (rest := []) hx hb hml hl.1 hown hts hK hM (c_X7_ripen l G _ (Z5.2.1 0 i) t (U5 0 i 0) (U5 0 i 1) (U5 0 i 2) (U5 0 i 3) (U5 0 i 4) (U5 0 i 5) (U5 0 i 6) (U5 0 i 7) (U5 0 i 8) (U5 0 i 9) (U5 0 i 10) (clk (now + 1)) p0 p1 p2 (hL5.row (k := 0) (by decide) (Nat.lt_of_lt_of_le hi hn0))) wm_X7_68 wt_X7_ripen wn_X7 wc_X7_ripen (by decide +kernel) ⟨Nat.le_of_ble_eq_true rfl, Nat.le_of_ble_eq_true rfl⟩ ⟨Nat.le_of_ble_eq_true rfl, Nat.le_of_ble_eq_true rfl⟩ rfl (Nat.le_of_ble_eq_true rfl) rfl dX7_go_36 (fun M1 H locs hq hM => ?_)
        replace hq := hq.symm
        subst hq
        obtain ⟨M2, eM2⟩ : ∃ z, z = hu M5 (Z5.2.1 0 i) t (.inl (G.2.1 0, 11, .inl (rw11 (U5 0 i 0) (U5 0 i 1) (U5 0 i 2) (U5 0 i 3) (mn (100 : Int32) ((U5 0 i 4) + (t_X7_ripen_0 p0))) (t_X7_ripen_1 (U5 0 i 4) (U5 0 i 5) p0 p1 p2) (t_X7_ripen_2 (U5 0 i 4) (U5 0 i 5) (U5 0 i 6) (clk (now + 1)) p0 p1 p2) (U5 0 i 7) (U5 0 i 8) (U5 0 i 9) (U5 0 i 10)))) := ⟨_, rfl⟩
        rw [← eM2] at hM
        have hL2 : MdR G M2 t h0 Z5 N (tu U5 0 i (rw11 (U5 0 i 0) (U5 0 i 1) (U5 0 i 2) (U5 0 i 3) (mn (100 : Int32) ((U5 0 i 4) + (t_X7_ripen_0 p0))) (t_X7_ripen_1 (U5 0 i 4) (U5 0 i 5) p0 p1 p2) (t_X7_ripen_2 (U5 0 i 4) (U5 0 i 5) (U5 0 i 6) (clk (now + 1)) p0 p1 p2) (U5 0 i 7) (U5 0 i 8) (U5 0 i 9) (U5 0 i 10))) (now + 1) := by rw [eM2]; exact hL5.setRow (k := 0) (by decide) (Nat.lt_of_lt_of_le hi hn0) (rw11 (U5 0 i 0) (U5 0 i 1) (U5 0 i 2) (U5 0 i 3) (mn (100 : Int32) ((U5 0 i 4) + (t_X7_ripen_0 p0))) (t_X7_ripen_1 (U5 0 i 4) (U5 0 i 5) p0 p1 p2) (t_X7_ripen_2 (U5 0 i 4) (U5 0 i 5) (U5 0 i 6) (clk (now + 1)) p0 p1 p2) (U5 0 i 7) (U5 0 i 8) (U5 0 i 9) (U5 0 i 10))
        have hF2 : Fr t M M2 := by rw [eM2]; exact Fr.tr hF5 (Fr.up (hL5.row (k := 0) (by decide) (Nat.lt_of_lt_of_le hi hn0)))
        have hr2_0 : M2 (Z5.2.1 0 i) = some (t, (.inl (G.2.1 0, 11, .inl (rw11 (U5 0 i 0) (U5 0 i 1) (U5 0 i 2) (U5 0 i 3) (mn (100 : Int32) ((U5 0 i 4) + (t_X7_ripen_0 p0))) (t_X7_ripen_1 (U5 0 i 4) (U5 0 i 5) p0 p1 p2) (t_X7_ripen_2 (U5 0 i 4) (U5 0 i 5) (U5 0 i 6) (clk (now + 1)) p0 p1 p2) (U5 0 i 7) (U5 0 i 8) (U5 0 i 9) (U5 0 i 10))))) := by rw [eM2]; exact hu_s
        refine lv_iinc (v := (nI (i + 1))) (lv' := [(4, .int (nI (i + 1))), (0, .ref h0), (1, .int p0), (2, .int p1), (3, .int p2)]) hx hb dX7_go_39 hl (k := 0) rfl (nI_1 i) (by decide) rfl (fun ls hl => ?_)
        refine lv_goto (tgt := 13) hx hb dX7_go_42 (by decide) ?_
        exact ih (i + 1) (by omega) (by omega) _ _ _ _ _ _ (by rw [eU]; rfl) hL2 hF2 hM (lv_sub hl [0, 1, 2, 3, 4] rfl)
  exact L13 (N 0 + 1) 0 (Nat.zero_le _) (by omega) _ _ _ _ Z U rfl hL1 hF1 hM (lv_sub hl [0, 1, 2, 3, 4] rfl)

/-! what is found: fields, combines, trucks, elevators, out of draws -/
def Nm (a b c e k : Nat) : Nat → Nat := fun j => match j with | 0 => a | 1 => b | 2 => c | 3 => e | 4 => k | _ => 0
theorem nu_m0 (a b c e k : Nat) : nu (Nm a b c e k) 0 (Nm a b c e k 0 + 1) = Nm (a + 1) b c e k := funext fun j => by
  unfold nu Nm
  match j with
  | 0 => rfl
  | 1 => rfl
  | 2 => rfl
  | 3 => rfl
  | 4 => rfl
  | j + 5 => rfl
theorem nu_m1 (a b c e k : Nat) : nu (Nm a b c e k) 1 (Nm a b c e k 1 + 1) = Nm a (b + 1) c e k := funext fun j => by
  unfold nu Nm
  match j with
  | 0 => rfl
  | 1 => rfl
  | 2 => rfl
  | 3 => rfl
  | 4 => rfl
  | j + 5 => rfl
theorem nu_m2 (a b c e k : Nat) : nu (Nm a b c e k) 2 (Nm a b c e k 2 + 1) = Nm a b (c + 1) e k := funext fun j => by
  unfold nu Nm
  match j with
  | 0 => rfl
  | 1 => rfl
  | 2 => rfl
  | 3 => rfl
  | 4 => rfl
  | j + 5 => rfl
theorem nu_m3 (a b c e k : Nat) : nu (Nm a b c e k) 3 (Nm a b c e k 3 + 1) = Nm a b c (e + 1) k := funext fun j => by
  unfold nu Nm
  match j with
  | 0 => rfl
  | 1 => rfl
  | 2 => rfl
  | 3 => rfl
  | 4 => rfl
  | j + 5 => rfl
theorem Nm_0 : (fun _ => 0 : Nat → Nat) = Nm 0 0 0 0 0 := funext fun j => by
  unfold Nm
  match j with
  | 0 => rfl
  | 1 => rfl
  | 2 => rfl
  | 3 => rfl
  | 4 => rfl
  | j + 5 => rfl
theorem Nm_q (k : Nat) : Nm 4 2 2 2 k = Nq k := funext fun j => by
  unfold Nm Nq
  match j with
  | 0 => rfl
  | 1 => rfl
  | 2 => rfl
  | 3 => rfl
  | 4 => rfl
  | j + 5 => rfl
section PF
variable (L : Nat) (xs : Nat → Int32)
def fdR (d : Nat) : Row := R_X2_init_0 (fun _ => 0) (nI (drN L xs d 4)) (nI (10 * drN L xs (d + 1) 12)) (nI (20 + drN L xs (d + 2) 100)) (nI (10 + drN L xs (d + 3) 81)) (nI (drN L xs (d + 4) 51))
def fdA (d k : Nat) (T : Tb) : Tb := tu (tu (tu T 0 k (fdR L xs d)) 0 k (upd ((tu T 0 k (fdR L xs d)) 0 k) 6 (nI (70 + drN L xs (d + 5) 31)))) 0 k (upd (upd ((tu T 0 k (fdR L xs d)) 0 k) 6 (nI (70 + drN L xs (d + 5) 31))) 7 (nI (8 + drN L xs (d + 6) 14)))
def ffT (d : Nat) : Nat → Tb
  | 0 => T0
  | k + 1 => fdA L xs (d + 7 * k) k (ffT d k)
def ffB (d i : Nat) : Int32 := nI (10 + drN L xs (d + 7 * i + 3) 81)
def fcA (d k : Nat) (T : Tb) : Tb := tu (tu T 1 k (R_X0_init_0 (fun _ => 0) (nI k) (nI (10 * drN L xs d 12)) (nI (1 + drN L xs (d + 1) 20)))) 2 k (R_X5_init_0 (fun _ => 0) (nI (10 * drN L xs (d + 2) 12)))
def fcT (d : Nat) : Nat → Tb
  | 0 => ffT L xs d 4
  | k + 1 => fcA L xs (d + 28 + 3 * k) k (fcT d k)
def fdT (d : Nat) : Tb := tu (tu (fcT L xs d 2) 3 0 (R_X1_init_0 (fun _ => 0) (nI (10 * drN L xs (d + 34) 12)) (nI (500 + drN L xs (d + 35) 9000)) (nI (drN L xs (d + 36) 12)) (nI (12 + drN L xs (d + 37) 12)) (nI (5 + drN L xs (d + 38) 9)) (nI (14 + drN L xs (d + 39) 20)))) 3 1 (R_X1_init_0 (fun _ => 0) (nI (10 * drN L xs (d + 40) 12)) (nI (500 + drN L xs (d + 41) 9000)) (nI (12 + drN L xs (d + 42) 12)) (nI (drN L xs (d + 43) 12)) (nI (5 + drN L xs (d + 44) 9)) (nI (14 + drN L xs (d + 45) 20)))
end PF
theorem out_l {a lo hi : Nat} {x y : Int32} (ex : nI lo = x) (ey : nI hi = y) (h1 : lo ≤ a) (h2 : a ≤ hi) (h3 : hi < 2 ^ 31) : t_X6_isOutside_0 (nI a) x y = 0 := by
  subst ex ey
  exact out_ok ((nI_leI (by omega) (by omega)).mpr h1) ((nI_leI (by omega) (by omega)).mpr h2)
section KZ
variable {N : Nat → Nat} {T : Tb} {now money : Int32}
theorem kz_field {a m ac bu sh : Nat} (h1 : a < 4) (h2 : m < 12) (h3 : ac < 100) (h4 : bu < 81) (h5 : sh < 51) (hN : N 0 < 8) : kc_X6_field N T 0 now 400 money (nI a) (nI (10 * m)) (nI (20 + ac)) (nI (10 + bu)) (nI sh) = 0 := by
  unfold kc_X6_field
  rw [if_pos (out_l (lo := 0) (hi := 3) (x := 0) (y := 3) rfl rfl (by omega) (by omega) (by decide)), if_pos (out_l (lo := 0) (hi := 300) (x := 0) (y := 300) rfl rfl (by omega) (by omega) (by decide)), if_pos (out_l (lo := 1) (hi := 200) (x := 1) (y := 200) rfl rfl (by omega) (by omega) (by decide)), if_pos (out_l (lo := 10) (hi := 90) (x := 10) (y := 90) rfl rfl (by omega) (by omega) (by decide)), if_pos (out_l (lo := 0) (hi := 50) (x := 0) (y := 50) rfl rfl (by omega) (by omega) (by decide)), if_pos (show nI (N 0) < (8 : Int32) from (nI_ltI (a := N 0) (b := 8) (by omega) (by decide)).mpr hN)]
theorem kz_crop {i r d : Nat} (h1 : i < N 0) (hN : N 0 ≤ 8) (h2 : r < 31) (h3 : d < 14) : kc_X6_crop N T 0 now 400 money (nI i) (nI (70 + r)) (nI (8 + d)) = 0 := by
  unfold kc_X6_crop
  rw [if_neg (by rw [ixR_of (by omega) h1]; simp), if_pos (out_l (lo := 0) (hi := 100) (x := 0) (y := 100) rfl rfl (by omega) (by omega) (by decide)), if_pos (out_l (lo := 5) (hi := 40) (x := 5) (y := 40) rfl rfl (by omega) (by omega) (by decide))]
theorem kz_combine {m pc : Nat} (h1 : m < 12) (h2 : pc < 20) (hN : N 1 < 4) : kc_X6_combine N T 0 now 400 money (nI (10 * m)) (nI (1 + pc)) = 0 := by
  unfold kc_X6_combine
  rw [if_pos (out_l (lo := 0) (hi := 300) (x := 0) (y := 300) rfl rfl (by omega) (by omega) (by decide)), if_pos (out_l (lo := 1) (hi := 20) (x := 1) (y := 20) rfl rfl (by omega) (by omega) (by decide)), if_pos (show nI (N 1) < (4 : Int32) from (nI_ltI (a := N 1) (b := 4) (by omega) (by decide)).mpr hN)]
theorem kz_truck {m : Nat} (h1 : m < 12) (hN : N 2 < 4) : kc_X6_truck N T 0 now 400 money (nI (10 * m)) = 0 := by
  unfold kc_X6_truck
  rw [if_pos (out_l (lo := 0) (hi := 300) (x := 0) (y := 300) rfl rfl (by omega) (by omega) (by decide)), if_pos (show nI (N 2) < (4 : Int32) from (nI_ltI (a := N 2) (b := 4) (by omega) (by decide)).mpr hN)]
theorem kz_elevator {m rm fr to le gr : Nat} (h1 : m < 12) (h2 : rm < 9000) (h3 : fr < 24) (h4 : to < 24) (hne : fr ≠ to) (h5 : le < 9) (h6 : gr < 20) (hN : N 3 < 3) : kc_X6_elevator N T 0 now 400 money (nI (10 * m)) (nI (500 + rm)) (nI fr) (nI to) (nI (5 + le)) (nI (14 + gr)) = 0 := by
  unfold kc_X6_elevator
  rw [if_pos (out_l (lo := 0) (hi := 300) (x := 0) (y := 300) rfl rfl (by omega) (by omega) (by decide)), if_pos (out_l (lo := 0) (hi := 9999) (x := 0) (y := 9999) rfl rfl (by omega) (by omega) (by decide)), if_pos (out_l (lo := 0) (hi := 23) (x := 0) (y := 23) rfl rfl (by omega) (by omega) (by decide)), if_pos (out_l (lo := 0) (hi := 23) (x := 0) (y := 23) rfl rfl (by omega) (by omega) (by decide)), if_neg (fun z => hne ((nI_eq (by omega) (by omega)).mp z)), if_pos (out_l (lo := 5) (hi := 40) (x := 5) (y := 40) rfl rfl (by omega) (by omega) (by decide)), if_pos (out_l (lo := 5 + le) (hi := 40) (x := nI (5 + le)) (y := 40) rfl rfl (by omega) (by omega) (by decide)), if_pos (show nI (N 3) < (3 : Int32) from (nI_ltI (a := N 3) (b := 3) (by omega) (by decide)).mpr hN)]
end KZ
section TC
variable {G : GG} {M M' : HM} {ρ tt xa b d nf nc nt ne : Nat} {B B' : Nat → Int32} {z : Int32} {N N' : Nat → Nat} {T T' : Tb} {now money : Int32}
theorem TO.cong (h : TO G M ρ tt xa b d nf nc nt ne B z N T now money) (hB : ∀ i, i < nf → B i = B' i) (hN : N = N') (hT : T = T') : TO G M ρ tt xa b d nf nc nt ne B' z N' T' now money := by
  subst hN hT
  obtain ⟨fa, ca, ta, ea, ka, oa, h1, ⟨g, f1, f2⟩, h3, h4, h5, h6⟩ := h
  refine ⟨fa, ca, ta, ea, ka, oa, h1, ⟨g, f1, fun i hi => ?_⟩, h3, h4, h5, h6⟩
  obtain ⟨y, f, a1, a2, a3, a4⟩ := f2 i hi
  exact ⟨y, f, a1, a2, a3.trans (hB i hi), a4⟩
end TC
section RD
variable {p : Program} {l : Launch} {e : Env} {R : Room} {s : State} {m : MethodId} {args : Array Value} {below : List Frame} {meth : Method} {c : Code} {H : Heap} {locs : List Loc} {cells slots : Nat} {Q : State → Prop}
variable {cc : ByteArray} {pc nL index b L ρ tt xa d nf nc nt ne n : Nat} {xs : Nat → Int32} {ls : Array Slot} {rest : List Value} {G : GG} {M : HM} {own : String} {B : Nat → Int32} {z : Int32} {N : Nat → Nat} {T : Tb} {now money : Int32}
theorem r_draw (hx : p.tables.exec = Jvm.exec) (hb : c.code = cc) (hml : c.maxLocals = nL) (hls : ls.size = nL) (hown : s.vm.findClass own = some m.cls) (hts : ∀ w ∈ AL, w.before args s = true) (hS : Ks G b L xs s s.heap) (hK : Kw G s) (hX : Kx G s s.heap) (hM : Wd G M s H locs) (hT : TO G M ρ tt xa b d nf nc nt ne B z N T now money) (hL : L ≤ 260) (hd : d < 10000) (h0 : 0 < n) (hn : n < 10000) (hlk : Cond.methodLink own index yX7_draw ∈ AL) (hR : 2 ≤ R.frames ∧ 52 ≤ R.locals) (hf : cells ≤ R.cells ∧ slots ≤ R.slots) (hst : (rest.map fun v => v.category).sum ≤ 8) (hdg : decode cc pc = .ok (.invokevirtual index, 3))
    (kk : ∀ (M' : HM) (H : Heap) (locs : List Loc), TO G M' ρ tt xa b (d + 1) nf nc nt ne B z N T now money → Sb ρ M M' → Wd G M' s H locs → W p l e R s m args below meth c H locs cells slots Q (F0 m (pc + 3) ls (.int (nI (drN L xs d n)) :: rest))) : W p l e R s m args below meth c H locs cells slots Q (F0 m pc ls (.int (nI n) :: .ref tt :: rest)) := by
  obtain ⟨fa, ca, ta, ea, ka, oa, hc⟩ := hT.cell
  refine g_sVi (n9 := 1) (As := [.int (nI n)]) (rest := rest) hx hb hml hls hown hts hS hK hX hM (c_X7_draw l G M b L xs ρ tt xa d nf nc nt ne n B z N T now money hT hL hd h0 hn) hlk wi_X7_draw wl_X7_draw wn_X7 wc_X7_draw (by decide +kernel) (hM.recv hK (ci := 8) rfl hc) ⟨hR.1, hR.2⟩ ⟨hf.1, hf.2⟩ rfl hst rfl hdg (fun r M1 H locs hq hM => ?_)
  obtain ⟨er, q1, q2⟩ := hq
  subst er
  exact kk M1 H locs q1 q2 hM
end RD
set_option maxHeartbeats 4000000 in
set_option maxRecDepth 100000 in
theorem c_X7_found (l : Launch) (hst9 : l.stackTraces = false) (G : GG) (M : HM) (b L : Nat) (xs : Nat → Int32) (ρ tt xa d : Nat) (hT : TO G M ρ tt xa b d 0 0 0 0 (fun _ => 0) 0 (fun _ => 0) T0 0 1000) (hL : L ≤ 260) (hd : d < 1000) : Si l yX7_found (.code yX7_found cX7_found 3 (some .boolean) :: AL) 11 460 44 2100 [.ref tt, .int (nI 4)] G b L xs M (fun r M' => r = 1 ∧ (∃ z', TO G M' ρ tt xa b (d + 46) 4 2 2 2 (ffB L xs d) z' (Nq 0) (fdT L xs d) 0 1000) ∧ Sb ρ M M') := by
  refine Si.go (by decide) (Nat.le_of_ble_eq_true rfl) ?_
  intro p e s m below meth c ls hx hb hr hml hown hlocks hnm hts hS hK hX hM hl
  have hown : s.vm.findClass RX7 = some m.cls := hown
  have hl : lv_has ls 3 [(0, .ref tt), (1, .int (nI 4))] := hl
  have dl : ∀ {d n : Nat}, 0 < n → drN L xs d n < n := fun h => drN_lt h
  have L141 : ∀ (M1 : HM) (H : Heap) (locs : List Loc) (ls : Array Slot) (z : Int32), TO G M1 ρ tt xa b (d + 34) 4 2 2 0 (ffB L xs d) z (Nm 4 2 2 0 0) (fcT L xs d 2) 0 1000 → Sb ρ M M1 → Wd G M1 s H locs → lv_has ls 3 [(2, .int (nI 2)), (0, .ref tt), (1, .int (nI 4))] → W p l e ({ frames := 11, cells := 44, slots := 2100, locals := 460 } : Room) s m [.ref tt, .int (nI 4)].toArray below meth c H locs 36 1624 (MQ below (va_Qi (fun r M' => r = 1 ∧ (∃ z', TO G M' ρ tt xa b (d + 46) 4 2 2 2 (ffB L xs d) z' (Nq 0) (fdT L xs d) 0 1000) ∧ Sb ρ M M') (gB G) (gA G)) [.ref tt, .int (nI 4)].toArray s 44 2100 (gA G)) (F0 m 141 ls []) := by
    intro M1 H locs ls z hT hs hM hl
    refine lv_aload_n hx hb dX7_found_141 rfl (lv_at hl 1 rfl) ?_
    refine lv_bipush (v := nI 10) hx hb dX7_found_142 (by decide) ?_
    refine lv_aload_n hx hb dX7_found_144 rfl (lv_at hl 1 rfl) ?_
    refine lv_bipush (v := nI 12) hx hb dX7_found_145 (by decide) ?_
    refine r_draw hx hb hml hl.1 hown hts hS hK hX hM hT hL (by omega) (by decide) (by decide) wm_X7_142 ⟨Nat.le_of_ble_eq_true rfl, Nat.le_of_ble_eq_true rfl⟩ ⟨by show 36 ≤ 44; omega, by show 1624 ≤ 2100; omega⟩ (Nat.le_of_ble_eq_true rfl) dX7_found_147 (fun M1 H locs hT sb hM => ?_)
    replace hs := Sb.tr hs sb
    clear sb
    refine lv_imul hx hb dX7_found_150 ?_
    rw [pk_mul 10 (drN L xs (d + 34) 12)]
    refine lv_sipush (v := nI 500) hx hb dX7_found_151 (by decide) ?_
    refine lv_aload_n hx hb dX7_found_154 rfl (lv_at hl 1 rfl) ?_
    refine lv_sipush (v := nI 9000) hx hb dX7_found_155 (by decide) ?_
    refine r_draw hx hb hml hl.1 hown hts hS hK hX hM hT hL (by omega) (by decide) (by decide) wm_X7_142 ⟨Nat.le_of_ble_eq_true rfl, Nat.le_of_ble_eq_true rfl⟩ ⟨by show 36 ≤ 44; omega, by show 1624 ≤ 2100; omega⟩ (Nat.le_of_ble_eq_true rfl) dX7_found_158 (fun M1 H locs hT sb hM => ?_)
    replace hs := Sb.tr hs sb
    clear sb
    refine lv_iadd hx hb dX7_found_161 ?_
    rw [nI_add 500 (drN L xs (d + 34 + 1) 9000)]
    refine lv_aload_n hx hb dX7_found_162 rfl (lv_at hl 1 rfl) ?_
    refine lv_bipush (v := nI 12) hx hb dX7_found_163 (by decide) ?_
    refine r_draw hx hb hml hl.1 hown hts hS hK hX hM hT hL (by omega) (by decide) (by decide) wm_X7_142 ⟨Nat.le_of_ble_eq_true rfl, Nat.le_of_ble_eq_true rfl⟩ ⟨by show 36 ≤ 44; omega, by show 1624 ≤ 2100; omega⟩ (Nat.le_of_ble_eq_true rfl) dX7_found_165 (fun M1 H locs hT sb hM => ?_)
    replace hs := Sb.tr hs sb
    clear sb
    refine lv_bipush (v := nI 12) hx hb dX7_found_168 (by decide) ?_
    refine lv_aload_n hx hb dX7_found_170 rfl (lv_at hl 1 rfl) ?_
    refine lv_bipush (v := nI 12) hx hb dX7_found_171 (by decide) ?_
    refine r_draw hx hb hml hl.1 hown hts hS hK hX hM hT hL (by omega) (by decide) (by decide) wm_X7_142 ⟨Nat.le_of_ble_eq_true rfl, Nat.le_of_ble_eq_true rfl⟩ ⟨by show 36 ≤ 44; omega, by show 1624 ≤ 2100; omega⟩ (Nat.le_of_ble_eq_true rfl) dX7_found_173 (fun M1 H locs hT sb hM => ?_)
    replace hs := Sb.tr hs sb
    clear sb
    refine lv_iadd hx hb dX7_found_176 ?_
    rw [nI_add 12 (drN L xs (d + 34 + 3) 12)]
    refine lv_iconst (v := nI 5) hx hb dX7_found_177 (by decide) ?_
    refine lv_aload_n hx hb dX7_found_178 rfl (lv_at hl 1 rfl) ?_
    refine lv_bipush (v := nI 9) hx hb dX7_found_179 (by decide) ?_
    refine r_draw hx hb hml hl.1 hown hts hS hK hX hM hT hL (by omega) (by decide) (by decide) wm_X7_142 ⟨Nat.le_of_ble_eq_true rfl, Nat.le_of_ble_eq_true rfl⟩ ⟨by show 36 ≤ 44; omega, by show 1624 ≤ 2100; omega⟩ (Nat.le_of_ble_eq_true rfl) dX7_found_181 (fun M1 H locs hT sb hM => ?_)
    replace hs := Sb.tr hs sb
    clear sb
    refine lv_iadd hx hb dX7_found_184 ?_
    rw [nI_add 5 (drN L xs (d + 34 + 4) 9)]
    refine lv_bipush (v := nI 14) hx hb dX7_found_185 (by decide) ?_
    refine lv_aload_n hx hb dX7_found_187 rfl (lv_at hl 1 rfl) ?_
    refine lv_bipush (v := nI 20) hx hb dX7_found_188 (by decide) ?_
    refine r_draw hx hb hml hl.1 hown hts hS hK hX hM hT hL (by omega) (by decide) (by decide) wm_X7_142 ⟨Nat.le_of_ble_eq_true rfl, Nat.le_of_ble_eq_true rfl⟩ ⟨by show 36 ≤ 44; omega, by show 1624 ≤ 2100; omega⟩ (Nat.le_of_ble_eq_true rfl) dX7_found_190 (fun M1 H locs hT sb hM => ?_)
    replace hs := Sb.tr hs sb
    clear sb
    refine lv_iadd hx hb dX7_found_193 ?_
    rw [nI_add 14 (drN L xs (d + 34 + 5) 20)]
    obtain ⟨fa9, ca9, ta9, ea9, ka9, oa9, hc9⟩ := hT.cell
    refine g_sVi (n9 := 6) (As := [.int (nI (10 * drN L xs (d + 34) 12)), .int (nI (500 + drN L xs (d + 34 + 1) 9000)), .int (nI (drN L xs (d + 34 + 2) 12)), .int (nI (12 + drN L xs (d + 34 + 3) 12)), .int (nI (5 + drN L xs (d + 34 + 4) 9)), .int (nI (14 + drN L xs (d + 34 + 5) 20))]) (rest := []) hx hb hml hl.1 hown hts hS hK hX hM (c_X7_elevator l hst9 G _ b L xs ρ tt xa (d + 34 + 6) 4 2 2 0 (ffB L xs d) z (Nm 4 2 2 0 0) (fcT L xs d 2) 0 1000 hT _ _ _ _ _ _ (kz_elevator (dl (by decide)) (dl (by decide)) (Nat.lt_trans (dl (by decide)) (by decide)) (by have := dl (d := d + 34 + 3) (n := 12) (by decide); omega) (by have := dl (d := d + 34 + 2) (n := 12) (by decide); omega) (dl (by decide)) (dl (by decide)) (by decide)) rfl (by decide)) wm_X7_157 wi_X7_elevator wl_X7_elevator wn_X7 wc_X7_elevator (by decide +kernel) (hM.recv hK (ci := 8) rfl hc9) ⟨Nat.le_of_ble_eq_true rfl, Nat.le_of_ble_eq_true rfl⟩ ⟨by show 36 + 4 ≤ 44; omega, by show 1624 + 200 ≤ 2100; omega⟩ rfl (Nat.le_of_ble_eq_true rfl) rfl dX7_found_194 (fun r0 M1 H locs hq hM => ?_)
    obtain ⟨er0, hT, sb⟩ := hq
    subst er0
    clear hc9
    replace hs := Sb.tr hs sb
    clear sb
    refine lv_if_eq (tgt := 263) hx hb dX7_found_197 (by decide) (fun z9 => absurd z9 (by decide)) (fun _ => ?_)
    rw [nu_m3] at hT
    refine lv_aload_n hx hb dX7_found_200 rfl (lv_at hl 1 rfl) ?_
    refine lv_bipush (v := nI 10) hx hb dX7_found_201 (by decide) ?_
    refine lv_aload_n hx hb dX7_found_203 rfl (lv_at hl 1 rfl) ?_
    refine lv_bipush (v := nI 12) hx hb dX7_found_204 (by decide) ?_
    refine r_draw hx hb hml hl.1 hown hts hS hK hX hM hT hL (by omega) (by decide) (by decide) wm_X7_142 ⟨Nat.le_of_ble_eq_true rfl, Nat.le_of_ble_eq_true rfl⟩ ⟨by show 36 + 4 ≤ 44; omega, by show 1624 + 200 ≤ 2100; omega⟩ (Nat.le_of_ble_eq_true rfl) dX7_found_206 (fun M1 H locs hT sb hM => ?_)
    replace hs := Sb.tr hs sb
    clear sb
    refine lv_imul hx hb dX7_found_209 ?_
    rw [pk_mul 10 (drN L xs (d + 34 + 6) 12)]
    refine lv_sipush (v := nI 500) hx hb dX7_found_210 (by decide) ?_
    refine lv_aload_n hx hb dX7_found_213 rfl (lv_at hl 1 rfl) ?_
    refine lv_sipush (v := nI 9000) hx hb dX7_found_214 (by decide) ?_
    refine r_draw hx hb hml hl.1 hown hts hS hK hX hM hT hL (by omega) (by decide) (by decide) wm_X7_142 ⟨Nat.le_of_ble_eq_true rfl, Nat.le_of_ble_eq_true rfl⟩ ⟨by show 36 + 4 ≤ 44; omega, by show 1624 + 200 ≤ 2100; omega⟩ (Nat.le_of_ble_eq_true rfl) dX7_found_217 (fun M1 H locs hT sb hM => ?_)
    replace hs := Sb.tr hs sb
    clear sb
    refine lv_iadd hx hb dX7_found_220 ?_
    rw [nI_add 500 (drN L xs (d + 34 + 6 + 1) 9000)]
    refine lv_bipush (v := nI 12) hx hb dX7_found_221 (by decide) ?_
    refine lv_aload_n hx hb dX7_found_223 rfl (lv_at hl 1 rfl) ?_
    refine lv_bipush (v := nI 12) hx hb dX7_found_224 (by decide) ?_
    refine r_draw hx hb hml hl.1 hown hts hS hK hX hM hT hL (by omega) (by decide) (by decide) wm_X7_142 ⟨Nat.le_of_ble_eq_true rfl, Nat.le_of_ble_eq_true rfl⟩ ⟨by show 36 + 4 ≤ 44; omega, by show 1624 + 200 ≤ 2100; omega⟩ (Nat.le_of_ble_eq_true rfl) dX7_found_226 (fun M1 H locs hT sb hM => ?_)
    replace hs := Sb.tr hs sb
    clear sb
    refine lv_iadd hx hb dX7_found_229 ?_
    rw [nI_add 12 (drN L xs (d + 34 + 6 + 2) 12)]
    refine lv_aload_n hx hb dX7_found_230 rfl (lv_at hl 1 rfl) ?_
    refine lv_bipush (v := nI 12) hx hb dX7_found_231 (by decide) ?_
    refine r_draw hx hb hml hl.1 hown hts hS hK hX hM hT hL (by omega) (by decide) (by decide) wm_X7_142 ⟨Nat.le_of_ble_eq_true rfl, Nat.le_of_ble_eq_true rfl⟩ ⟨by show 36 + 4 ≤ 44; omega, by show 1624 + 200 ≤ 2100; omega⟩ (Nat.le_of_ble_eq_true rfl) dX7_found_233 (fun M1 H locs hT sb hM => ?_)
    replace hs := Sb.tr hs sb
    clear sb
    refine lv_iconst (v := nI 5) hx hb dX7_found_236 (by decide) ?_
    refine lv_aload_n hx hb dX7_found_237 rfl (lv_at hl 1 rfl) ?_
    refine lv_bipush (v := nI 9) hx hb dX7_found_238 (by decide) ?_
    refine r_draw hx hb hml hl.1 hown hts hS hK hX hM hT hL (by omega) (by decide) (by decide) wm_X7_142 ⟨Nat.le_of_ble_eq_true rfl, Nat.le_of_ble_eq_true rfl⟩ ⟨by show 36 + 4 ≤ 44; omega, by show 1624 + 200 ≤ 2100; omega⟩ (Nat.le_of_ble_eq_true rfl) dX7_found_240 (fun M1 H locs hT sb hM => ?_)
    replace hs := Sb.tr hs sb
    clear sb
    refine lv_iadd hx hb dX7_found_243 ?_
    rw [nI_add 5 (drN L xs (d + 34 + 6 + 4) 9)]
    refine lv_bipush (v := nI 14) hx hb dX7_found_244 (by decide) ?_
    refine lv_aload_n hx hb dX7_found_246 rfl (lv_at hl 1 rfl) ?_
    refine lv_bipush (v := nI 20) hx hb dX7_found_247 (by decide) ?_
    refine r_draw hx hb hml hl.1 hown hts hS hK hX hM hT hL (by omega) (by decide) (by decide) wm_X7_142 ⟨Nat.le_of_ble_eq_true rfl, Nat.le_of_ble_eq_true rfl⟩ ⟨by show 36 + 4 ≤ 44; omega, by show 1624 + 200 ≤ 2100; omega⟩ (Nat.le_of_ble_eq_true rfl) dX7_found_249 (fun M1 H locs hT sb hM => ?_)
    replace hs := Sb.tr hs sb
    clear sb
    refine lv_iadd hx hb dX7_found_252 ?_
    rw [nI_add 14 (drN L xs (d + 34 + 6 + 5) 20)]
    obtain ⟨fa9, ca9, ta9, ea9, ka9, oa9, hc9⟩ := hT.cell
    refine g_sVi (n9 := 6) (As := [.int (nI (10 * drN L xs (d + 34 + 6) 12)), .int (nI (500 + drN L xs (d + 34 + 6 + 1) 9000)), .int (nI (12 + drN L xs (d + 34 + 6 + 2) 12)), .int (nI (drN L xs (d + 34 + 6 + 3) 12)), .int (nI (5 + drN L xs (d + 34 + 6 + 4) 9)), .int (nI (14 + drN L xs (d + 34 + 6 + 5) 20))]) (rest := []) hx hb hml hl.1 hown hts hS hK hX hM (c_X7_elevator l hst9 G _ b L xs ρ tt xa (d + 34 + 6 + 6) 4 2 2 1 (ffB L xs d) z (Nm 4 2 2 1 0) _ 0 1000 hT _ _ _ _ _ _ (kz_elevator (dl (by decide)) (dl (by decide)) (by have := dl (d := d + 34 + 6 + 2) (n := 12) (by decide); omega) (Nat.lt_trans (dl (by decide)) (by decide)) (by have := dl (d := d + 34 + 6 + 3) (n := 12) (by decide); omega) (dl (by decide)) (dl (by decide)) (by decide)) rfl (by decide)) wm_X7_157 wi_X7_elevator wl_X7_elevator wn_X7 wc_X7_elevator (by decide +kernel) (hM.recv hK (ci := 8) rfl hc9) ⟨Nat.le_of_ble_eq_true rfl, Nat.le_of_ble_eq_true rfl⟩ ⟨by show 36 + 4 + 4 ≤ 44; omega, by show 1624 + 200 + 200 ≤ 2100; omega⟩ rfl (Nat.le_of_ble_eq_true rfl) rfl dX7_found_253 (fun r0 M1 H locs hq hM => ?_)
    obtain ⟨er0, hT, sb⟩ := hq
    subst er0
    clear hc9
    replace hs := Sb.tr hs sb
    clear sb
    refine lv_if_eq (tgt := 263) hx hb dX7_found_256 (by decide) (fun z9 => absurd z9 (by decide)) (fun _ => ?_)
    rw [nu_m3] at hT
    refine lv_iconst (v := nI 1) hx hb dX7_found_259 (by decide) ?_
    refine lv_goto (tgt := 264) hx hb dX7_found_260 (by decide) ?_
    exact g_zret (v := 1) hx hb hr hlocks hM (Nat.le_of_ble_eq_true rfl) (Nat.le_of_ble_eq_true rfl) (by decide) ⟨rfl, ⟨z, hT.cong (fun _ _ => rfl) (Nm_q 0) rfl⟩, hs⟩ dX7_found_264
  have L88 : ∀ (n k : Nat), k ≤ 2 → 2 - k < n → ∀ (M1 : HM) (H : Heap) (locs : List Loc) (ls : Array Slot) (z : Int32), TO G M1 ρ tt xa b (d + 28 + 3 * k) 4 k k 0 (ffB L xs d) z (Nm 4 k k 0 0) (fcT L xs d k) 0 1000 → Sb ρ M M1 → Wd G M1 s H locs → lv_has ls 3 [(2, .int (nI k)), (0, .ref tt), (1, .int (nI 4))] → W p l e ({ frames := 11, cells := 44, slots := 2100, locals := 460 } : Room) s m [.ref tt, .int (nI 4)].toArray below meth c H locs (20 + 8 * k) (824 + 400 * k) (MQ below (va_Qi (fun r M' => r = 1 ∧ (∃ z', TO G M' ρ tt xa b (d + 46) 4 2 2 2 (ffB L xs d) z' (Nq 0) (fdT L xs d) 0 1000) ∧ Sb ρ M M') (gB G) (gA G)) [.ref tt, .int (nI 4)].toArray s 44 2100 (gA G)) (F0 m 88 ls []) := by
    intro n
    induction n with
    | zero => intro k h1 h2; omega
    | succ n ih =>
      intro k h1 h2 M1 H locs ls z hT hs hM hl
      refine lv_iload_n hx hb dX7_found_88 rfl (lv_at hl 0 rfl) ?_
      refine lv_iconst (v := nI 2) hx hb dX7_found_89 (by decide) ?_
      refine lv_icmp_ge (tgt := 141) hx hb dX7_found_90 (by decide) (fun c1 => ?_) (fun c1 => ?_)
      · have hk : k = 2 := by
          have := (nI_leI (a := 2) (b := k) (by omega) (by omega)).mp c1
          omega
        subst hk
        exact L141 M1 H locs ls z hT hs hM hl
      · have hk : k < 2 := by
          rcases Nat.lt_or_ge k 2 with z9 | z9
          · exact z9
          · exact absurd (nI_le z9 (by omega)) c1
        refine lv_aload_n hx hb dX7_found_93 rfl (lv_at hl 1 rfl) ?_
        refine lv_bipush (v := nI 10) hx hb dX7_found_94 (by decide) ?_
        refine lv_aload_n hx hb dX7_found_96 rfl (lv_at hl 1 rfl) ?_
        refine lv_bipush (v := nI 12) hx hb dX7_found_97 (by decide) ?_
        refine r_draw hx hb hml hl.1 hown hts hS hK hX hM hT hL (by omega) (by decide) (by decide) wm_X7_142 ⟨Nat.le_of_ble_eq_true rfl, Nat.le_of_ble_eq_true rfl⟩ ⟨by show (20 + 8 * k) ≤ 44; omega, by show (824 + 400 * k) ≤ 2100; omega⟩ (Nat.le_of_ble_eq_true rfl) dX7_found_99 (fun M1 H locs hT sb hM => ?_)
        replace hs := Sb.tr hs sb
        clear sb
        refine lv_imul hx hb dX7_found_102 ?_
        rw [pk_mul 10 (drN L xs (d + 28 + 3 * k) 12)]
        refine lv_iconst (v := nI 1) hx hb dX7_found_103 (by decide) ?_
        refine lv_aload_n hx hb dX7_found_104 rfl (lv_at hl 1 rfl) ?_
        refine lv_bipush (v := nI 20) hx hb dX7_found_105 (by decide) ?_
        refine r_draw hx hb hml hl.1 hown hts hS hK hX hM hT hL (by omega) (by decide) (by decide) wm_X7_142 ⟨Nat.le_of_ble_eq_true rfl, Nat.le_of_ble_eq_true rfl⟩ ⟨by show (20 + 8 * k) ≤ 44; omega, by show (824 + 400 * k) ≤ 2100; omega⟩ (Nat.le_of_ble_eq_true rfl) dX7_found_107 (fun M1 H locs hT sb hM => ?_)
        replace hs := Sb.tr hs sb
        clear sb
        refine lv_iadd hx hb dX7_found_110 ?_
        rw [nI_add 1 (drN L xs (d + 28 + 3 * k + 1) 20)]
        obtain ⟨fa9, ca9, ta9, ea9, ka9, oa9, hc9⟩ := hT.cell
        refine g_sVi (n9 := 2) (As := [.int (nI (10 * drN L xs (d + 28 + 3 * k) 12)), .int (nI (1 + drN L xs (d + 28 + 3 * k + 1) 20))]) (rest := []) hx hb hml hl.1 hown hts hS hK hX hM (c_X7_combine l hst9 G _ b L xs ρ tt xa (d + 28 + 3 * k + 2) 4 k k 0 (ffB L xs d) z (Nm 4 k k 0 0) (fcT L xs d k) 0 1000 hT _ _ (kz_combine (dl (by decide)) (dl (by decide)) (by show k < 4; omega)) rfl (by omega)) wm_X7_151 wi_X7_combine wl_X7_combine wn_X7 wc_X7_combine (by decide +kernel) (hM.recv hK (ci := 8) rfl hc9) ⟨Nat.le_of_ble_eq_true rfl, Nat.le_of_ble_eq_true rfl⟩ ⟨by show (20 + 8 * k) + 4 ≤ 44; omega, by show (824 + 400 * k) + 200 ≤ 2100; omega⟩ rfl (Nat.le_of_ble_eq_true rfl) rfl dX7_found_111 (fun r0 M1 H locs hq hM => ?_)
        obtain ⟨er0, hT, sb⟩ := hq
        subst er0
        clear hc9
        replace hs := Sb.tr hs sb
        clear sb
        refine lv_if_eq (tgt := 133) hx hb dX7_found_114 (by decide) (fun z9 => absurd z9 (by decide)) (fun _ => ?_)
        rw [nu_m1] at hT
        refine lv_aload_n hx hb dX7_found_117 rfl (lv_at hl 1 rfl) ?_
        refine lv_bipush (v := nI 10) hx hb dX7_found_118 (by decide) ?_
        refine lv_aload_n hx hb dX7_found_120 rfl (lv_at hl 1 rfl) ?_
        refine lv_bipush (v := nI 12) hx hb dX7_found_121 (by decide) ?_
        refine r_draw hx hb hml hl.1 hown hts hS hK hX hM hT hL (by omega) (by decide) (by decide) wm_X7_142 ⟨Nat.le_of_ble_eq_true rfl, Nat.le_of_ble_eq_true rfl⟩ ⟨by show (20 + 8 * k) + 4 ≤ 44; omega, by show (824 + 400 * k) + 200 ≤ 2100; omega⟩ (Nat.le_of_ble_eq_true rfl) dX7_found_123 (fun M1 H locs hT sb hM => ?_)
        replace hs := Sb.tr hs sb
        clear sb
        refine lv_imul hx hb dX7_found_126 ?_
        rw [pk_mul 10 (drN L xs (d + 28 + 3 * k + 2) 12)]
        obtain ⟨fa9, ca9, ta9, ea9, ka9, oa9, hc9⟩ := hT.cell
        refine g_sVi (n9 := 1) (As := [.int (nI (10 * drN L xs (d + 28 + 3 * k + 2) 12))]) (rest := []) hx hb hml hl.1 hown hts hS hK hX hM (c_X7_truck l hst9 G _ b L xs ρ tt xa (d + 28 + 3 * k + 2 + 1) 4 (k + 1) k 0 (ffB L xs d) z (Nm 4 (k + 1) k 0 0) _ 0 1000 hT _ (kz_truck (dl (by decide)) (by show k < 4; omega)) rfl (by omega)) wm_X7_154 wi_X7_truck wl_X7_truck wn_X7 wc_X7_truck (by decide +kernel) (hM.recv hK (ci := 8) rfl hc9) ⟨Nat.le_of_ble_eq_true rfl, Nat.le_of_ble_eq_true rfl⟩ ⟨by show (20 + 8 * k) + 4 + 4 ≤ 44; omega, by show (824 + 400 * k) + 200 + 200 ≤ 2100; omega⟩ rfl (Nat.le_of_ble_eq_true rfl) rfl dX7_found_127 (fun r0 M1 H locs hq hM => ?_)
        obtain ⟨er0, hT, sb⟩ := hq
        subst er0
        clear hc9
        replace hs := Sb.tr hs sb
        clear sb
        refine lv_if_ne (tgt := 135) hx hb dX7_found_130 (by decide) (fun _ => ?_) (fun z9 => absurd z9 (by decide))
        rw [nu_m2] at hT
        refine lv_iinc (v := nI (k + 1)) (lv' := [(2, .int (nI (k + 1))), (0, .ref tt), (1, .int (nI 4))]) hx hb dX7_found_135 hl (k := 0) rfl (nI_1 k) (by decide) rfl (fun ls hl => ?_)
        refine lv_goto (tgt := 88) hx hb dX7_found_138 (by decide) ?_
        refine W.cst (cells' := 20 + 8 * (k + 1)) (slots' := 824 + 400 * (k + 1)) (by omega) (by omega) ?_
        exact ih (k + 1) (by omega) (by omega) _ _ _ _ z (hT.cong (fun _ _ => rfl) rfl rfl) hs hM hl
  have L2 : ∀ (n k : Nat), k ≤ 4 → 4 - k < n → ∀ (M1 : HM) (H : Heap) (locs : List Loc) (ls : Array Slot) (z : Int32), TO G M1 ρ tt xa b (d + 7 * k) k 0 0 0 (ffB L xs d) z (Nm k 0 0 0 0) (ffT L xs d k) 0 1000 → Sb ρ M M1 → Wd G M1 s H locs → lv_has ls 3 [(2, .int (nI k)), (0, .ref tt), (1, .int (nI 4))] → W p l e ({ frames := 11, cells := 44, slots := 2100, locals := 460 } : Room) s m [.ref tt, .int (nI 4)].toArray below meth c H locs (5 * k) (206 * k) (MQ below (va_Qi (fun r M' => r = 1 ∧ (∃ z', TO G M' ρ tt xa b (d + 46) 4 2 2 2 (ffB L xs d) z' (Nq 0) (fdT L xs d) 0 1000) ∧ Sb ρ M M') (gB G) (gA G)) [.ref tt, .int (nI 4)].toArray s 44 2100 (gA G)) (F0 m 2 ls []) := by
    intro n
    induction n with
    | zero => intro k h1 h2; omega
    | succ n ih =>
      intro k h1 h2 M1 H locs ls z hT hs hM hl
      refine lv_iload_n hx hb dX7_found_2 rfl (lv_at hl 0 rfl) ?_
      refine lv_iload_n hx hb dX7_found_3 rfl (lv_at hl 2 rfl) ?_
      refine lv_icmp_ge (tgt := 86) hx hb dX7_found_4 (by decide) (fun c1 => ?_) (fun c1 => ?_)
      · have hk : k = 4 := by
          have := (nI_leI (a := 4) (b := k) (by omega) (by omega)).mp c1
          omega
        subst hk
        refine lv_iconst (v := nI 0) hx hb dX7_found_86 (by decide) ?_
        refine lv_istore_n (lv' := [(2, .int (nI 0)), (0, .ref tt), (1, .int (nI 4))]) hx hb dX7_found_87 rfl hl (by decide) rfl (fun ls hl => ?_)
        exact L88 3 0 (by decide) (by decide) M1 _ _ ls z hT hs hM hl
      · have hk : k < 4 := by
          rcases Nat.lt_or_ge k 4 with z9 | z9
          · exact z9
          · exact absurd (nI_le z9 (by omega)) c1
        refine lv_aload_n hx hb dX7_found_7 rfl (lv_at hl 1 rfl) ?_
        refine lv_aload_n hx hb dX7_found_8 rfl (lv_at hl 1 rfl) ?_
        refine lv_iconst (v := nI 4) hx hb dX7_found_9 (by decide) ?_
        refine r_draw hx hb hml hl.1 hown hts hS hK hX hM hT hL (by omega) (by decide) (by decide) wm_X7_142 ⟨Nat.le_of_ble_eq_true rfl, Nat.le_of_ble_eq_true rfl⟩ ⟨by show 5 * k ≤ 44; omega, by show 206 * k ≤ 2100; omega⟩ (Nat.le_of_ble_eq_true rfl) dX7_found_10 (fun M1 H locs hT sb hM => ?_)
        replace hs := Sb.tr hs sb
        clear sb
        refine lv_bipush (v := nI 10) hx hb dX7_found_13 (by decide) ?_
        refine lv_aload_n hx hb dX7_found_15 rfl (lv_at hl 1 rfl) ?_
        refine lv_bipush (v := nI 12) hx hb dX7_found_16 (by decide) ?_
        refine r_draw hx hb hml hl.1 hown hts hS hK hX hM hT hL (by omega) (by decide) (by decide) wm_X7_142 ⟨Nat.le_of_ble_eq_true rfl, Nat.le_of_ble_eq_true rfl⟩ ⟨by show 5 * k ≤ 44; omega, by show 206 * k ≤ 2100; omega⟩ (Nat.le_of_ble_eq_true rfl) dX7_found_18 (fun M1 H locs hT sb hM => ?_)
        replace hs := Sb.tr hs sb
        clear sb
        refine lv_imul hx hb dX7_found_21 ?_
        rw [pk_mul 10 (drN L xs (d + 7 * k + 1) 12)]
        refine lv_bipush (v := nI 20) hx hb dX7_found_22 (by decide) ?_
        refine lv_aload_n hx hb dX7_found_24 rfl (lv_at hl 1 rfl) ?_
        refine lv_bipush (v := nI 100) hx hb dX7_found_25 (by decide) ?_
        refine r_draw hx hb hml hl.1 hown hts hS hK hX hM hT hL (by omega) (by decide) (by decide) wm_X7_142 ⟨Nat.le_of_ble_eq_true rfl, Nat.le_of_ble_eq_true rfl⟩ ⟨by show 5 * k ≤ 44; omega, by show 206 * k ≤ 2100; omega⟩ (Nat.le_of_ble_eq_true rfl) dX7_found_27 (fun M1 H locs hT sb hM => ?_)
        replace hs := Sb.tr hs sb
        clear sb
        refine lv_iadd hx hb dX7_found_30 ?_
        rw [nI_add 20 (drN L xs (d + 7 * k + 2) 100)]
        refine lv_bipush (v := nI 10) hx hb dX7_found_31 (by decide) ?_
        refine lv_aload_n hx hb dX7_found_33 rfl (lv_at hl 1 rfl) ?_
        refine lv_bipush (v := nI 81) hx hb dX7_found_34 (by decide) ?_
        refine r_draw hx hb hml hl.1 hown hts hS hK hX hM hT hL (by omega) (by decide) (by decide) wm_X7_142 ⟨Nat.le_of_ble_eq_true rfl, Nat.le_of_ble_eq_true rfl⟩ ⟨by show 5 * k ≤ 44; omega, by show 206 * k ≤ 2100; omega⟩ (Nat.le_of_ble_eq_true rfl) dX7_found_36 (fun M1 H locs hT sb hM => ?_)
        replace hs := Sb.tr hs sb
        clear sb
        refine lv_iadd hx hb dX7_found_39 ?_
        rw [nI_add 10 (drN L xs (d + 7 * k + 3) 81)]
        refine lv_aload_n hx hb dX7_found_40 rfl (lv_at hl 1 rfl) ?_
        refine lv_bipush (v := nI 51) hx hb dX7_found_41 (by decide) ?_
        refine r_draw hx hb hml hl.1 hown hts hS hK hX hM hT hL (by omega) (by decide) (by decide) wm_X7_142 ⟨Nat.le_of_ble_eq_true rfl, Nat.le_of_ble_eq_true rfl⟩ ⟨by show 5 * k ≤ 44; omega, by show 206 * k ≤ 2100; omega⟩ (Nat.le_of_ble_eq_true rfl) dX7_found_43 (fun M1 H locs hT sb hM => ?_)
        replace hs := Sb.tr hs sb
        clear sb
        obtain ⟨fa9, ca9, ta9, ea9, ka9, oa9, hc9⟩ := hT.cell
        refine g_sVi (n9 := 5) (As := [.int (nI (drN L xs (d + 7 * k) 4)), .int (nI (10 * drN L xs (d + 7 * k + 1) 12)), .int (nI (20 + drN L xs (d + 7 * k + 2) 100)), .int (nI (10 + drN L xs (d + 7 * k + 3) 81)), .int (nI (drN L xs (d + 7 * k + 4) 51))]) (rest := []) hx hb hml hl.1 hown hts hS hK hX hM (c_X7_field l hst9 G _ b L xs ρ tt xa (d + 7 * k + 5) k 0 0 0 (ffB L xs d) z (Nm k 0 0 0 0) (ffT L xs d k) 0 1000 hT _ _ _ _ _ (kz_field (dl (by decide)) (dl (by decide)) (dl (by decide)) (dl (by decide)) (dl (by decide)) (by show k < 8; omega)) rfl (by omega)) wm_X7_145 wi_X7_field wl_X7_field wn_X7 wc_X7_field (by decide +kernel) (hM.recv hK (ci := 8) rfl hc9) ⟨Nat.le_of_ble_eq_true rfl, Nat.le_of_ble_eq_true rfl⟩ ⟨by show 5 * k + 4 ≤ 44; omega, by show 206 * k + 200 ≤ 2100; omega⟩ rfl (Nat.le_of_ble_eq_true rfl) rfl dX7_found_46 (fun r0 M1 H locs hq hM => ?_)
        obtain ⟨er0, hT, sb⟩ := hq
        subst er0
        clear hc9
        replace hs := Sb.tr hs sb
        clear sb
        refine lv_if_eq (tgt := 78) hx hb dX7_found_49 (by decide) (fun z9 => absurd z9 (by decide)) (fun _ => ?_)
        rw [nu_m0] at hT
        replace hT := hT.cong (B' := ffB L xs d) (T' := tu (ffT L xs d k) 0 k (fdR L xs (d + 7 * k))) (fun i hi => by
          show (if i = k then nI (10 + drN L xs (d + 7 * k + 3) 81) else ffB L xs d i) = ffB L xs d i
          by_cases z9 : i = k
          · rw [if_pos z9, z9]; rfl
          · rw [if_neg z9]) rfl rfl
        refine lv_aload_n hx hb dX7_found_52 rfl (lv_at hl 1 rfl) ?_
        refine lv_iload_n hx hb dX7_found_53 rfl (lv_at hl 0 rfl) ?_
        refine lv_bipush (v := nI 70) hx hb dX7_found_54 (by decide) ?_
        refine lv_aload_n hx hb dX7_found_56 rfl (lv_at hl 1 rfl) ?_
        refine lv_bipush (v := nI 31) hx hb dX7_found_57 (by decide) ?_
        refine r_draw hx hb hml hl.1 hown hts hS hK hX hM hT hL (by omega) (by decide) (by decide) wm_X7_142 ⟨Nat.le_of_ble_eq_true rfl, Nat.le_of_ble_eq_true rfl⟩ ⟨by show 5 * k + 4 ≤ 44; omega, by show 206 * k + 200 ≤ 2100; omega⟩ (Nat.le_of_ble_eq_true rfl) dX7_found_59 (fun M1 H locs hT sb hM => ?_)
        replace hs := Sb.tr hs sb
        clear sb
        refine lv_iadd hx hb dX7_found_62 ?_
        rw [nI_add 70 (drN L xs (d + 7 * k + 5) 31)]
        refine lv_bipush (v := nI 8) hx hb dX7_found_63 (by decide) ?_
        refine lv_aload_n hx hb dX7_found_65 rfl (lv_at hl 1 rfl) ?_
        refine lv_bipush (v := nI 14) hx hb dX7_found_66 (by decide) ?_
        refine r_draw hx hb hml hl.1 hown hts hS hK hX hM hT hL (by omega) (by decide) (by decide) wm_X7_142 ⟨Nat.le_of_ble_eq_true rfl, Nat.le_of_ble_eq_true rfl⟩ ⟨by show 5 * k + 4 ≤ 44; omega, by show 206 * k + 200 ≤ 2100; omega⟩ (Nat.le_of_ble_eq_true rfl) dX7_found_68 (fun M1 H locs hT sb hM => ?_)
        replace hs := Sb.tr hs sb
        clear sb
        refine lv_iadd hx hb dX7_found_71 ?_
        rw [nI_add 8 (drN L xs (d + 7 * k + 5 + 1) 14)]
        obtain ⟨fa9, ca9, ta9, ea9, ka9, oa9, hc9⟩ := hT.cell
        refine g_sVi (n9 := 3) (As := [.int (nI k), .int (nI (70 + drN L xs (d + 7 * k + 5) 31)), .int (nI (8 + drN L xs (d + 7 * k + 5 + 1) 14))]) (rest := []) hx hb hml hl.1 hown hts hS hK hX hM (c_X7_crop l hst9 G _ b L xs ρ tt xa (d + 7 * k + 5 + 2) k (k + 1) 0 0 0 (ffB L xs d) 0 (Nm (k + 1) 0 0 0 0) (tu (ffT L xs d k) 0 k (fdR L xs (d + 7 * k))) 0 1000 hT _ _ (kz_crop (by show k < k + 1; omega) (by show k + 1 ≤ 8; omega) (dl (by decide)) (dl (by decide))) rfl (by rw [tu_s]; rfl) (by omega)) wm_X7_148 wi_X7_crop wl_X7_crop wn_X7 wc_X7_crop (by decide +kernel) (hM.recv hK (ci := 8) rfl hc9) ⟨Nat.le_of_ble_eq_true rfl, Nat.le_of_ble_eq_true rfl⟩ ⟨by show 5 * k + 4 + 1 ≤ 44; omega, by show 206 * k + 200 + 6 ≤ 2100; omega⟩ rfl (Nat.le_of_ble_eq_true rfl) rfl dX7_found_72 (fun r0 M1 H locs hq hM => ?_)
        obtain ⟨er0, hT, sb⟩ := hq
        subst er0
        clear hc9
        replace hs := Sb.tr hs sb
        clear sb
        refine lv_if_ne (tgt := 80) hx hb dX7_found_75 (by decide) (fun _ => ?_) (fun z9 => absurd z9 (by decide))
        rw [show ix (nI k) = k from nI_clamp (by omega)] at hT
        refine lv_iinc (v := nI (k + 1)) (lv' := [(2, .int (nI (k + 1))), (0, .ref tt), (1, .int (nI 4))]) hx hb dX7_found_80 hl (k := 0) rfl (nI_1 k) (by decide) rfl (fun ls hl => ?_)
        refine lv_goto (tgt := 2) hx hb dX7_found_83 (by decide) ?_
        refine W.cst (cells' := 5 * (k + 1)) (slots' := 206 * (k + 1)) (by omega) (by omega) ?_
        exact ih (k + 1) (by omega) (by omega) _ _ _ _ _ (hT.cong (fun _ _ => rfl) rfl rfl) hs hM hl
  refine lv_iconst (v := nI 0) hx hb dX7_found_0 (by decide) ?_
  refine lv_istore_n (lv' := [(2, .int (nI 0)), (0, .ref tt), (1, .int (nI 4))]) hx hb dX7_found_1 rfl hl (by decide) rfl (fun ls hl => ?_)
  exact L2 5 0 (by decide) (by decide) M _ _ ls 0 (hT.cong (fun i hi => absurd hi (Nat.not_lt_zero _)) Nm_0 rfl) Sb.rf hM hl

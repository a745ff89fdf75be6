/-! the law: what lies between two calls -/
theorem cmp_s (x : Int64) : lg_cmp x x = 0 := by
  unfold lg_cmp
  simp
/-- the class's side, in the regions 1 to 4; the reference's, in 5 and 6; the cell of the answers, in 8 -/
def CP (G : GG) (M : HM) (xa : Nat) (N : Nat → Nat) (T : Tb) (now price money : Int32) (Nt : Nat → Nat) : Prop := ∃ h0 h2 h3 Y Yt Tt a1 a2 a3 ft, M xa = some (1, .inr (7, [.ref h0, .ref h2, .ref h3])) ∧ LdR G M 2 h0 Y N T 0 now price money ∧ LdR G M 3 h2 Yt Nt Tt 1 a1 a2 a3 ∧ M h3 = some (4, eC 0 ft)
def RP (G : GG) (M : HM) (ma : Nat) (N : Nat → Nat) (U : Tb) (now price money : Int32) (F Lx : Row) : Prop := ∃ k0 fa lb th Z, XdR G M 5 ma k0 fa lb th price money F Lx ∧ MdR G M 6 k0 Z N U now
def OP (G : GG) (M : HM) (oa : Nat) : Prop := ∃ f, M oa = some (8, loE G f)
def NtB (N Nt : Nat → Nat) : Prop := Nt 0 ≤ N 0 ∧ Nt 1 ≤ N 1 ∧ Nt 2 ≤ N 2 ∧ Nt 3 ≤ N 3 ∧ Nt 4 = 0
def CB (c nt n4 : Nat) : Nat := 43 + 1169 * c + 2 * nt + 4 * n4
def SB (c nt n4 : Nat) : Nat := 301 + 11281 * c + 40 * nt + 2217 * n4
abbrev s4 (Nt : Nat → Nat) : Nat := Nt 0 + Nt 1 + Nt 2 + Nt 3
def LwS (G : GG) (M : HM) (xa ma oa c cells slots : Nat) : Prop := ∃ N T U now price money F Lx Nt, CP G M xa N T now price money Nt ∧ RP G M ma N U now price money F Lx ∧ OP G M oa ∧ St N T U money F Lx c ∧ NtB N Nt ∧ cells = CB c (s4 Nt) (N 4) ∧ slots = SB c (s4 Nt) (N 4)
def Sv (M M' : HM) (P : Nat → Prop) : Prop := ∀ q r e, P r → M q = some (r, e) → M' q = some (r, e)
theorem Sv.fr {M M' : HM} {t : Nat} {P : Nat → Prop} (h : Fr t M M') (hP : ¬ P t) : Sv M M' P := fun q r e hr hq => h q r e (fun z => hP (by rw [← z]; exact hr)) hq
theorem Sv.tr {M M1 M2 : HM} {P : Nat → Prop} (h1 : Sv M M1 P) (h2 : Sv M1 M2 P) : Sv M M2 P := fun q r e hr hq => h2 q r e hr (h1 q r e hr hq)
theorem Sv.rf {M : HM} {P : Nat → Prop} : Sv M M P := fun _ _ _ _ h => h
theorem Sv.up {M : HM} {a r : Nat} {e e0 : va_E} {P : Nat → Prop} (h : M a = some (r, e0)) (hP : ¬ P r) : Sv M (hu M a r e) P := Sv.fr (Fr.up h) hP
theorem Sv.nw {M : HM} {a r : Nat} {e : va_E} {P : Nat → Prop} (h : M a = none) : Sv M (hu M a r e) P := fun q r9 e9 _ hq => hu_n (hu_ne hq h (by simp)) hq
theorem Sv.f3 {M M' : HM} {P : Nat → Prop} {tx t t2 : Nat} (h : F3 tx t t2 M M') (h1 : ¬ P t) (h2 : ¬ P tx) (h3 : ¬ P t2) : Sv M M' P := fun q r e hr hq => h q r e (fun z => h1 (by rw [← z]; exact hr)) (fun z => h2 (by rw [← z]; exact hr)) (fun z => h3 (by rw [← z]; exact hr)) hq
abbrev cR (r : Nat) : Prop := r = 1 ∨ r = 2 ∨ r = 3 ∨ r = 4
abbrev rR (r : Nat) : Prop := r = 5 ∨ r = 6
theorem CP.sv {G : GG} {M M' : HM} {xa : Nat} {N : Nat → Nat} {T : Tb} {now price money : Int32} {Nt : Nat → Nat} (h : CP G M xa N T now price money Nt) (hs : Sv M M' cR) : CP G M' xa N T now price money Nt := by
  obtain ⟨h0, h2, h3, Y, Yt, Tt, a1, a2, a3, ft, c1, c2, c3, c4⟩ := h
  exact ⟨h0, h2, h3, Y, Yt, Tt, a1, a2, a3, ft, hs _ _ _ (Or.inl rfl) c1, c2.same (fun q e hq => hs _ _ _ (Or.inr (Or.inl rfl)) hq), c3.same (fun q e hq => hs _ _ _ (Or.inr (Or.inr (Or.inl rfl))) hq), hs _ _ _ (Or.inr (Or.inr (Or.inr rfl))) c4⟩
theorem RP.sv {G : GG} {M M' : HM} {ma : Nat} {N : Nat → Nat} {U : Tb} {now price money : Int32} {F Lx : Row} (h : RP G M ma N U now price money F Lx) (hs : Sv M M' rR) : RP G M' ma N U now price money F Lx := by
  obtain ⟨k0, fa, lb, th, Z, r1, r2⟩ := h
  exact ⟨k0, fa, lb, th, Z, r1.same (fun q e hq => hs _ _ _ (Or.inl rfl) hq), r2.same (fun q e hq => hs _ _ _ (Or.inr rfl) hq)⟩
theorem OP.sv {G : GG} {M M' : HM} {oa : Nat} (h : OP G M oa) (hs : Sv M M' (fun r => r = 8)) : OP G M' oa := by
  obtain ⟨f, h⟩ := h
  exact ⟨f, hs _ _ _ rfl h⟩
theorem RP.of {G : GG} {M M' : HM} {ma k0 fa lb : Nat} {N : Nat → Nat} {U : Tb} {now th price money : Int32} {F Lx : Row} (h : XP G M M' 5 ma k0 fa lb 6 7 N U now th price money F Lx) : RP G M' ma N U now price money F Lx := by
  obtain ⟨h1, ⟨Z', h2⟩, -⟩ := h
  exact ⟨k0, fa, lb, th, Z', h1, h2⟩
/-- what the walk of the law stands on -/
def LH (p : Program) (l : Launch) (s : State) (m : MethodId) (args : Array Value) (c : Code) (G : GG) (b L : Nat) (xs : Nat → Int32) : Prop := p.tables.exec = Jvm.exec ∧ c.code = cL_law ∧ c.maxLocals = 9 ∧ s.vm.findClass RL = some m.cls ∧ (∀ w ∈ AL, w.before args s = true) ∧ Ky s ∧ Kw G s ∧ Kx G s s.heap ∧ l.stackTraces = false ∧ va_X b L xs s s.heap ∧ b < s.heap.size ∧ ¬ G.2.2 0 ≤ b ∧ L ≤ 3584
section LA
variable {p : Program} {l : Launch} {e : Env} {R : Room} {s : State} {m : MethodId} {args : Array Value} {below : List Frame} {meth : Method} {c : Code} {H : Heap} {locs : List Loc} {cells slots : Nat} {Q : State → Prop}
variable {pc : Nat} {ls : Array Slot} {rest : List Value} {G : GG} {M : HM} {b L q : Nat} {xs : Nat → Int32}
/-- one int of the script is read -/
theorem s_arg {j : Nat} {k : Int} (C : LH p l s m args c G b L xs) (hM : Wd G M s H locs) (h0 : ls[0]? = some (.val (.ref b))) (h4 : ls[4]? = some (.val (.int (nI q)))) (hq : q + j < L) (hk : Int32.ofInt k = nI j) (d0 : decode cL_law pc = .ok (.aload_n 0, 1)) (d1 : decode cL_law (pc + 1) = .ok (.iload 4, 2)) (d2 : decode cL_law (pc + 3) = .ok (.iconst k, 1)) (d3 : decode cL_law (pc + 4) = .ok (.iadd, 1)) (d4 : decode cL_law (pc + 5) = .ok (.iaload, 1))
    (kk : W p l e R s m args below meth c H locs cells slots Q (F0 m (pc + 6) ls (.int (xs (q + j)) :: rest))) : W p l e R s m args below meth c H locs cells slots Q (F0 m pc ls rest) := by
  obtain ⟨hx, hb, hml, hown, hts, hY, hK, hX, hst, hS, hbl, hbA, hL⟩ := C
  refine lv_aload_n hx hb d0 rfl h0 ?_
  refine lv_iload hx hb d1 h4 ?_
  refine lv_iconst (v := nI j) hx hb d2 hk ?_
  refine lv_iadd hx hb d3 ?_
  rw [nI_add]
  refine va_sld hx hb hS hbl (A := gA G) hbA hM.2.1 (vp_in_nI hq (by omega)) d4 ?_
  rw [nI_clamp (by omega)]
  exact kk
theorem s_arg6 {j : Nat} {k : Int} (C : LH p l s m args c G b L xs) (hM : Wd G M s H locs) (h0 : ls[0]? = some (.val (.ref b))) (h4 : ls[4]? = some (.val (.int (nI q)))) (hq : q + j < L) (hk : (Int8.ofInt k).toInt32 = nI j) (d0 : decode cL_law pc = .ok (.aload_n 0, 1)) (d1 : decode cL_law (pc + 1) = .ok (.iload 4, 2)) (d2 : decode cL_law (pc + 3) = .ok (.bipush k, 2)) (d3 : decode cL_law (pc + 5) = .ok (.iadd, 1)) (d4 : decode cL_law (pc + 6) = .ok (.iaload, 1))
    (kk : W p l e R s m args below meth c H locs cells slots Q (F0 m (pc + 7) ls (.int (xs (q + j)) :: rest))) : W p l e R s m args below meth c H locs cells slots Q (F0 m pc ls rest) := by
  obtain ⟨hx, hb, hml, hown, hts, hY, hK, hX, hst, hS, hbl, hbA, hL⟩ := C
  refine lv_aload_n hx hb d0 rfl h0 ?_
  refine lv_iload hx hb d1 h4 ?_
  refine lv_bipush (v := nI j) hx hb d2 hk ?_
  refine lv_iadd hx hb d3 ?_
  rw [nI_add]
  refine va_sld hx hb hS hbl (A := gA G) hbA hM.2.1 (vp_in_nI hq (by omega)) d4 ?_
  rw [nI_clamp (by omega)]
  exact kk
/-- the two answers are held beside each other -/
theorem lw_cmp {xa ma oa k0 fa lb : Nat} {v k5 th price money : Int32} {F Lx : Row} {f : Nat → Int64} {off : Int} (C : LH p l s m args c G b L xs) (hR : 1 ≤ R.frames ∧ 20 ≤ R.locals) (hc : cells ≤ R.cells ∧ slots ≤ R.slots) (hM : Wd G M s H locs) (hl : lv_has ls 9 [(5, .int k5), (0, .ref b), (1, .ref xa), (2, .ref ma), (3, .ref oa), (4, .int (nI q))]) (hO : XdR G M 5 ma k0 fa lb th price money F Lx) (ho : M oa = some (8, loE G f)) (hth : th = k5) (hv : k5 = 0 → f 0 = v.toInt64)
    (d0 : decode cL_law pc = .ok (.istore 6, 2)) (d2 : decode cL_law (pc + 2) = .ok (.aload_n 2, 1)) (d3 : decode cL_law (pc + 3) = .ok (.invokevirtual 98, 3)) (d6 : decode cL_law (pc + 6) = .ok (.iload 5, 2)) (d8 : decode cL_law (pc + 8) = .ok (.if_icmp .eq 5, 3)) (d13 : decode cL_law (pc + 13) = .ok (.iload 5, 2)) (d15 : decode cL_law (pc + 15) = .ok (.ifCond .ne 15, 3)) (d18 : decode cL_law (pc + 18) = .ok (.aload_n 3, 1)) (d19 : decode cL_law (pc + 19) = .ok (.iconst 0, 1)) (d20 : decode cL_law (pc + 20) = .ok (.laload, 1)) (d21 : decode cL_law (pc + 21) = .ok (.iload 6, 2)) (d23 : decode cL_law (pc + 23) = .ok (.i2l, 1)) (d24 : decode cL_law (pc + 24) = .ok (.lcmp, 1)) (d25 : decode cL_law (pc + 25) = .ok (.ifCond .eq 5, 3)) (d30 : decode cL_law (pc + 30) = .ok (.goto off, 3)) (hoff : ((pc + 30 : Nat) : Int) + off = ((1853 : Nat) : Int))
    (kk : ∀ (H : Heap) (locs : List Loc) (ls : Array Slot), Wd G M s H locs → lv_has ls 9 [(0, .ref b), (1, .ref xa), (2, .ref ma), (3, .ref oa), (4, .int (nI q))] → W p l e R s m args below meth c H locs cells slots Q (F0 m 1853 ls [])) : W p l e R s m args below meth c H locs cells slots Q (F0 m pc ls [.int v]) := by
  have C0 := C
  obtain ⟨hx, hb, hml, hown, hts, hY, hK, hX, hst, hS, hbl, hbA, hL⟩ := C
  refine lv_istore (lv' := [(6, .int v), (5, .int k5), (0, .ref b), (1, .ref xa), (2, .ref ma), (3, .ref oa), (4, .int (nI q))]) hx hb d0 hl (by decide) rfl (fun ls hl => ?_)
  refine lv_aload_n hx hb d2 rfl (lv_at hl 4 rfl) ?_
  refine g_callVi (n9 := 0) (As := []) (rest := []) hx hb hml hl.1 hown hts hK hM (c_X8_thrown l G M 5 ma k0 fa lb th price money F Lx hO) wm_L_98 wi_X8_thrown wl_X8_thrown wn_X8 wc_X8_thrown (by decide +kernel) (hM.recv hK (ci := 9) rfl hO.1) ⟨hR.1, hR.2⟩ hc rfl (Nat.le_of_ble_eq_true rfl) rfl d3 (fun r M1 H locs hq hM => ?_)
  have hq1 := hq.1.symm
  have hq2 := hq.2.symm
  subst hq1 hq2
  refine lv_iload hx hb d6 (lv_at hl 1 rfl) ?_
  refine lv_icmp_eq (tgt := pc + 13) hx hb d8 (by omega) (fun c1 => ?_) (fun c1 => absurd hth c1)
  refine lv_iload hx hb d13 (lv_at hl 1 rfl) ?_
  refine lv_if_ne (tgt := pc + 30) hx hb d15 (by omega) (fun c2 => ?_) (fun c2 => ?_)
  · refine lv_goto (tgt := 1853) hx hb d30 hoff ?_
    exact kk _ _ _ hM (lv_sub hl [2, 3, 4, 5, 6] rfl)
  · refine lv_aload_n hx hb d18 rfl (lv_at hl 5 rfl) ?_
    refine lv_iconst (v := (0 : Int32)) hx hb d19 (by decide) ?_
    refine g_lald hx hb hK hM ho (i := (0 : Int32)) (vp_ix ⟨by decide, by decide⟩) d20 ?_
    refine lv_iload hx hb d21 (lv_at hl 0 rfl) ?_
    refine lv_i2l (v := v.toInt64) hx hb d23 rfl ?_
    rw [show f (0 : Int32).toNatClampNeg = v.toInt64 from hv c2]
    refine W.lcmp hx hb d24 ?_
    rw [cmp_s]
    refine lv_if_eq (tgt := pc + 30) hx hb d25 (by omega) (fun c3 => ?_) (fun c3 => absurd rfl c3)
    refine lv_goto (tgt := 1853) hx hb d30 hoff ?_
    exact kk _ _ _ hM (lv_sub hl [2, 3, 4, 5, 6] rfl)
end LA

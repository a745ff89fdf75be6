theorem out_ok {a b c : Int32} (h1 : b ≤ a) (h2 : a ≤ c) : t_X6_isOutside_0 a b c = 0 := by
  unfold t_X6_isOutside_0
  rw [if_neg (Int32.not_lt.mpr h1), if_pos h2]
theorem out_n {j n : Nat} (h : j ≤ n) (hn : n < 100) : t_X6_isOutside_0 (nI j) (0 : Int32) (nI n) = 0 := out_ok ((nI_leI (a := 0) (b := j) (by decide) (by omega)).mpr (Nat.zero_le _)) ((nI_leI (by omega) (by omega)).mpr h)
theorem ixR_nn {n i : Nat} (hn : n ≤ 600) (h : i < n) : ¬ ixR n (nI i) = none := by
  rw [ixR_of hn h]
  exact fun z => nomatch z
theorem ix_n {i : Nat} (h : i < 2 ^ 31) : ix (nI i) = i := nI_clamp h
theorem EX_0 {E0 : String} (h : EX 0 E0) : False := by
  rcases h with ⟨h, -⟩ | ⟨h, -⟩ | ⟨h, -⟩ <;> cases h
abbrev Yl (l : Launch) (y : MethodName) (ws : List Cond) (fr lo mc ms : Nat) (av : List Value) (G : GG) (M : HM) (P : Int64 → HM → Prop) : Prop := Met l y ws ({ frames := fr, cells := mc, slots := ms, locals := lo } : Room) (va_Pc av (gPx G M)) (va_Ql P (gB G) (gA G)) mc ms (gA G)
theorem Yl.go {l : Launch} {y : MethodName} {cc : ByteArray} {n fr lo mc ms : Nat} {ret : Option FieldType} {av : List Value} {G : GG} {M : HM} {P : Int64 → HM → Prop} (hy : plainName y.cls = true) (hav : (lg_sl av).length ≤ n)
    (h : ∀ (p : Program) (e : Env) (s : State) (m : MethodId) (below : List Frame) (meth : Method) (c : Code) (ls : Array Slot), p.tables.exec = Jvm.exec → c.code = cc → meth.sig.returnType = ret → c.maxLocals = n → s.vm.findClass y.cls = some m.cls → meth.locks = false → meth.name = y.name → (∀ w ∈ AL, w.before av.toArray s = true) → Kw G s → Kx G s s.heap → Wd G M s s.heap [] → lv_has ls n (lv_args 0 av) → W p l e ({ frames := fr, cells := mc, slots := ms, locals := lo } : Room) s m av.toArray below meth c s.heap [] 0 0 (MQ below (va_Ql P (gB G) (gA G)) av.toArray s mc ms (gA G)) (F0 m 0 ls [])) : Yl l y (.code y cc n ret :: AL) fr lo mc ms av G M P := by
  refine Met.ofW (cc := cc) (maxL := n) (ret := ret) hy rfl ?_
  intro p e s m args below meth c s₁ B hml hv
  obtain ⟨rfl, hK, hX, hM, hsz⟩ := hv
  have hts := atoms_spec (ws := .code y cc n ret :: AL) B.pre
  have hl := lv_entry av (n := n) hav
  rw [lg_entry_eq]
  exact h p e s m below meth c _ B.exec B.bytes B.returns hml (findClass_of_methodNamed B.named) B.notSynchronized (name_of_methodNamed B.named B.method).1 (fun w hw => hts w (List.mem_cons_of_mem _ hw)) hK hX ⟨hM, va_S.rf, hsz⟩ hl
def lD (d : Int64) (x : Int32) : Int64 := d * 31 + x.toInt64
def dgA (q : Nat → Int32) (d : Int64) : Nat → Int64
  | 0 => d
  | n + 1 => lD (dgA q d n) (q n)
def dgB (g : Nat → Int64 → Int64) (d : Int64) : Nat → Int64
  | 0 => d
  | n + 1 => g n (dgB g d n)
/-- what waits, of a field -/
def wtQ (now h w a r : Int32) (f : Row) : Int32 := (t_X2_uncut_0 (f 2) (f 5)) * ((t_X2_brings_0 (f 3) (f 8)) - (t_X2_brings_0 (fhP now w a r (ix h) f 3) (fhP now w a r (ix h) f 8)))
def dgF (N : Nat → Nat) (T : Tb) (tr now price money : Int32) (i : Nat) (d : Int64) : Int64 := lD (lD (dgA (fun j => qv_X6_ofField N T tr now price money (nI i) (nI j)) d 12) (rdQ now 25 40 (T 0 i))) (wtQ now 24 30 20 0 (T 0 i))
def dgC (N : Nat → Nat) (T : Tb) (tr tr2 now price money : Int32) (i : Nat) (d : Int64) : Int64 := lD (dgA (fun j => qv_X6_ofCombine N T tr now price money (nI i) (nI j)) d 8) (nfP N T tr2 now price money (nI i) 12 30 40 (N 0)).1
def dgT (N : Nat → Nat) (T : Tb) (tr now price money : Int32) (i : Nat) (d : Int64) : Int64 := dgA (fun j => qv_X6_ofTruck N T tr now price money (nI i) (nI j)) d 8
def dgK (N : Nat → Nat) (T : Tb) (tr now price money : Int32) (i : Nat) (d : Int64) : Int64 := dgA (fun j => qv_X6_ofTicket N T tr now price money (nI i) (nI j)) d 7
def dgO (N : Nat → Nat) (T : Tb) (tr now price money : Int32) (i : Nat) (d : Int64) : Int64 := lD (lD d (qv_X6_owed N T tr now price money (nI i) 0)) (qv_X6_owed N T tr now price money (nI i) 1)
def dg1 (N : Nat → Nat) (T : Tb) (tr now price money : Int32) : Int64 := dgA (fun j => qv_X6_many N T tr now price money (nI j)) 7812 13
def dg2 (N : Nat → Nat) (T : Tb) (tr now price money : Int32) : Int64 := dgB (dgF N T tr now price money) (dg1 N T tr now price money) (N 0)
def dg3 (N : Nat → Nat) (T : Tb) (tr tr2 now price money : Int32) : Int64 := dgB (dgC N T tr tr2 now price money) (dg2 N T tr now price money) (N 1)
def dg4 (N : Nat → Nat) (T : Tb) (tr tr2 now price money : Int32) : Int64 := dgB (dgT N T tr now price money) (dg3 N T tr tr2 now price money) (N 2)
def dg5 (N : Nat → Nat) (T : Tb) (tr tr2 now price money : Int32) : Int64 := dgB (dgK N T tr now price money) (dg4 N T tr tr2 now price money) (N 4)
def dgQ (N : Nat → Nat) (T : Tb) (tr tr2 now price money : Int32) : Int64 := dgB (dgO N T tr now price money) (dg5 N T tr tr2 now price money) 4
/-- the trial's counts behind so many combines -/
def ntC (N Nt : Nat → Nat) (T : Tb) : Nat → Nat → Nat
  | 0 => Nt
  | c + 1 => ntP N (ntC N Nt T c) T (N 0)
theorem ntC_b {N Nt : Nat → Nat} {T : Tb} {k : Nat} (hk : k ≠ 4) (h : Nt k ≤ N k) : ∀ c, Nt k ≤ ntC N Nt T c k ∧ ntC N Nt T c k ≤ N k
  | 0 => ⟨Nat.le_refl _, h⟩
  | c + 1 => ⟨Nat.le_trans (ntC_b hk h c).1 (ntP_b hk (ntC_b hk h c).2 _).1, (ntP_b hk (ntC_b hk h c).2 _).2⟩
theorem ntC_4 {N Nt : Nat → Nat} {T : Tb} (h : Nt 4 = 0) : ∀ c, ntC N Nt T c 4 = 0
  | 0 => h
  | c + 1 => ntP_4 (ntC_4 h c) _
theorem ntC_m {N Nt : Nat → Nat} {T : Tb} {k i j : Nat} (hk : k ≠ 4) (h : Nt k ≤ N k) (hij : i ≤ j) : ntC N Nt T i k ≤ ntC N Nt T j k := by
  induction hij with
  | refl => exact Nat.le_refl _
  | @step j _ ih => exact Nat.le_trans ih (ntP_b hk (ntC_b hk h j).2 _).1
/-- the class's world, in which the trials may change -/
def DW (G : GG) (M0 M : HM) (xa rx h2 h3 t h0 : Nat) (Y : LY) (N : Nat → Nat) (T : Tb) (tr now price money : Int32) (r3 t2 : Nat) (Nt : Nat → Nat) (tr2 : Int32) : Prop := M xa = some (rx, .inr (7, [.ref h0, .ref h2, .ref h3])) ∧ LdR G M t h0 Y N T tr now price money ∧ (∃ f, M h3 = some (r3, eC 0 f)) ∧ (∃ Yt Tt nowt pricet moneyt, LdR G M t2 h2 Yt Nt Tt tr2 nowt pricet moneyt) ∧ ∀ q r e, r ≠ t2 → r ≠ r3 → M0 q = some (r, e) → M q = some (r, e)
theorem DW.h3 {G : GG} {M0 M M' : HM} {xa rx h2 h3 t h0 : Nat} {Y : LY} {N : Nat → Nat} {T : Tb} {tr now price money : Int32} {r3 t2 : Nat} {Nt : Nat → Nat} {tr2 : Int32} (h : DW G M0 M xa rx h2 h3 t h0 Y N T tr now price money r3 t2 Nt tr2) (d1 : rx ≠ r3) (d2 : t ≠ r3) (d3 : t2 ≠ r3) (hM : ∃ f, M' = hu M h3 r3 (eC 0 f)) : DW G M0 M' xa rx h2 h3 t h0 Y N T tr now price money r3 t2 Nt tr2 := by
  obtain ⟨g1, g2, ⟨f0, g3⟩, ⟨Yt, Tt, a, b, c, g4⟩, g5⟩ := h
  obtain ⟨f, rfl⟩ := hM
  have hF : Fr r3 M (hu M h3 r3 (eC 0 f)) := Fr.up g3
  exact ⟨hF _ _ _ d1 g1, g2.frame d2 hF, ⟨f, hu_s⟩, ⟨Yt, Tt, a, b, c, g4.frame d3 hF⟩, fun q r e z1 z2 hq => hF _ _ _ z2 (g5 q r e z1 z2 hq)⟩
theorem DW.trial {G : GG} {M0 M M' : HM} {xa rx h2 h3 t h0 : Nat} {Y : LY} {N : Nat → Nat} {T : Tb} {tr now price money : Int32} {r3 t2 : Nat} {Nt Nt' : Nat → Nat} {tr2 : Int32} (h : DW G M0 M xa rx h2 h3 t h0 Y N T tr now price money r3 t2 Nt tr2) (d1 : rx ≠ t2) (d2 : t ≠ t2) (d3 : r3 ≠ t2) (hM : ∃ Y' T' now' price' money', LdR G M' t2 h2 Y' Nt' T' tr2 now' price' money' ∧ Fr t2 M M') : DW G M0 M' xa rx h2 h3 t h0 Y N T tr now price money r3 t2 Nt' tr2 := by
  obtain ⟨g1, g2, ⟨f0, g3⟩, -, g5⟩ := h
  obtain ⟨Y', T', a, b, c, g4, hF⟩ := hM
  exact ⟨hF _ _ _ d1 g1, g2.frame d2 hF, ⟨f0, hF _ _ _ d3 g3⟩, ⟨Y', T', a, b, c, g4⟩, fun q r e z1 z2 hq => hF _ _ _ z1 (g5 q r e z1 z2 hq)⟩

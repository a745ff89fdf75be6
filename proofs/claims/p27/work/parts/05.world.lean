/-! MY OWN LAYER: a world is a map from addresses to a region's number and a cell; one contract shape for all methods -/
abbrev HM : Type := Nat → Option (Nat × va_E)
abbrev GG : Type := va_G × (Nat → ClassId) × (Nat → Nat)
def hu (M : HM) (a r : Nat) (e : va_E) : HM := fun q => if q = a then some (r, e) else M q
theorem hu_s {M : HM} {a r : Nat} {e : va_E} : hu M a r e a = some (r, e) := if_pos rfl
theorem hu_n {M : HM} {a b r : Nat} {e : va_E} {o : Option (Nat × va_E)} (h : b ≠ a) (ho : M b = o) : hu M a r e b = o := (if_neg h).trans ho
theorem hu_u (M : HM) (a r r2 : Nat) (e e2 : va_E) : hu (hu M a r e) a r2 e2 = hu M a r2 e2 := by
  funext q
  by_cases h : q = a <;> simp [hu, h]
theorem hu_c (M : HM) {a b : Nat} (r r2 : Nat) (e e2 : va_E) (h : a ≠ b) : hu (hu M a r e) b r2 e2 = hu (hu M b r2 e2) a r e := by
  funext q
  by_cases h1 : q = a
  · subst h1; simp [hu, h]
  · by_cases h2 : q = b <;> simp [hu, h1, h2, Ne.symm h]
theorem hu_i {M : HM} {a r : Nat} {e : va_E} (h : M a = some (r, e)) : hu M a r e = M := by
  funext q
  by_cases h1 : q = a
  · subst h1; simp [hu, h]
  · simp [hu, h1]
/-- an address is not another, by what the map says of them -/
theorem hu_ne {M : HM} {a b : Nat} {x y : Option (Nat × va_E)} (ha : M a = x) (hb : M b = y) (h : x ≠ y) : a ≠ b := fun e => h (by rw [← ha, ← hb, e])
def hm (G : GG) (M : HM) (H : Heap) : Prop := ∃ ws : va_W, va_P G.1 vwCl ws H ∧ va_D (fun q => G.2.2 0 ≤ q) ws ∧ ∀ (a r : Nat) (e : va_E), M a = some (r, e) → ∃ k : Nat, ws[k]? = some (a, e)
def Wd (G : GG) (M : HM) (s : State) (H : Heap) (locs : List Loc) : Prop := hm G M H ∧ va_S (fun q => G.2.2 0 ≤ q) s.heap H locs ∧ G.2.2 0 ≤ s.heap.size
theorem hm.set {G : GG} {M : HM} {ws : va_W} {a r k : Nat} {e0 e : va_E} {H1 : Heap} (hw : ∀ (a r : Nat) (e : va_E), M a = some (r, e) → ∃ k : Nat, ws[k]? = some (a, e)) (hk : ws[k]? = some (a, e0)) (hP : va_P G.1 vwCl (ws.set k (a, e)) H1) (hD : va_D (fun q => G.2.2 0 ≤ q) (ws.set k (a, e))) : hm G (hu M a r e) H1 := by
  have hl := (List.getElem?_eq_some_iff.mp hk).1
  refine ⟨_, hP, hD, fun b r2 e2 hb => ?_⟩
  by_cases h : b = a
  · subst h
    rw [hu_s] at hb
    cases hb
    exact ⟨k, List.getElem?_set_self hl⟩
  · rw [show hu M a r e b = M b from if_neg h] at hb
    obtain ⟨j, hj⟩ := hw b r2 e2 hb
    have hne : k ≠ j := fun z => by
      subst z
      rw [hk] at hj
      cases hj
      exact h rfl
    exact ⟨j, by rw [List.getElem?_set_ne hne]; exact hj⟩
theorem hm.push {G : GG} {M : HM} {ws : va_W} {a r : Nat} {e : va_E} {H1 : Heap} (hw : ∀ (a r : Nat) (e : va_E), M a = some (r, e) → ∃ k : Nat, ws[k]? = some (a, e)) (hP : va_P G.1 vwCl (ws ++ [(a, e)]) H1) (hD : va_D (fun q => G.2.2 0 ≤ q) (ws ++ [(a, e)])) : M a = none ∧ hm G (hu M a r e) H1 := by
  have hlast : (ws ++ [(a, e)])[ws.length]? = some (a, e) := by simp
  refine ⟨?_, _, hP, hD, fun b r2 e2 hb => ?_⟩
  · cases hm0 : M a with
    | none => rfl
    | some q =>
      obtain ⟨j, hj⟩ := hw a q.1 q.2 hm0
      have hjl := (List.getElem?_eq_some_iff.mp hj).1
      have := hD.1 j ws.length (a, q.2) (a, e) (by rw [List.getElem?_append_left hjl]; exact hj) hlast rfl
      omega
  · by_cases h : b = a
    · subst h
      rw [hu_s] at hb
      cases hb
      exact ⟨ws.length, hlast⟩
    · rw [show hu M a r e b = M b from if_neg h] at hb
      obtain ⟨j, hj⟩ := hw b r2 e2 hb
      exact ⟨j, by rw [List.getElem?_append_left (List.getElem?_eq_some_iff.mp hj).1]; exact hj⟩
/-- less is known -/
theorem hm.less {G : GG} {M M2 : HM} {H : Heap} (h : hm G M H) (hs : ∀ a r e, M2 a = some (r, e) → M a = some (r, e)) : hm G M2 H := by
  obtain ⟨ws, h1, h2, h3⟩ := h
  exact ⟨ws, h1, h2, fun a r e q => h3 a r e (hs a r e q)⟩
theorem Wd.eq {G : GG} {M M2 : HM} {s : State} {H : Heap} {locs : List Loc} (h : Wd G M s H locs) (e : M = M2) : Wd G M2 s H locs := e ▸ h
theorem Wd.hA {G : GG} {M : HM} {s : State} {H : Heap} {locs : List Loc} (h : Wd G M s H locs) : ∀ q, s.heap.size ≤ q → G.2.2 0 ≤ q := fun _ hq => Nat.le_trans h.2.2 hq
/-! what holds of the tables and of the statics, at every state -/
def va_AOx (ty : FieldType) (U : State) : Prop := va_Nw (.arrayOver ty) U
abbrev tyG (G : GG) : List (ClassId × FieldType) := [(G.2.1 0, .int), (G.2.1 1, .array .int), (G.2.1 2, .object "java/lang/Object")]
abbrev mLsize : MethodName := ⟨"java/util/List", "size", "()I"⟩
abbrev mLget : MethodName := ⟨"java/util/List", "get", "(I)Ljava/lang/Object;"⟩
abbrev mLadd : MethodName := ⟨"java/util/List", "add", "(Ljava/lang/Object;)Z"⟩
def Kb (U : State) : Prop := va_Nw (.methodLinkNest RX0 52 yX6_towards RX6) U ∧ va_Nw (.methodLinkNest RX5 42 yX6_towards RX6) U ∧ va_Nw (.methodLinkNest RX7 50 yL_cell RL) U ∧ va_Nw (.methodLinkNest RX7 56 yL_below RL) U
def Kc (_ : State) : Prop := True
def kdL : List String := [RX0, RX1, RX2, RX4, RX5, "[I"]
def Kd (U : State) : Prop := va_AO "java/lang/Object" U ∧ (∀ C ∈ kdL, va_Nw (.castable C "java/lang/Object") U) ∧ va_AOx (.array .int) U
def Ke (G : GG) (U : State) (H : Heap) : Prop := va_Z RJx4a65c "DEFAULTCAPACITY_EMPTY_ELEMENTDATA" "[Ljava/lang/Object;" (.ref (G.2.2 1)) (fun q => G.2.2 0 ≤ q) U H ∧ (∃ fv, va_T (.object "java/lang/Object") (G.2.2 1) 0 fv (fun q => G.2.2 0 ≤ q) U H) ∧ va_Mi "[Ljava/lang/Object;" (G.2.2 2) U ∧ va_Dc U
def Kw (G : GG) (U : State) : Prop := va_K G.1 vwCl (tyG G) U ∧ Kb U ∧ Kc U ∧ Kd U ∧ Ke G U U.heap
theorem Kw.at {G : GG} {s U : State} (h : Kw G s) (hW : s.WarmedH U.vm) (hq : ∀ a : Nat, a < s.heap.size → ¬ G.2.2 0 ≤ a → U.heap[a]? = s.heap[a]?) : Kw G U := by
  obtain ⟨h1, ⟨b1, b2, b3, b4⟩, -, ⟨d1, d2, d3⟩, e1, ⟨fv, e2⟩, e3, e4⟩ := h
  have hvm := hW.alike
  exact ⟨va_K.moved hvm h1, ⟨va_Nw.warmM hW b1, va_Nw.warmM hW b2, va_Nw.warmM hW b3, va_Nw.warmM hW b4⟩, trivial, ⟨va_AO.moved hvm d1, fun C hC => va_Nw.warmC hW (d2 C hC), over_moved hvm d3⟩, va_Z.kept (va_Z.moved hvm e1) hq, ⟨fv, va_T.kept (va_T.moved hvm e2) hq⟩, va_Mi.moved hvm e3, va_Dc.moved hvm e4⟩
/-! contracts: from any world M; the answer and the world behind it by P -/
abbrev gP (G : GG) (M : HM) : State → Prop := fun U => Kw G U ∧ hm G M U.heap ∧ G.2.2 0 ≤ U.heap.size
abbrev gB (G : GG) (M : HM) (t : State) : Prop := hm G M t.heap
abbrev gA (G : GG) : Nat → Prop := fun q => G.2.2 0 ≤ q
abbrev Mi (l : Launch) (y : MethodName) (ws : List Cond) (fr lo mc ms : Nat) (av : List Value) (G : GG) (M : HM) (P : Int32 → HM → Prop) : Prop := Met l y ws ({ frames := fr, cells := mc, slots := ms, locals := lo } : Room) (va_Pc av (gP G M)) (va_Qi P (gB G) (gA G)) mc ms (gA G)
abbrev Ml (l : Launch) (y : MethodName) (ws : List Cond) (fr lo mc ms : Nat) (av : List Value) (G : GG) (M : HM) (P : Int64 → HM → Prop) : Prop := Met l y ws ({ frames := fr, cells := mc, slots := ms, locals := lo } : Room) (va_Pc av (gP G M)) (va_Ql P (gB G) (gA G)) mc ms (gA G)
abbrev Mv (l : Launch) (y : MethodName) (ws : List Cond) (fr lo mc ms : Nat) (av : List Value) (G : GG) (M : HM) (P : HM → Prop) : Prop := Met l y ws ({ frames := fr, cells := mc, slots := ms, locals := lo } : Room) (va_Pc av (gP G M)) (va_Qv P (gB G) (gA G)) mc ms (gA G)
abbrev Mq (l : Launch) (y : MethodName) (ws : List Cond) (fr lo mc ms : Nat) (av : List Value) (G : GG) (M : HM) (P : Option Nat → HM → Prop) : Prop := Met l y ws ({ frames := fr, cells := mc, slots := ms, locals := lo } : Room) (va_Pc av (gP G M)) (va_Qq P (gB G) (gA G)) mc ms (gA G)
theorem gP.blind {G : GG} {M : HM} {av : List Value} : FrameBlind (va_Pc av (gP G M)) := fun a U g mk h => ⟨h.1, h.2.1.at (State.WarmedH.refl U) (fun _ _ _ => rfl), h.2.2⟩
section GW
variable {p : Program} {l : Launch} {e : Env} {R : Room} {s : State} {m : MethodId} {args : Array Value} {below : List Frame} {meth : Method} {c : Code} {H : Heap} {locs : List Loc} {cells slots : Nat} {Q : State → Prop}
variable {cc : ByteArray} {pc : Nat} {ls : Array Slot} {rest : List Value} {a : Nat} {G : GG} {M : HM} {cl : List vw_C}
theorem Wd.kw {U : State} (hM : Wd G M s H locs) (hK : Kw G s) (hU : U.heap = H) (hW : s.WarmedH U.vm) : Kw G U := hK.at hW (fun q h1 h2 => by rw [hU]; exact hM.2.1.2.1 q h1 h2)
theorem Wd.pre {U : State} {av : List Value} (hM : Wd G M s H locs) (hK : Kw G s) (hU : U.heap = H) (hW : s.WarmedH U.vm) : va_Pc av (gP G M) av.toArray U := ⟨rfl, hM.kw hK hU hW, by rw [hU]; exact hM.1, by rw [hU]; exact Nat.le_trans hM.2.2 hM.2.1.1⟩
theorem Wd.lt {r : Nat} {en : va_E} (hM : Wd G M s H locs) (ha : M a = some (r, en)) : a < H.size := by
  obtain ⟨ws, hP, hD, hw⟩ := hM.1
  obtain ⟨k, hk⟩ := hw _ _ _ ha
  exact (hP k _ hk).lt
theorem Wd.recv {r ci : Nat} {fs : List Value} {q : vw_C} (hM : Wd G M s H locs) (hK : Kw G s) (hc : vwCl[ci]? = some q) (ha : M a = some (r, .inr (ci, fs))) : ∃ cell : Cell, H[a]? = some cell ∧ cell.vm.isStatics = false ∧ s.vm.findClass q.1 = some cell.cls := by
  obtain ⟨ws, hP, hD, hw⟩ := hM.1
  obtain ⟨k, hk⟩ := hw _ _ _ ha
  exact va_recv hK.1 hP hc hk
theorem g_get (hx : p.tables.exec = Jvm.exec) (hb : c.code = cc) {own ref C : String} {T : u_T} {N ci index : Nat} (hts : ∀ w ∈ AL, w.before args s = true) (hown : s.vm.findClass own = some m.cls) (hK : Kw G s) (hM : Wd G M s H locs) (hin : ∀ w ∈ u_ws C T N, w ∈ AL) (hc : vwCl[ci]? = some (C, T, N)) (k : Nat) (hk : k < N) (hlink : Cond.fieldLink own index ref (T k).2.1 (T k).2.2.1 ∈ AL) (hsame : ∀ x, s.fieldFound? (T k).1 (T k).2.1 (T k).2.2.1 = some x → s.fieldFound? ref (T k).2.1 (T k).2.2.1 = some x) {r : Nat} {fs : List Value} {v : Value} (ha : M a = some (r, .inr (ci, fs))) (hv : fs[k]? = some v) (hdg : decode cc pc = .ok (.getfield index, 3))
    (kk : W p l e R s m args below meth c H locs cells slots Q (F0 m (pc + 3) ls (v :: rest))) : W p l e R s m args below meth c H locs cells slots Q (F0 m pc ls (.ref a :: rest)) := by
  obtain ⟨ws, hP, hD, hw⟩ := hM.1
  obtain ⟨k0, hk0⟩ := hw _ _ _ ha
  exact va_get (D := G.1) hx hb hts hin hown hK.1 hP k0 hk0 hc k hk (hts _ hlink) hsame hv hdg kk
theorem g_put (hx : p.tables.exec = Jvm.exec) (hb : c.code = cc) {own ref C : String} {T : u_T} {N ci index : Nat} (hts : ∀ w ∈ AL, w.before args s = true) (hown : s.vm.findClass own = some m.cls) (hK : Kw G s) (hM : Wd G M s H locs) (hin : ∀ w ∈ u_ws C T N, w ∈ AL) (hc : vwCl[ci]? = some (C, T, N)) (k : Nat) (hk : k < N) (hlink : Cond.fieldLink own index ref (T k).2.1 (T k).2.2.1 ∈ AL) (hsame : ∀ x, s.fieldFound? (T k).1 (T k).2.1 (T k).2.2.1 = some x → s.fieldFound? ref (T k).2.1 (T k).2.2.1 = some x) (ty0 : Nat → FieldType) (hty : ∀ k, k < N → parseFieldDescriptor (T k).2.2.1 = some (ty0 k)) (hnm : ∀ a, a < N → ∀ b, b < N → a ≠ b → (T a).2.1 ≠ (T b).2.1) (hfin : (T k).2.2.2 = false) {ty : FieldType} {v : Value} (hd : parseFieldDescriptor (T k).2.2.1 = some ty) (hn : narrow ty v = v) (hfit : fits ty v = true) {r : Nat} {fs : List Value} (ha : M a = some (r, .inr (ci, fs))) (hl : k < fs.length) (hdg : decode cc pc = .ok (.putfield index, 3))
    (kk : ∀ (H : Heap) (locs : List Loc), Wd G (hu M a r (.inr (ci, fs.set k v))) s H locs → W p l e R s m args below meth c H locs cells slots Q (F0 m (pc + 3) ls rest)) : W p l e R s m args below meth c H locs cells slots Q (F0 m pc ls (v :: .ref a :: rest)) := by
  obtain ⟨ws, hP, hD, hw⟩ := hM.1
  obtain ⟨k0, hk0⟩ := hw _ _ _ ha
  exact va_put (D := G.1) hx hb hts hin ty0 hty hnm hown hK.1 hP hD hM.2.1 k0 hk0 hc k hk (hts _ hlink) hsame hfin hd hn hfit hl hdg (fun H1 locs1 hP1 hD1 hS1 => kk H1 locs1 ⟨hm.set hw hk0 hP1 hD1, hS1, hM.2.2⟩)
theorem g_putF (hx : p.tables.exec = Jvm.exec) (hb : c.code = cc) {own ref C : String} {T : u_T} {N ci index : Nat} (hts : ∀ w ∈ AL, w.before args s = true) (hown : s.vm.findClass own = some m.cls) (hK : Kw G s) (hM : Wd G M s H locs) (hin : ∀ w ∈ u_ws C T N, w ∈ AL) (hc : vwCl[ci]? = some (C, T, N)) (k : Nat) (hk : k < N) (hlink : Cond.fieldLink own index ref (T k).2.1 (T k).2.2.1 ∈ AL) (hsame : ∀ x, s.fieldFound? (T k).1 (T k).2.1 (T k).2.2.1 = some x → s.fieldFound? ref (T k).2.1 (T k).2.2.1 = some x) (ty0 : Nat → FieldType) (hty : ∀ k, k < N → parseFieldDescriptor (T k).2.2.1 = some (ty0 k)) (hnm : ∀ a, a < N → ∀ b, b < N → a ≠ b → (T a).2.1 ≠ (T b).2.1) (hfin : (T k).2.2.2 = true) (hin2 : meth.name = "<init>") (hdecl : (T k).1 = own) {ty : FieldType} {v : Value} (hd : parseFieldDescriptor (T k).2.2.1 = some ty) (hn : narrow ty v = v) (hfit : fits ty v = true) {r : Nat} {fs : List Value} (ha : M a = some (r, .inr (ci, fs))) (hl : k < fs.length) (hdg : decode cc pc = .ok (.putfield index, 3))
    (kk : ∀ (H : Heap) (locs : List Loc), Wd G (hu M a r (.inr (ci, fs.set k v))) s H locs → W p l e R s m args below meth c H locs cells slots Q (F0 m (pc + 3) ls rest)) : W p l e R s m args below meth c H locs cells slots Q (F0 m pc ls (v :: .ref a :: rest)) := by
  obtain ⟨ws, hP, hD, hw⟩ := hM.1
  obtain ⟨k0, hk0⟩ := hw _ _ _ ha
  exact va_putF (D := G.1) hx hb hts hin ty0 hty hnm hown hK.1 hP hD hM.2.1 k0 hk0 hc k hk (hts _ hlink) hsame hfin hin2 hdecl hd hn hfit hl hdg (fun H1 locs1 hP1 hD1 hS1 => kk H1 locs1 ⟨hm.set hw hk0 hP1 hD1, hS1, hM.2.2⟩)
theorem g_iald (hx : p.tables.exec = Jvm.exec) (hb : c.code = cc) (hK : Kw G s) (hM : Wd G M s H locs) {n r : Nat} {f : Nat → Int32} (ha : M a = some (r, .inl (G.2.1 0, n, .inl f))) {i : Int32} (hin : vp_in i n) (hdg : decode cc pc = .ok (.iaload, 1))
    (kk : W p l e R s m args below meth c H locs cells slots Q (F0 m (pc + 1) ls (.int (f i.toNatClampNeg) :: rest))) : W p l e R s m args below meth c H locs cells slots Q (F0 m pc ls (.int i :: .ref a :: rest)) := by
  obtain ⟨ws, hP, hD, hw⟩ := hM.1
  obtain ⟨k0, hk0⟩ := hw _ _ _ ha
  exact va_iald (D := G.1) hx hb hK.1 hP k0 0 hk0 rfl hin hdg kk
theorem g_iast (hx : p.tables.exec = Jvm.exec) (hb : c.code = cc) (hK : Kw G s) (hM : Wd G M s H locs) {n r : Nat} {f : Nat → Int32} (ha : M a = some (r, .inl (G.2.1 0, n, .inl f))) {i : Int32} {x : Int32} (hin : vp_in i n) (hdg : decode cc pc = .ok (.iastore, 1))
    (kk : ∀ (H : Heap) (locs : List Loc), Wd G (hu M a r (.inl (G.2.1 0, n, .inl (upd f i.toNatClampNeg x)))) s H locs → W p l e R s m args below meth c H locs cells slots Q (F0 m (pc + 1) ls rest)) : W p l e R s m args below meth c H locs cells slots Q (F0 m pc ls (.int x :: .int i :: .ref a :: rest)) := by
  obtain ⟨ws, hP, hD, hw⟩ := hM.1
  obtain ⟨k0, hk0⟩ := hw _ _ _ ha
  exact va_iast (D := G.1) hx hb hK.1 hP hD hM.2.1 k0 0 hk0 rfl hin hdg (fun H1 locs1 hP1 hD1 hS1 => kk H1 locs1 ⟨hm.set hw hk0 hP1 hD1, hS1, hM.2.2⟩)
theorem g_alen (hx : p.tables.exec = Jvm.exec) (hb : c.code = cc) (hK : Kw G s) (hM : Wd G M s H locs) {r j : Nat} {x : vp_A} {ty : FieldType} (ha : M a = some (r, .inl (G.2.1 j, x))) (hj : (tyG G)[j]? = some (G.2.1 j, ty)) {v : Int32} (hv : Int32.ofNat x.1 = v) (hdg : decode cc pc = .ok (.arraylength, 1))
    (kk : W p l e R s m args below meth c H locs cells slots Q (F0 m (pc + 1) ls (.int v :: rest))) : W p l e R s m args below meth c H locs cells slots Q (F0 m pc ls (.ref a :: rest)) := by
  obtain ⟨ws, hP, hD, hw⟩ := hM.1
  obtain ⟨k0, hk0⟩ := hw _ _ _ ha
  exact va_alen (D := G.1) hx hb hK.1 hP k0 j hk0 hj hv hdg kk
theorem g_aald (hx : p.tables.exec = Jvm.exec) (hb : c.code = cc) (hK : Kw G s) (hM : Wd G M s H locs) {n r j : Nat} {f : Nat → Option Nat} (ha : M a = some (r, .inl (G.2.1 j, n, .inr (.inr (.inr (.inr f)))))) {ty : FieldType} (hj : (tyG G)[j]? = some (G.2.1 j, ty)) (href : ty.isReference = true) {i : Int32} (hin : vp_in i n) (hdg : decode cc pc = .ok (.aaload, 1))
    (kk : W p l e R s m args below meth c H locs cells slots Q (F0 m (pc + 1) ls (va_rf (f i.toNatClampNeg) :: rest))) : W p l e R s m args below meth c H locs cells slots Q (F0 m pc ls (.int i :: .ref a :: rest)) := by
  obtain ⟨ws, hP, hD, hw⟩ := hM.1
  obtain ⟨k0, hk0⟩ := hw _ _ _ ha
  have hlt : i.toNatClampNeg < n := Nat.not_le.mp fun q => hin (Or.inr q)
  exact W.aald (v := va_rf (f i.toNatClampNeg)) (ty := ty) hx hb (hP k0 _ hk0) ((hK.1.2 j _ hj).1 n (fun j => va_rf (f j))) href (fun q => by cases q) (by show ¬ (i < 0 ∨ (arrV _ _ _).slots.size ≤ _); rw [arrV_size]; exact hin) (by show (arrV _ _ _).slots[_]? = _; rw [arrV_read _ _ hlt]) rfl rfl hdg kk
theorem g_aast (hx : p.tables.exec = Jvm.exec) (hb : c.code = cc) (hK : Kw G s) (hM : Wd G M s H locs) {n r v : Nat} {f : Nat → Option Nat} (ha : M a = some (r, .inl (G.2.1 2, n, .inr (.inr (.inr (.inr f)))))) (hv : va_Any "java/lang/Object" s H v) {i : Int32} (hin : vp_in i n) (hdg : decode cc pc = .ok (.aastore, 1))
    (kk : ∀ (H : Heap) (locs : List Loc), Wd G (hu M a r (.inl (G.2.1 2, n, .inr (.inr (.inr (.inr (va_up f i.toNatClampNeg (some v)))))))) s H locs → W p l e R s m args below meth c H locs cells slots Q (F0 m (pc + 1) ls rest)) : W p l e R s m args below meth c H locs cells slots Q (F0 m pc ls (.ref v :: .int i :: .ref a :: rest)) := by
  obtain ⟨ws, hP, hD, hw⟩ := hM.1
  obtain ⟨k0, hk0⟩ := hw _ _ _ ha
  exact va_astqM (D := G.1) hx hb hK.1 hP hD hM.2.1 k0 2 hk0 rfl hv hin hdg (fun H1 locs1 hP1 hD1 hS1 => kk H1 locs1 ⟨hm.set hw hk0 hP1 hD1, hS1, hM.2.2⟩)
theorem g_new (hx : p.tables.exec = Jvm.exec) (hb : c.code = cc) {own C : String} {T : u_T} {N ci index : Nat} (hts : ∀ w ∈ AL, w.before args s = true) (hown : s.vm.findClass own = some m.cls) (hK : Kw G s) (hM : Wd G M s H locs) (hin : ∀ w ∈ u_ws C T N, w ∈ AL) (hc : vwCl[ci]? = some (C, T, N)) (ty0 : Nat → FieldType) (hty : ∀ k, k < N → parseFieldDescriptor (T k).2.2.1 = some (ty0 k)) (hcl : Cond.classLink own index C ∈ AL) (hinst : Cond.instantiable C N ∈ AL) (hini : Cond.initialized C ∈ AL) {fs : List Value} (hfs : ∀ j, j < N → defaultValue (ty0 j) = vp_V fs j) (r : Nat) (hcells : cells + 1 ≤ R.cells) (hslots : slots + N ≤ R.slots) (hdg : decode cc pc = .ok (.new index, 3))
    (kk : ∀ (q : Nat) (H : Heap), M q = none → Wd G (hu M q r (.inr (ci, fs))) s H locs → W p l e R s m args below meth c H locs (cells + 1) (slots + N) Q (F0 m (pc + 3) ls (.ref q :: rest))) : W p l e R s m args below meth c H locs cells slots Q (F0 m pc ls rest) := by
  obtain ⟨ws, hP, hD, hw⟩ := hM.1
  exact va_new (D := G.1) hx hb hts hin ty0 hty hown (hts _ hcl) (hts _ hinst) (hts _ hini) hK.1 hP hD hM.2.1 hM.hA hc hfs hcells hslots hdg (fun q H1 hP1 hD1 hS1 => by
    obtain ⟨z1, z2⟩ := hm.push (r := r) hw hP1 hD1
    exact kk q H1 z1 ⟨z2, hS1, hM.2.2⟩)
theorem tyG_at {j : Nat} {ty : FieldType} {cA : ClassId} (hK : Kw G s) (hj : (tyG G)[j]? = some (G.2.1 j, ty)) (hr : va_RA s cA ty) : cA = G.2.1 j := by
  have h2 := (hK.1.2 j _ hj).2
  cases ty with
  | object C =>
    obtain ⟨_, _, _, _, _, h4⟩ := hr
    obtain ⟨_, _, _, _, _, k4⟩ := h2
    exact Option.some.inj (h4.symm.trans k4)
  | _ =>
    have e1 : s.vm.findClass _ = some cA := hr
    have e2 : s.vm.findClass _ = some (G.2.1 j) := h2
    exact Option.some.inj (e1.symm.trans e2)
theorem g_newa (hx : p.tables.exec = Jvm.exec) (hb : c.code = cc) (hK : Kw G s) (hM : Wd G M s H locs) {atype : ArrayType} {ty : FieldType} {j : Nat} (hts : ∀ w ∈ AL, w.before args s = true) (harr : Cond.arrayClass (newarray.typeOf atype) ∈ AL) (hty : newarray.typeOf atype = ty) (hj : (tyG G)[j]? = some (G.2.1 j, ty)) {n : Int32} {N' : Nat} {a0 : vp_A} (h0 : ∀ cA : ClassId, vp_cell cA a0 = arrV cA N' (fun _ => defaultValue ty)) (hn : ¬ n < 0) (hN : n.toNatClampNeg = N') (hbytes : N' * componentBytes ty ≤ 536870912) (r : Nat) (hcells : cells + 1 ≤ R.cells) (hslots : slots + N' ≤ R.slots) (hdg : decode cc pc = .ok (.newarray atype, 2))
    (kk : ∀ (q : Nat) (H : Heap), M q = none → Wd G (hu M q r (.inl (G.2.1 j, a0))) s H locs → W p l e R s m args below meth c H locs (cells + 1) (slots + N') Q (F0 m (pc + 2) ls (.ref q :: rest))) : W p l e R s m args below meth c H locs cells slots Q (F0 m pc ls (.int n :: rest)) := by
  obtain ⟨ws, hP, hD, hw⟩ := hM.1
  exact va_newa (D := G.1) (ty := ty) (a0 := a0) hx hb (hts _ harr) hty hK.1 hP hD hM.2.1 hM.hA h0 hn hN hbytes hcells hslots hdg (fun q cA H1 hK1 hP1 hD1 hS1 => by
    have e := tyG_at hK hj (hK1.2 (tyG G).length (cA, ty) (by simp)).2
    subst e
    obtain ⟨z1, z2⟩ := hm.push (r := r) hw hP1 hD1
    exact kk q H1 z1 ⟨z2, hS1, hM.2.2⟩)
theorem g_newq (hx : p.tables.exec = Jvm.exec) (hb : c.code = cc) {own : String} {index : Nat} (hts : ∀ w ∈ AL, w.before args s = true) (hown : s.vm.findClass own = some m.cls) (hK : Kw G s) (hM : Wd G M s H locs) (hcl : Cond.classLink own index "java/lang/Object" ∈ AL) {n : Int32} {N' : Nat} (hn : ¬ n < 0) (hN : n.toNatClampNeg = N') (hbytes : N' * 4 ≤ 536870912) (r : Nat) (hcells : cells + 1 ≤ R.cells) (hslots : slots + N' ≤ R.slots) (hdg : decode cc pc = .ok (.anewarray index, 3))
    (kk : ∀ (q : Nat) (H : Heap), M q = none → Wd G (hu M q r (.inl (G.2.1 2, N', .inr (.inr (.inr (.inr (fun _ => none))))))) s H locs → W p l e R s m args below meth c H locs (cells + 1) (slots + N') Q (F0 m (pc + 3) ls (.ref q :: rest))) : W p l e R s m args below meth c H locs cells slots Q (F0 m pc ls (.int n :: rest)) := by
  obtain ⟨ws, hP, hD, hw⟩ := hM.1
  exact va_newq (D := G.1) hx hb hown (hts _ hcl) hK.2.2.2.1.1 hK.1 hP hD hM.2.1 hM.hA hn hN hbytes hcells hslots hdg (fun q cA H1 hK1 hP1 hD1 hS1 => by
    have e := tyG_at (j := 2) hK rfl (hK1.2 (tyG G).length (cA, .object "java/lang/Object") (by simp)).2
    subst e
    obtain ⟨z1, z2⟩ := hm.push (r := r) hw hP1 hD1
    exact kk q H1 z1 ⟨z2, hS1, hM.2.2⟩)
theorem g_copyi (hx : p.tables.exec = Jvm.exec) (hb : c.code = cc) (hml : c.maxLocals = ls.size) {own : String} {index : Nat} (hts : ∀ w ∈ AL, w.before args s = true) (hown : s.vm.findClass own = some m.cls) (hK : Kw G s) (hM : Wd G M s H locs) (hlink : Cond.methodLink own index arraycopyName ∈ AL) {a0 n0 n1 r0 r1 : Nat} {f g : Nat → Int32} (ha0 : M a0 = some (r0, .inl (G.2.1 0, n0, .inl f))) (ha : M a = some (r1, .inl (G.2.1 0, n1, .inl g))) {sp dp n : Int32} (h1 : ¬ sp < 0) (h2 : ¬ dp < 0) (h3 : ¬ n < 0) (h4 : sp.toNatClampNeg + n.toNatClampNeg ≤ n0) (h5 : dp.toNatClampNeg + n.toNatClampNeg ≤ n1) (hfr : 1 ≤ R.frames) (hlo : (rest.map fun v => v.category).sum + (nativeFrameWords "java/lang/System" "arraycopy" 5 + 11) ≤ R.locals) (hdg : decode cc pc = .ok (.invokestatic index, 3))
    (kk : ∀ (H : Heap) (locs : List Loc), Wd G (hu M a r1 (.inl (G.2.1 0, n1, .inl (va_cpy f g sp.toNatClampNeg dp.toNatClampNeg n.toNatClampNeg)))) s H locs → W p l e R s m args below meth c H locs cells slots Q (F0 m (pc + 3) ls rest)) : W p l e R s m args below meth c H locs cells slots Q (F0 m pc ls (.int n :: .int dp :: .ref a :: .int sp :: .ref a0 :: rest)) := by
  obtain ⟨ws, hP, hD, hw⟩ := hM.1
  obtain ⟨k0, hk0⟩ := hw _ _ _ ha
  obtain ⟨k1, hk1⟩ := hw _ _ _ ha0
  exact va_copyi (D := G.1) hx hb hml hown (hts _ hlink) (hts _ wv_acopy) (hts _ wt_acopy) (hts _ wn_java_lang_System) hK.1 hP hD hM.2.1 k1 k0 0 0 hk1 hk0 rfl rfl rfl h1 h2 h3 h4 h5 (fun _ _ => rfl) hfr hlo hdg (fun H1 locs1 hP1 hD1 hS1 => kk H1 locs1 ⟨hm.set hw hk0 hP1 hD1, hS1, hM.2.2⟩)
theorem g_iret (hx : p.tables.exec = Jvm.exec) (hb : c.code = cc) (hr : meth.sig.returnType = some .int) (hlocks : meth.locks = false) (hM : Wd G M s H locs) {mc ms : Nat} (h1 : cells ≤ mc) (h2 : slots ≤ ms) {P : Int32 → HM → Prop} {v : Int32} (hv : P v M) (hdg : decode cc pc = .ok (.ireturn, 1)) : W p l e R s m args below meth c H locs cells slots (MQ below (va_Qi P (gB G) (gA G)) args s mc ms (gA G)) (F0 m pc ls [.int v]) :=
  W.widen h1 h2 (W.iret (v := v) hx hb hr (fun t ht _ => ⟨⟨v, M, rfl, hv, by show hm G M t.heap; rw [ht]; exact hM.1⟩, hM.2.1.F ht⟩) hM.2.1.2.2 hdg hlocks)
theorem g_lret (hx : p.tables.exec = Jvm.exec) (hb : c.code = cc) (hr : meth.sig.returnType = some .long) (hlocks : meth.locks = false) (hM : Wd G M s H locs) {mc ms : Nat} (h1 : cells ≤ mc) (h2 : slots ≤ ms) {P : Int64 → HM → Prop} {v : Int64} (hv : P v M) (hdg : decode cc pc = .ok (.lreturn, 1)) : W p l e R s m args below meth c H locs cells slots (MQ below (va_Ql P (gB G) (gA G)) args s mc ms (gA G)) (F0 m pc ls [.long v]) :=
  W.widen h1 h2 (W.lret (v := v) hx hb hr (fun t ht _ => ⟨⟨v, M, rfl, hv, by show hm G M t.heap; rw [ht]; exact hM.1⟩, hM.2.1.F ht⟩) hM.2.1.2.2 hdg hlocks)
theorem g_zret (hx : p.tables.exec = Jvm.exec) (hb : c.code = cc) (hr : meth.sig.returnType = some .boolean) (hlocks : meth.locks = false) (hM : Wd G M s H locs) {mc ms : Nat} (h1 : cells ≤ mc) (h2 : slots ≤ ms) {P : Int32 → HM → Prop} {v : Int32} (hz : narrow .boolean (.int v) = .int v) (hv : P v M) (hdg : decode cc pc = .ok (.ireturn, 1)) : W p l e R s m args below meth c H locs cells slots (MQ below (va_Qi P (gB G) (gA G)) args s mc ms (gA G)) (F0 m pc ls [.int v]) :=
  W.widen h1 h2 (W.zret (v := v) hx hb hr hz (fun t ht _ => ⟨⟨v, M, rfl, hv, by show hm G M t.heap; rw [ht]; exact hM.1⟩, hM.2.1.F ht⟩) hM.2.1.2.2 hdg hlocks)
theorem g_vret (hx : p.tables.exec = Jvm.exec) (hb : c.code = cc) (hr : meth.sig.returnType = none) (hlocks : meth.locks = false) (hM : Wd G M s H locs) {mc ms : Nat} (h1 : cells ≤ mc) (h2 : slots ≤ ms) {P : HM → Prop} (hv : P M) (hdg : decode cc pc = .ok (.return_, 1)) : W p l e R s m args below meth c H locs cells slots (MQ below (va_Qv P (gB G) (gA G)) args s mc ms (gA G)) (F0 m pc ls []) :=
  W.widen h1 h2 (W.vret hx hb hr (fun t ht _ => ⟨⟨M, rfl, hv, by show hm G M t.heap; rw [ht]; exact hM.1⟩, hM.2.1.F ht⟩) hM.2.1.2.2 hdg hlocks)
theorem g_qret (hx : p.tables.exec = Jvm.exec) (hb : c.code = cc) {rt : FieldType} (hr : meth.sig.returnType = some rt) (hrt : (∃ n, rt = .object n) ∨ ∃ t, rt = .array t) (hlocks : meth.locks = false) (hM : Wd G M s H locs) {mc ms : Nat} (h1 : cells ≤ mc) (h2 : slots ≤ ms) {P : Option Nat → HM → Prop} {v : Option Nat} (hv : P v M) (hdg : decode cc pc = .ok (.areturn, 1)) : W p l e R s m args below meth c H locs cells slots (MQ below (va_Qq P (gB G) (gA G)) args s mc ms (gA G)) (F0 m pc ls [va_rf v]) :=
  W.widen h1 h2 (W.aret (v := va_rf v) hx hb hr hrt (by cases v with | none => exact Or.inl rfl | some q => exact Or.inr ⟨q, rfl⟩) (fun t ht _ => ⟨⟨v, M, rfl, hv, by show hm G M t.heap; rw [ht]; exact hM.1⟩, hM.2.1.F ht⟩) hM.2.1.2.2 hdg hlocks)
end GW
theorem Mi.go {l : Launch} {y : MethodName} {cc : ByteArray} {n fr lo mc ms : Nat} {ret : Option FieldType} {av : List Value} {G : GG} {M : HM} {P : Int32 → HM → Prop} (hy : plainName y.cls = true) (hav : (lg_sl av).length ≤ n)
    (h : ∀ (p : Program) (e : Env) (s : State) (m : MethodId) (below : List Frame) (meth : Method) (c : Code) (ls : Array Slot), p.tables.exec = Jvm.exec → c.code = cc → meth.sig.returnType = ret → c.maxLocals = n → s.vm.findClass y.cls = some m.cls → meth.locks = false → meth.name = y.name → (∀ w ∈ AL, w.before av.toArray s = true) → Kw G s → Wd G M s s.heap [] → lv_has ls n (lv_args 0 av) → W p l e ({ frames := fr, cells := mc, slots := ms, locals := lo } : Room) s m av.toArray below meth c s.heap [] 0 0 (MQ below (va_Qi P (gB G) (gA G)) av.toArray s mc ms (gA G)) (F0 m 0 ls [])) : Mi l y (.code y cc n ret :: AL) fr lo mc ms av G M P := by
  refine Met.ofW (cc := cc) (maxL := n) (ret := ret) hy rfl ?_
  intro p e s m args below meth c s₁ B hml hv
  obtain ⟨rfl, hK, hM, hsz⟩ := hv
  have hts := atoms_spec (ws := .code y cc n ret :: AL) B.pre
  have hl := lv_entry av (n := n) hav
  rw [lg_entry_eq]
  exact h p e s m below meth c _ B.exec B.bytes B.returns hml (findClass_of_methodNamed B.named) B.notSynchronized (name_of_methodNamed B.named B.method).1 (fun w hw => hts w (List.mem_cons_of_mem _ hw)) hK ⟨hM, va_S.rf, hsz⟩ hl
theorem Ml.go {l : Launch} {y : MethodName} {cc : ByteArray} {n fr lo mc ms : Nat} {ret : Option FieldType} {av : List Value} {G : GG} {M : HM} {P : Int64 → HM → Prop} (hy : plainName y.cls = true) (hav : (lg_sl av).length ≤ n)
    (h : ∀ (p : Program) (e : Env) (s : State) (m : MethodId) (below : List Frame) (meth : Method) (c : Code) (ls : Array Slot), p.tables.exec = Jvm.exec → c.code = cc → meth.sig.returnType = ret → c.maxLocals = n → s.vm.findClass y.cls = some m.cls → meth.locks = false → meth.name = y.name → (∀ w ∈ AL, w.before av.toArray s = true) → Kw G s → Wd G M s s.heap [] → lv_has ls n (lv_args 0 av) → W p l e ({ frames := fr, cells := mc, slots := ms, locals := lo } : Room) s m av.toArray below meth c s.heap [] 0 0 (MQ below (va_Ql P (gB G) (gA G)) av.toArray s mc ms (gA G)) (F0 m 0 ls [])) : Ml l y (.code y cc n ret :: AL) fr lo mc ms av G M P := by
  refine Met.ofW (cc := cc) (maxL := n) (ret := ret) hy rfl ?_
  intro p e s m args below meth c s₁ B hml hv
  obtain ⟨rfl, hK, hM, hsz⟩ := hv
  have hts := atoms_spec (ws := .code y cc n ret :: AL) B.pre
  have hl := lv_entry av (n := n) hav
  rw [lg_entry_eq]
  exact h p e s m below meth c _ B.exec B.bytes B.returns hml (findClass_of_methodNamed B.named) B.notSynchronized (name_of_methodNamed B.named B.method).1 (fun w hw => hts w (List.mem_cons_of_mem _ hw)) hK ⟨hM, va_S.rf, hsz⟩ hl
theorem Mv.go {l : Launch} {y : MethodName} {cc : ByteArray} {n fr lo mc ms : Nat} {ret : Option FieldType} {av : List Value} {G : GG} {M : HM} {P : HM → Prop} (hy : plainName y.cls = true) (hav : (lg_sl av).length ≤ n)
    (h : ∀ (p : Program) (e : Env) (s : State) (m : MethodId) (below : List Frame) (meth : Method) (c : Code) (ls : Array Slot), p.tables.exec = Jvm.exec → c.code = cc → meth.sig.returnType = ret → c.maxLocals = n → s.vm.findClass y.cls = some m.cls → meth.locks = false → meth.name = y.name → (∀ w ∈ AL, w.before av.toArray s = true) → Kw G s → Wd G M s s.heap [] → lv_has ls n (lv_args 0 av) → W p l e ({ frames := fr, cells := mc, slots := ms, locals := lo } : Room) s m av.toArray below meth c s.heap [] 0 0 (MQ below (va_Qv P (gB G) (gA G)) av.toArray s mc ms (gA G)) (F0 m 0 ls [])) : Mv l y (.code y cc n ret :: AL) fr lo mc ms av G M P := by
  refine Met.ofW (cc := cc) (maxL := n) (ret := ret) hy rfl ?_
  intro p e s m args below meth c s₁ B hml hv
  obtain ⟨rfl, hK, hM, hsz⟩ := hv
  have hts := atoms_spec (ws := .code y cc n ret :: AL) B.pre
  have hl := lv_entry av (n := n) hav
  rw [lg_entry_eq]
  exact h p e s m below meth c _ B.exec B.bytes B.returns hml (findClass_of_methodNamed B.named) B.notSynchronized (name_of_methodNamed B.named B.method).1 (fun w hw => hts w (List.mem_cons_of_mem _ hw)) hK ⟨hM, va_S.rf, hsz⟩ hl
theorem Mq.go {l : Launch} {y : MethodName} {cc : ByteArray} {n fr lo mc ms : Nat} {ret : Option FieldType} {av : List Value} {G : GG} {M : HM} {P : Option Nat → HM → Prop} (hy : plainName y.cls = true) (hav : (lg_sl av).length ≤ n)
    (h : ∀ (p : Program) (e : Env) (s : State) (m : MethodId) (below : List Frame) (meth : Method) (c : Code) (ls : Array Slot), p.tables.exec = Jvm.exec → c.code = cc → meth.sig.returnType = ret → c.maxLocals = n → s.vm.findClass y.cls = some m.cls → meth.locks = false → meth.name = y.name → (∀ w ∈ AL, w.before av.toArray s = true) → Kw G s → Wd G M s s.heap [] → lv_has ls n (lv_args 0 av) → W p l e ({ frames := fr, cells := mc, slots := ms, locals := lo } : Room) s m av.toArray below meth c s.heap [] 0 0 (MQ below (va_Qq P (gB G) (gA G)) av.toArray s mc ms (gA G)) (F0 m 0 ls [])) : Mq l y (.code y cc n ret :: AL) fr lo mc ms av G M P := by
  refine Met.ofW (cc := cc) (maxL := n) (ret := ret) hy rfl ?_
  intro p e s m args below meth c s₁ B hml hv
  obtain ⟨rfl, hK, hM, hsz⟩ := hv
  have hts := atoms_spec (ws := .code y cc n ret :: AL) B.pre
  have hl := lv_entry av (n := n) hav
  rw [lg_entry_eq]
  exact h p e s m below meth c _ B.exec B.bytes B.returns hml (findClass_of_methodNamed B.named) B.notSynchronized (name_of_methodNamed B.named B.method).1 (fun w hw => hts w (List.mem_cons_of_mem _ hw)) hK ⟨hM, va_S.rf, hsz⟩ hl
theorem al_in {y : MethodName} {cc : ByteArray} {n : Nat} {ret : Option FieldType} (h : Cond.code y cc n ret ∈ AL) : GoodIn AL (.code y cc n ret :: AL) := fun w hw => by
  rcases List.mem_cons.mp hw with e | h2
  · subst e; exact ⟨h, al_gw _ h⟩
  · exact ⟨h2, al_gw _ h2⟩
abbrev okM (y : MethodName) (n : Nat) : Prop := y.cls ≠ "java/lang/invoke/MethodHandle" ∧ y.cls ≠ "java/lang/invoke/VarHandle" ∧ (parseMethodDescriptor y.desc).map (fun d => d.parameters.length) = some n
section GC
variable {p : Program} {l : Launch} {e : Env} {R : Room} {s : State} {m : MethodId} {args : Array Value} {below : List Frame} {meth : Method} {c : Code} {H : Heap} {locs : List Loc} {cells slots : Nat} {Q : State → Prop}
variable {cc bytes : ByteArray} {pc nL n9 maxL fr lo mc ms index : Nat} {ls : Array Slot} {As rest : List Value} {b : Nat} {G : GG} {M : HM} {own C : String} {y : MethodName} {ret : Option FieldType}
theorem g_callVi {st0 : List Value} (hx : p.tables.exec = Jvm.exec) (hb : c.code = cc) (hml : c.maxLocals = nL) (hls : ls.size = nL) (hown : s.vm.findClass own = some m.cls) (hts : ∀ w ∈ AL, w.before args s = true) (hK : Kw G s) (hM : Wd G M s H locs) {P : Int32 → HM → Prop} (hC : Mi l y (.code y bytes maxL ret :: AL) fr lo mc ms (.ref b :: As) G M P) (hlk : Cond.methodLink own index y ∈ AL) (hin : Cond.instanceMethod y ∈ AL) (hsel : Cond.selects y.cls y y ∈ AL) (hini : Cond.initialized y.cls ∈ AL) (hcd : Cond.code y bytes maxL ret ∈ AL) (hd : okM y n9) (hrv : ∃ cell : Cell, H[b]? = some cell ∧ cell.vm.isStatics = false ∧ s.vm.findClass y.cls = some cell.cls) (hR : fr + 1 ≤ R.frames ∧ 8 + (maxL + 11) + lo ≤ R.locals) (hf : cells + mc ≤ R.cells ∧ slots + ms ≤ R.slots) (hn : As.length = n9) (hst : (rest.map fun v => v.category).sum ≤ 8) (hst0 : st0 = As.reverse ++ .ref b :: rest) (hdg : decode cc pc = .ok (.invokevirtual index, 3))
    (kk : ∀ (r : Int32) (M1 : HM) (H : Heap) (locs : List Loc), P r M1 → Wd G M1 s H locs → W p l e R s m args below meth c H locs (cells + mc) (slots + ms) Q (F0 m (pc + 3) ls (.int r :: rest))) : W p l e R s m args below meth c H locs cells slots Q (F0 m pc ls (st0)) :=
  va_calli (va_runV (As := As) (rest := rest) ⟨hx, hb, hml, hown, hts⟩ hC ⟨callB_of n9 hts (al_in hcd) rfl rfl rfl (hts _ hini) (hts _ hlk) hd hR, hts _ hin, hts _ hsel⟩ ⟨gP.blind, hrv, fun U hU hW => hM.pre hK hU hW⟩ rfl hn hls hst0 (lv_room hst) hdg hf) hM.2.1 (fun _ _ h => h) (fun _ h => h) (fun r u t H1 locs1 ht hvm hp hB hz hk hS1 => kk r u H1 locs1 hp ⟨by rw [← ht]; exact hB, hS1, hM.2.2⟩)
theorem g_callVl {st0 : List Value} (hx : p.tables.exec = Jvm.exec) (hb : c.code = cc) (hml : c.maxLocals = nL) (hls : ls.size = nL) (hown : s.vm.findClass own = some m.cls) (hts : ∀ w ∈ AL, w.before args s = true) (hK : Kw G s) (hM : Wd G M s H locs) {P : Int64 → HM → Prop} (hC : Ml l y (.code y bytes maxL ret :: AL) fr lo mc ms (.ref b :: As) G M P) (hlk : Cond.methodLink own index y ∈ AL) (hin : Cond.instanceMethod y ∈ AL) (hsel : Cond.selects y.cls y y ∈ AL) (hini : Cond.initialized y.cls ∈ AL) (hcd : Cond.code y bytes maxL ret ∈ AL) (hd : okM y n9) (hrv : ∃ cell : Cell, H[b]? = some cell ∧ cell.vm.isStatics = false ∧ s.vm.findClass y.cls = some cell.cls) (hR : fr + 1 ≤ R.frames ∧ 8 + (maxL + 11) + lo ≤ R.locals) (hf : cells + mc ≤ R.cells ∧ slots + ms ≤ R.slots) (hn : As.length = n9) (hst : (rest.map fun v => v.category).sum ≤ 8) (hst0 : st0 = As.reverse ++ .ref b :: rest) (hdg : decode cc pc = .ok (.invokevirtual index, 3))
    (kk : ∀ (r : Int64) (M1 : HM) (H : Heap) (locs : List Loc), P r M1 → Wd G M1 s H locs → W p l e R s m args below meth c H locs (cells + mc) (slots + ms) Q (F0 m (pc + 3) ls (.long r :: rest))) : W p l e R s m args below meth c H locs cells slots Q (F0 m pc ls (st0)) :=
  va_calll (va_runV (As := As) (rest := rest) ⟨hx, hb, hml, hown, hts⟩ hC ⟨callB_of n9 hts (al_in hcd) rfl rfl rfl (hts _ hini) (hts _ hlk) hd hR, hts _ hin, hts _ hsel⟩ ⟨gP.blind, hrv, fun U hU hW => hM.pre hK hU hW⟩ rfl hn hls hst0 (lv_room hst) hdg hf) hM.2.1 (fun _ _ h => h) (fun _ h => h) (fun r u t H1 locs1 ht hvm hp hB hz hk hS1 => kk r u H1 locs1 hp ⟨by rw [← ht]; exact hB, hS1, hM.2.2⟩)
theorem g_callVv {st0 : List Value} (hx : p.tables.exec = Jvm.exec) (hb : c.code = cc) (hml : c.maxLocals = nL) (hls : ls.size = nL) (hown : s.vm.findClass own = some m.cls) (hts : ∀ w ∈ AL, w.before args s = true) (hK : Kw G s) (hM : Wd G M s H locs) {P : HM → Prop} (hC : Mv l y (.code y bytes maxL ret :: AL) fr lo mc ms (.ref b :: As) G M P) (hlk : Cond.methodLink own index y ∈ AL) (hin : Cond.instanceMethod y ∈ AL) (hsel : Cond.selects y.cls y y ∈ AL) (hini : Cond.initialized y.cls ∈ AL) (hcd : Cond.code y bytes maxL ret ∈ AL) (hd : okM y n9) (hrv : ∃ cell : Cell, H[b]? = some cell ∧ cell.vm.isStatics = false ∧ s.vm.findClass y.cls = some cell.cls) (hR : fr + 1 ≤ R.frames ∧ 8 + (maxL + 11) + lo ≤ R.locals) (hf : cells + mc ≤ R.cells ∧ slots + ms ≤ R.slots) (hn : As.length = n9) (hst : (rest.map fun v => v.category).sum ≤ 8) (hst0 : st0 = As.reverse ++ .ref b :: rest) (hdg : decode cc pc = .ok (.invokevirtual index, 3))
    (kk : ∀ (M1 : HM) (H : Heap) (locs : List Loc), P M1 → Wd G M1 s H locs → W p l e R s m args below meth c H locs (cells + mc) (slots + ms) Q (F0 m (pc + 3) ls (rest))) : W p l e R s m args below meth c H locs cells slots Q (F0 m pc ls (st0)) :=
  va_callv (va_runV (As := As) (rest := rest) ⟨hx, hb, hml, hown, hts⟩ hC ⟨callB_of n9 hts (al_in hcd) rfl rfl rfl (hts _ hini) (hts _ hlk) hd hR, hts _ hin, hts _ hsel⟩ ⟨gP.blind, hrv, fun U hU hW => hM.pre hK hU hW⟩ rfl hn hls hst0 (lv_room hst) hdg hf) hM.2.1 (fun _ _ h => h) (fun _ h => h) (fun u t H1 locs1 ht hvm hp hB hz hk hS1 => kk u H1 locs1 hp ⟨by rw [← ht]; exact hB, hS1, hM.2.2⟩)
theorem g_callVq {st0 : List Value} (hx : p.tables.exec = Jvm.exec) (hb : c.code = cc) (hml : c.maxLocals = nL) (hls : ls.size = nL) (hown : s.vm.findClass own = some m.cls) (hts : ∀ w ∈ AL, w.before args s = true) (hK : Kw G s) (hM : Wd G M s H locs) {P : Option Nat → HM → Prop} (hC : Mq l y (.code y bytes maxL ret :: AL) fr lo mc ms (.ref b :: As) G M P) (hlk : Cond.methodLink own index y ∈ AL) (hin : Cond.instanceMethod y ∈ AL) (hsel : Cond.selects y.cls y y ∈ AL) (hini : Cond.initialized y.cls ∈ AL) (hcd : Cond.code y bytes maxL ret ∈ AL) (hd : okM y n9) (hrv : ∃ cell : Cell, H[b]? = some cell ∧ cell.vm.isStatics = false ∧ s.vm.findClass y.cls = some cell.cls) (hR : fr + 1 ≤ R.frames ∧ 8 + (maxL + 11) + lo ≤ R.locals) (hf : cells + mc ≤ R.cells ∧ slots + ms ≤ R.slots) (hn : As.length = n9) (hst : (rest.map fun v => v.category).sum ≤ 8) (hst0 : st0 = As.reverse ++ .ref b :: rest) (hdg : decode cc pc = .ok (.invokevirtual index, 3))
    (kk : ∀ (r : Option Nat) (M1 : HM) (H : Heap) (locs : List Loc), P r M1 → Wd G M1 s H locs → W p l e R s m args below meth c H locs (cells + mc) (slots + ms) Q (F0 m (pc + 3) ls (va_rf r :: rest))) : W p l e R s m args below meth c H locs cells slots Q (F0 m pc ls (st0)) :=
  va_callq (va_runV (As := As) (rest := rest) ⟨hx, hb, hml, hown, hts⟩ hC ⟨callB_of n9 hts (al_in hcd) rfl rfl rfl (hts _ hini) (hts _ hlk) hd hR, hts _ hin, hts _ hsel⟩ ⟨gP.blind, hrv, fun U hU hW => hM.pre hK hU hW⟩ rfl hn hls hst0 (lv_room hst) hdg hf) hM.2.1 (fun _ _ h => h) (fun _ h => h) (fun r u t H1 locs1 ht hvm hp hB hz hk hS1 => kk r u H1 locs1 hp ⟨by rw [← ht]; exact hB, hS1, hM.2.2⟩)
theorem g_callSi {st0 : List Value} (hx : p.tables.exec = Jvm.exec) (hb : c.code = cc) (hml : c.maxLocals = nL) (hls : ls.size = nL) (hown : s.vm.findClass own = some m.cls) (hts : ∀ w ∈ AL, w.before args s = true) (hK : Kw G s) (hM : Wd G M s H locs) {P : Int32 → HM → Prop} (hC : Mi l y (.code y bytes maxL ret :: AL) fr lo mc ms As G M P) (hlk : Cond.methodLink own index y ∈ AL) (hin : Cond.static y ∈ AL) (hini : Cond.initialized y.cls ∈ AL) (hcd : Cond.code y bytes maxL ret ∈ AL) (hd : okM y n9) (hR : fr + 1 ≤ R.frames ∧ 8 + (maxL + 11) + lo ≤ R.locals) (hf : cells + mc ≤ R.cells ∧ slots + ms ≤ R.slots) (hn : As.length = n9) (hst : (rest.map fun v => v.category).sum ≤ 8) (hst0 : st0 = As.reverse ++ rest) (hdg : decode cc pc = .ok (.invokestatic index, 3))
    (kk : ∀ (r : Int32) (M1 : HM) (H : Heap) (locs : List Loc), P r M1 → Wd G M1 s H locs → W p l e R s m args below meth c H locs (cells + mc) (slots + ms) Q (F0 m (pc + 3) ls (.int r :: rest))) : W p l e R s m args below meth c H locs cells slots Q (F0 m pc ls (st0)) :=
  va_calli (va_runS (As := As) (rest := rest) ⟨hx, hb, hml, hown, hts⟩ hC ⟨callB_of n9 hts (al_in hcd) rfl rfl rfl (hts _ hini) (hts _ hlk) hd hR, hts _ hin⟩ ⟨gP.blind, fun U hU hW => hM.pre hK hU hW⟩ rfl hn hls hst0 (lv_room hst) hdg hf) hM.2.1 (fun _ _ h => h) (fun _ h => h) (fun r u t H1 locs1 ht hvm hp hB hz hk hS1 => kk r u H1 locs1 hp ⟨by rw [← ht]; exact hB, hS1, hM.2.2⟩)
theorem g_callSl {st0 : List Value} (hx : p.tables.exec = Jvm.exec) (hb : c.code = cc) (hml : c.maxLocals = nL) (hls : ls.size = nL) (hown : s.vm.findClass own = some m.cls) (hts : ∀ w ∈ AL, w.before args s = true) (hK : Kw G s) (hM : Wd G M s H locs) {P : Int64 → HM → Prop} (hC : Ml l y (.code y bytes maxL ret :: AL) fr lo mc ms As G M P) (hlk : Cond.methodLink own index y ∈ AL) (hin : Cond.static y ∈ AL) (hini : Cond.initialized y.cls ∈ AL) (hcd : Cond.code y bytes maxL ret ∈ AL) (hd : okM y n9) (hR : fr + 1 ≤ R.frames ∧ 8 + (maxL + 11) + lo ≤ R.locals) (hf : cells + mc ≤ R.cells ∧ slots + ms ≤ R.slots) (hn : As.length = n9) (hst : (rest.map fun v => v.category).sum ≤ 8) (hst0 : st0 = As.reverse ++ rest) (hdg : decode cc pc = .ok (.invokestatic index, 3))
    (kk : ∀ (r : Int64) (M1 : HM) (H : Heap) (locs : List Loc), P r M1 → Wd G M1 s H locs → W p l e R s m args below meth c H locs (cells + mc) (slots + ms) Q (F0 m (pc + 3) ls (.long r :: rest))) : W p l e R s m args below meth c H locs cells slots Q (F0 m pc ls (st0)) :=
  va_calll (va_runS (As := As) (rest := rest) ⟨hx, hb, hml, hown, hts⟩ hC ⟨callB_of n9 hts (al_in hcd) rfl rfl rfl (hts _ hini) (hts _ hlk) hd hR, hts _ hin⟩ ⟨gP.blind, fun U hU hW => hM.pre hK hU hW⟩ rfl hn hls hst0 (lv_room hst) hdg hf) hM.2.1 (fun _ _ h => h) (fun _ h => h) (fun r u t H1 locs1 ht hvm hp hB hz hk hS1 => kk r u H1 locs1 hp ⟨by rw [← ht]; exact hB, hS1, hM.2.2⟩)
theorem g_callSv {st0 : List Value} (hx : p.tables.exec = Jvm.exec) (hb : c.code = cc) (hml : c.maxLocals = nL) (hls : ls.size = nL) (hown : s.vm.findClass own = some m.cls) (hts : ∀ w ∈ AL, w.before args s = true) (hK : Kw G s) (hM : Wd G M s H locs) {P : HM → Prop} (hC : Mv l y (.code y bytes maxL ret :: AL) fr lo mc ms As G M P) (hlk : Cond.methodLink own index y ∈ AL) (hin : Cond.static y ∈ AL) (hini : Cond.initialized y.cls ∈ AL) (hcd : Cond.code y bytes maxL ret ∈ AL) (hd : okM y n9) (hR : fr + 1 ≤ R.frames ∧ 8 + (maxL + 11) + lo ≤ R.locals) (hf : cells + mc ≤ R.cells ∧ slots + ms ≤ R.slots) (hn : As.length = n9) (hst : (rest.map fun v => v.category).sum ≤ 8) (hst0 : st0 = As.reverse ++ rest) (hdg : decode cc pc = .ok (.invokestatic index, 3))
    (kk : ∀ (M1 : HM) (H : Heap) (locs : List Loc), P M1 → Wd G M1 s H locs → W p l e R s m args below meth c H locs (cells + mc) (slots + ms) Q (F0 m (pc + 3) ls (rest))) : W p l e R s m args below meth c H locs cells slots Q (F0 m pc ls (st0)) :=
  va_callv (va_runS (As := As) (rest := rest) ⟨hx, hb, hml, hown, hts⟩ hC ⟨callB_of n9 hts (al_in hcd) rfl rfl rfl (hts _ hini) (hts _ hlk) hd hR, hts _ hin⟩ ⟨gP.blind, fun U hU hW => hM.pre hK hU hW⟩ rfl hn hls hst0 (lv_room hst) hdg hf) hM.2.1 (fun _ _ h => h) (fun _ h => h) (fun u t H1 locs1 ht hvm hp hB hz hk hS1 => kk u H1 locs1 hp ⟨by rw [← ht]; exact hB, hS1, hM.2.2⟩)
theorem g_callSq {st0 : List Value} (hx : p.tables.exec = Jvm.exec) (hb : c.code = cc) (hml : c.maxLocals = nL) (hls : ls.size = nL) (hown : s.vm.findClass own = some m.cls) (hts : ∀ w ∈ AL, w.before args s = true) (hK : Kw G s) (hM : Wd G M s H locs) {P : Option Nat → HM → Prop} (hC : Mq l y (.code y bytes maxL ret :: AL) fr lo mc ms As G M P) (hlk : Cond.methodLink own index y ∈ AL) (hin : Cond.static y ∈ AL) (hini : Cond.initialized y.cls ∈ AL) (hcd : Cond.code y bytes maxL ret ∈ AL) (hd : okM y n9) (hR : fr + 1 ≤ R.frames ∧ 8 + (maxL + 11) + lo ≤ R.locals) (hf : cells + mc ≤ R.cells ∧ slots + ms ≤ R.slots) (hn : As.length = n9) (hst : (rest.map fun v => v.category).sum ≤ 8) (hst0 : st0 = As.reverse ++ rest) (hdg : decode cc pc = .ok (.invokestatic index, 3))
    (kk : ∀ (r : Option Nat) (M1 : HM) (H : Heap) (locs : List Loc), P r M1 → Wd G M1 s H locs → W p l e R s m args below meth c H locs (cells + mc) (slots + ms) Q (F0 m (pc + 3) ls (va_rf r :: rest))) : W p l e R s m args below meth c H locs cells slots Q (F0 m pc ls (st0)) :=
  va_callq (va_runS (As := As) (rest := rest) ⟨hx, hb, hml, hown, hts⟩ hC ⟨callB_of n9 hts (al_in hcd) rfl rfl rfl (hts _ hini) (hts _ hlk) hd hR, hts _ hin⟩ ⟨gP.blind, fun U hU hW => hM.pre hK hU hW⟩ rfl hn hls hst0 (lv_room hst) hdg hf) hM.2.1 (fun _ _ h => h) (fun _ h => h) (fun r u t H1 locs1 ht hvm hp hB hz hk hS1 => kk r u H1 locs1 hp ⟨by rw [← ht]; exact hB, hS1, hM.2.2⟩)
theorem g_callIv {st0 : List Value} (hx : p.tables.exec = Jvm.exec) (hb : c.code = cc) (hml : c.maxLocals = nL) (hls : ls.size = nL) (hown : s.vm.findClass own = some m.cls) (hts : ∀ w ∈ AL, w.before args s = true) (hK : Kw G s) (hM : Wd G M s H locs) {P : HM → Prop} (hC : Mv l y (.code y bytes maxL none :: AL) fr lo mc ms (.ref b :: As) G M P) (hlk : Cond.methodLink own index y ∈ AL) (hin : Cond.instanceMethod y ∈ AL) (hini : Cond.initialized y.cls ∈ AL) (hnm : y.name = "<init>") (hcd : Cond.code y bytes maxL none ∈ AL) (hd : okM y n9) (hR : fr + 1 ≤ R.frames ∧ 8 + (maxL + 11) + lo ≤ R.locals) (hf : cells + mc ≤ R.cells ∧ slots + ms ≤ R.slots) (hn : As.length = n9) (hst : (rest.map fun v => v.category).sum ≤ 8) (hst0 : st0 = As.reverse ++ .ref b :: rest) (hdg : decode cc pc = .ok (.invokespecial index, 3))
    (kk : ∀ (M1 : HM) (H : Heap) (locs : List Loc), P M1 → Wd G M1 s H locs → W p l e R s m args below meth c H locs (cells + mc) (slots + ms) Q (F0 m (pc + 3) ls (rest))) : W p l e R s m args below meth c H locs cells slots Q (F0 m pc ls (st0)) :=
  va_callv (va_runI (As := As) (rest := rest) ⟨hx, hb, hml, hown, hts⟩ hC ⟨callB_of n9 hts (al_in hcd) rfl rfl rfl (hts _ hini) (hts _ hlk) hd hR, hnm, hts _ hin⟩ ⟨gP.blind, fun U hU hW => hM.pre hK hU hW⟩ rfl hn hls hst0 (lv_room hst) hdg hf) hM.2.1 (fun _ _ h => h) (fun _ h => h) (fun u t H1 locs1 ht hvm hp hB hz hk hS1 => kk u H1 locs1 hp ⟨by rw [← ht]; exact hB, hS1, hM.2.2⟩)
theorem g_callSNi {st0 : List Value} (hx : p.tables.exec = Jvm.exec) (hb : c.code = cc) (hml : c.maxLocals = nL) (hls : ls.size = nL) (hown : s.vm.findClass own = some m.cls) (hts : ∀ w ∈ AL, w.before args s = true) (hK : Kw G s) (hM : Wd G M s H locs) {P : Int32 → HM → Prop} (hC : Mi l y (.code y bytes maxL ret :: AL) fr lo mc ms As G M P) {host : String} (hlk : va_Nw (.methodLinkNest own index y host) s) (hin : Cond.static y ∈ AL) (hini : Cond.initialized y.cls ∈ AL) (hcd : Cond.code y bytes maxL ret ∈ AL) (hd : okM y n9) (hR : fr + 1 ≤ R.frames ∧ 8 + (maxL + 11) + lo ≤ R.locals) (hf : cells + mc ≤ R.cells ∧ slots + ms ≤ R.slots) (hn : As.length = n9) (hst : (rest.map fun v => v.category).sum ≤ 8) (hst0 : st0 = As.reverse ++ rest) (hdg : decode cc pc = .ok (.invokestatic index, 3))
    (kk : ∀ (r : Int32) (M1 : HM) (H : Heap) (locs : List Loc), P r M1 → Wd G M1 s H locs → W p l e R s m args below meth c H locs (cells + mc) (slots + ms) Q (F0 m (pc + 3) ls (.int r :: rest))) : W p l e R s m args below meth c H locs cells slots Q (F0 m pc ls (st0)) :=
  va_calli (va_runSN (As := As) (rest := rest) ⟨hx, hb, hml, hown, hts⟩ hC ⟨va_cnB n9 hts (al_in hcd) rfl rfl rfl hlk (hts _ hini) hd hR, hts _ hin, trivial⟩ ⟨gP.blind, fun U hU hW => hM.pre hK hU hW⟩ rfl hn hls hst0 (lv_room hst) hdg hf) hM.2.1 (fun _ _ h => h) (fun _ h => h) (fun r u t H1 locs1 ht hvm hp hB hz hk hS1 => kk r u H1 locs1 hp ⟨by rw [← ht]; exact hB, hS1, hM.2.2⟩)
theorem g_callINv {st0 : List Value} (hx : p.tables.exec = Jvm.exec) (hb : c.code = cc) (hml : c.maxLocals = nL) (hls : ls.size = nL) (hown : s.vm.findClass own = some m.cls) (hts : ∀ w ∈ AL, w.before args s = true) (hK : Kw G s) (hM : Wd G M s H locs) {P : HM → Prop} (hC : Mv l y (.code y bytes maxL none :: AL) fr lo mc ms (.ref b :: As) G M P) {host : String} (hlk : va_Nw (.methodLinkNest own index y host) s) (hin : Cond.instanceMethod y ∈ AL) (hini : Cond.initialized y.cls ∈ AL) (hnm : y.name = "<init>") (hcd : Cond.code y bytes maxL none ∈ AL) (hd : okM y n9) (hR : fr + 1 ≤ R.frames ∧ 8 + (maxL + 11) + lo ≤ R.locals) (hf : cells + mc ≤ R.cells ∧ slots + ms ≤ R.slots) (hn : As.length = n9) (hst : (rest.map fun v => v.category).sum ≤ 8) (hst0 : st0 = As.reverse ++ .ref b :: rest) (hdg : decode cc pc = .ok (.invokespecial index, 3))
    (kk : ∀ (M1 : HM) (H : Heap) (locs : List Loc), P M1 → Wd G M1 s H locs → W p l e R s m args below meth c H locs (cells + mc) (slots + ms) Q (F0 m (pc + 3) ls (rest))) : W p l e R s m args below meth c H locs cells slots Q (F0 m pc ls (st0)) :=
  va_callv (va_runIN (As := As) (rest := rest) ⟨hx, hb, hml, hown, hts⟩ hC ⟨va_cnB n9 hts (al_in hcd) rfl rfl rfl hlk (hts _ hini) hd hR, hnm, hts _ hin⟩ ⟨gP.blind, fun U hU hW => hM.pre hK hU hW⟩ rfl hn hls hst0 (lv_room hst) hdg hf) hM.2.1 (fun _ _ h => h) (fun _ h => h) (fun u t H1 locs1 ht hvm hp hB hz hk hS1 => kk u H1 locs1 hp ⟨by rw [← ht]; exact hB, hS1, hM.2.2⟩)
theorem g_callFi {st0 : List Value} {x : MethodName} {count : Nat} {cC : ClassId} (hx : p.tables.exec = Jvm.exec) (hb : c.code = cc) (hml : c.maxLocals = nL) (hls : ls.size = nL) (hown : s.vm.findClass own = some m.cls) (hts : ∀ w ∈ AL, w.before args s = true) (hK : Kw G s) (hM : Wd G M s H locs) {P : Int32 → HM → Prop} (hC : Mi l y (.code y bytes maxL ret :: AL) fr lo mc ms (.ref b :: As) G M P) (hat : ClassAt s C cC) (hF : va_Fw C x y s) (hlk : Cond.methodLink own index x ∈ AL) (hsel : Cond.selects C x y ∈ AL) (hin : Cond.instanceMethod y ∈ AL) (hini : Cond.initialized y.cls ∈ AL) (hcd : Cond.code y bytes maxL ret ∈ AL) (hd : okM x n9) (hrv : ∃ cell : Cell, H[b]? = some cell ∧ cell.vm.isStatics = false ∧ s.vm.findClass C = some cell.cls) (hR : fr + 1 ≤ R.frames ∧ 8 + (maxL + 11) + lo ≤ R.locals) (hf : cells + mc ≤ R.cells ∧ slots + ms ≤ R.slots) (hn : As.length = n9) (hst : (rest.map fun v => v.category).sum ≤ 8) (hst0 : st0 = As.reverse ++ .ref b :: rest) (hdg : decode cc pc = .ok (.invokeinterface index count, 5))
    (kk : ∀ (r : Int32) (M1 : HM) (H : Heap) (locs : List Loc), P r M1 → Wd G M1 s H locs → W p l e R s m args below meth c H locs (cells + mc) (slots + ms) Q (F0 m (pc + 5) ls (.int r :: rest))) : W p l e R s m args below meth c H locs cells slots Q (F0 m pc ls (st0)) :=
  va_callFi (va_runF (As := As) (rest := rest) hat ⟨hx, hb, hml, hown, hts⟩ hC (va_cwF n9 hts (fun w hw => by
    simp only [va_wsF, List.mem_append, List.mem_cons, List.not_mem_nil, or_false] at hw
    rcases hw with (rfl | rfl | rfl | rfl) | rfl | hw
    · exact ⟨hlk, al_gw _ hlk⟩
    · exact ⟨hsel, al_gw _ hsel⟩
    · exact ⟨hin, al_gw _ hin⟩
    · exact ⟨hini, al_gw _ hini⟩
    · exact ⟨hcd, al_gw _ hcd⟩
    · exact ⟨hw, al_gw _ hw⟩) rfl rfl rfl hF hd hR) ⟨gP.blind, hrv, fun U hU hW => hM.pre hK hU hW⟩ rfl hn hls hst0 (lv_room hst) hdg hf) hM.2.1 (fun _ _ h => h) (fun _ h => h) (fun r u t H1 locs1 ht hvm hp hB hz hk hS1 => kk r u H1 locs1 hp ⟨by rw [← ht]; exact hB, hS1, hM.2.2⟩)
theorem g_callFq {st0 : List Value} {x : MethodName} {count : Nat} {cC : ClassId} (hx : p.tables.exec = Jvm.exec) (hb : c.code = cc) (hml : c.maxLocals = nL) (hls : ls.size = nL) (hown : s.vm.findClass own = some m.cls) (hts : ∀ w ∈ AL, w.before args s = true) (hK : Kw G s) (hM : Wd G M s H locs) {P : Option Nat → HM → Prop} (hC : Mq l y (.code y bytes maxL ret :: AL) fr lo mc ms (.ref b :: As) G M P) (hat : ClassAt s C cC) (hF : va_Fw C x y s) (hlk : Cond.methodLink own index x ∈ AL) (hsel : Cond.selects C x y ∈ AL) (hin : Cond.instanceMethod y ∈ AL) (hini : Cond.initialized y.cls ∈ AL) (hcd : Cond.code y bytes maxL ret ∈ AL) (hd : okM x n9) (hrv : ∃ cell : Cell, H[b]? = some cell ∧ cell.vm.isStatics = false ∧ s.vm.findClass C = some cell.cls) (hR : fr + 1 ≤ R.frames ∧ 8 + (maxL + 11) + lo ≤ R.locals) (hf : cells + mc ≤ R.cells ∧ slots + ms ≤ R.slots) (hn : As.length = n9) (hst : (rest.map fun v => v.category).sum ≤ 8) (hst0 : st0 = As.reverse ++ .ref b :: rest) (hdg : decode cc pc = .ok (.invokeinterface index count, 5))
    (kk : ∀ (r : Option Nat) (M1 : HM) (H : Heap) (locs : List Loc), P r M1 → Wd G M1 s H locs → W p l e R s m args below meth c H locs (cells + mc) (slots + ms) Q (F0 m (pc + 5) ls (va_rf r :: rest))) : W p l e R s m args below meth c H locs cells slots Q (F0 m pc ls (st0)) :=
  va_callFq (va_runF (As := As) (rest := rest) hat ⟨hx, hb, hml, hown, hts⟩ hC (va_cwF n9 hts (fun w hw => by
    simp only [va_wsF, List.mem_append, List.mem_cons, List.not_mem_nil, or_false] at hw
    rcases hw with (rfl | rfl | rfl | rfl) | rfl | hw
    · exact ⟨hlk, al_gw _ hlk⟩
    · exact ⟨hsel, al_gw _ hsel⟩
    · exact ⟨hin, al_gw _ hin⟩
    · exact ⟨hini, al_gw _ hini⟩
    · exact ⟨hcd, al_gw _ hcd⟩
    · exact ⟨hw, al_gw _ hw⟩) rfl rfl rfl hF hd hR) ⟨gP.blind, hrv, fun U hU hW => hM.pre hK hU hW⟩ rfl hn hls hst0 (lv_room hst) hdg hf) hM.2.1 (fun _ _ h => h) (fun _ h => h) (fun r u t H1 locs1 ht hvm hp hB hz hk hS1 => kk r u H1 locs1 hp ⟨by rw [← ht]; exact hB, hS1, hM.2.2⟩)
end GC

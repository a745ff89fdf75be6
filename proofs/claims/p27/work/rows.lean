section
-- ===== PART A: goes FIRST, ahead of the names: the tables' words, and 'selects' of the private methods out of them =====
/-- a private method of a class that the tables say can be made, by its rows of tables_1 -/
def lw_okq (q : MethodName × Nat) : Prop := (q.1.cls ≠ "java/lang/invoke/MethodHandle" ∧ q.1.cls ≠ "java/lang/invoke/VarHandle") ∧ Cond.instantiable q.1.cls q.2 ∈ tables_1 ∧ Cond.privateMethod q.1 ∈ tables_1 ∧ Cond.instanceMethod q.1 ∈ tables_1
theorem lw_p0 : lw_okq (⟨"java/lang/Throwable", "fillInStackTrace", "(I)Ljava/lang/Throwable;"⟩, 6) := ⟨⟨by decide +kernel, by decide +kernel⟩, List.mem_of_getElem? (i := 92) (by decide +kernel), List.mem_of_getElem? (i := 90) (by decide +kernel), List.mem_of_getElem? (i := 91) (by decide +kernel)⟩
theorem lw_p1 : lw_okq (⟨"WheatRun$Field", "ripen", "(I)V"⟩, 13) := ⟨⟨by decide +kernel, by decide +kernel⟩, List.mem_of_getElem? (i := 215) (by decide +kernel), List.mem_of_getElem? (i := 213) (by decide +kernel), List.mem_of_getElem? (i := 214) (by decide +kernel)⟩
theorem lw_p2 : lw_okq (⟨"WheatRun$Field", "soakOrDry", "(II)V"⟩, 13) := ⟨⟨by decide +kernel, by decide +kernel⟩, List.mem_of_getElem? (i := 215) (by decide +kernel), List.mem_of_getElem? (i := 221) (by decide +kernel), List.mem_of_getElem? (i := 222) (by decide +kernel)⟩
theorem lw_p3 : lw_okq (⟨"WheatRun$Field", "shatter", "(II)V"⟩, 13) := ⟨⟨by decide +kernel, by decide +kernel⟩, List.mem_of_getElem? (i := 215) (by decide +kernel), List.mem_of_getElem? (i := 228) (by decide +kernel), List.mem_of_getElem? (i := 229) (by decide +kernel)⟩
theorem lw_p4 : lw_okq (⟨"WheatRun$Combine", "acresAtOnce", "(LWheatRun$Field;)I"⟩, 12) := ⟨⟨by decide +kernel, by decide +kernel⟩, List.mem_of_getElem? (i := 244) (by decide +kernel), List.mem_of_getElem? (i := 242) (by decide +kernel), List.mem_of_getElem? (i := 243) (by decide +kernel)⟩
theorem lw_p5 : lw_okq (⟨"WheatRun$Combine", "holdsAnother", "()Z"⟩, 12) := ⟨⟨by decide +kernel, by decide +kernel⟩, List.mem_of_getElem? (i := 244) (by decide +kernel), List.mem_of_getElem? (i := 260) (by decide +kernel), List.mem_of_getElem? (i := 261) (by decide +kernel)⟩
theorem lw_p6 : lw_okq (⟨"WheatRun$Combine", "harvest", "(LWheatRun$Field;I)V"⟩, 12) := ⟨⟨by decide +kernel, by decide +kernel⟩, List.mem_of_getElem? (i := 244) (by decide +kernel), List.mem_of_getElem? (i := 264) (by decide +kernel), List.mem_of_getElem? (i := 265) (by decide +kernel)⟩
theorem lw_p7 : lw_okq (⟨"WheatRun$Combine", "metered", "(I)I"⟩, 12) := ⟨⟨by decide +kernel, by decide +kernel⟩, List.mem_of_getElem? (i := 244) (by decide +kernel), List.mem_of_getElem? (i := 268) (by decide +kernel), List.mem_of_getElem? (i := 269) (by decide +kernel)⟩
theorem lw_p8 : lw_okq (⟨"WheatRun$Land", "passTruckHour", "(LWheatRun$Truck;)V"⟩, 9) := ⟨⟨by decide +kernel, by decide +kernel⟩, List.mem_of_getElem? (i := 275) (by decide +kernel), List.mem_of_getElem? (i := 273) (by decide +kernel), List.mem_of_getElem? (i := 274) (by decide +kernel)⟩
theorem lw_p9 : lw_okq (⟨"WheatRun$Land", "unload", "(LWheatRun$Truck;LWheatRun$Elevator;)V"⟩, 9) := ⟨⟨by decide +kernel, by decide +kernel⟩, List.mem_of_getElem? (i := 275) (by decide +kernel), List.mem_of_getElem? (i := 300) (by decide +kernel), List.mem_of_getElem? (i := 301) (by decide +kernel)⟩
theorem lw_p10 : lw_okq (⟨"WheatRun$Elevator", "isOpen", "(I)Z"⟩, 6) := ⟨⟨by decide +kernel, by decide +kernel⟩, List.mem_of_getElem? (i := 310) (by decide +kernel), List.mem_of_getElem? (i := 308) (by decide +kernel), List.mem_of_getElem? (i := 309) (by decide +kernel)⟩
theorem lw_p11 : lw_okq (⟨"WheatRun$Land", "writeTicket", "(LWheatRun$Truck;LWheatRun$Elevator;)V"⟩, 9) := ⟨⟨by decide +kernel, by decide +kernel⟩, List.mem_of_getElem? (i := 275) (by decide +kernel), List.mem_of_getElem? (i := 313) (by decide +kernel), List.mem_of_getElem? (i := 314) (by decide +kernel)⟩
theorem lw_p12 : lw_okq (⟨"java/util/ArrayList", "add", "(Ljava/lang/Object;[Ljava/lang/Object;I)V"⟩, 3) := ⟨⟨by decide +kernel, by decide +kernel⟩, List.mem_of_getElem? (i := 366) (by decide +kernel), List.mem_of_getElem? (i := 364) (by decide +kernel), List.mem_of_getElem? (i := 365) (by decide +kernel)⟩
theorem lw_p13 : lw_okq (⟨"java/util/ArrayList", "grow", "()[Ljava/lang/Object;"⟩, 3) := ⟨⟨by decide +kernel, by decide +kernel⟩, List.mem_of_getElem? (i := 366) (by decide +kernel), List.mem_of_getElem? (i := 369) (by decide +kernel), List.mem_of_getElem? (i := 370) (by decide +kernel)⟩
theorem lw_p14 : lw_okq (⟨"java/util/ArrayList", "grow", "(I)[Ljava/lang/Object;"⟩, 3) := ⟨⟨by decide +kernel, by decide +kernel⟩, List.mem_of_getElem? (i := 366) (by decide +kernel), List.mem_of_getElem? (i := 373) (by decide +kernel), List.mem_of_getElem? (i := 374) (by decide +kernel)⟩
theorem lw_p15 : lw_okq (⟨"WheatRun", "bushelsIfSent", "(IIIII)I"⟩, 3) := ⟨⟨by decide +kernel, by decide +kernel⟩, List.mem_of_getElem? (i := 490) (by decide +kernel), List.mem_of_getElem? (i := 488) (by decide +kernel), List.mem_of_getElem? (i := 489) (by decide +kernel)⟩
def lw_privs_1 : List (MethodName × Nat) := [(⟨"java/lang/Throwable", "fillInStackTrace", "(I)Ljava/lang/Throwable;"⟩, 6), (⟨"WheatRun$Field", "ripen", "(I)V"⟩, 13), (⟨"WheatRun$Field", "soakOrDry", "(II)V"⟩, 13), (⟨"WheatRun$Field", "shatter", "(II)V"⟩, 13), (⟨"WheatRun$Combine", "acresAtOnce", "(LWheatRun$Field;)I"⟩, 12), (⟨"WheatRun$Combine", "holdsAnother", "()Z"⟩, 12), (⟨"WheatRun$Combine", "harvest", "(LWheatRun$Field;I)V"⟩, 12), (⟨"WheatRun$Combine", "metered", "(I)I"⟩, 12), (⟨"WheatRun$Land", "passTruckHour", "(LWheatRun$Truck;)V"⟩, 9), (⟨"WheatRun$Land", "unload", "(LWheatRun$Truck;LWheatRun$Elevator;)V"⟩, 9), (⟨"WheatRun$Elevator", "isOpen", "(I)Z"⟩, 6), (⟨"WheatRun$Land", "writeTicket", "(LWheatRun$Truck;LWheatRun$Elevator;)V"⟩, 9), (⟨"java/util/ArrayList", "add", "(Ljava/lang/Object;[Ljava/lang/Object;I)V"⟩, 3), (⟨"java/util/ArrayList", "grow", "()[Ljava/lang/Object;"⟩, 3), (⟨"java/util/ArrayList", "grow", "(I)[Ljava/lang/Object;"⟩, 3), (⟨"WheatRun", "bushelsIfSent", "(IIIII)I"⟩, 3)]
theorem lw_r1 : ∀ q ∈ lw_privs_1, lw_okq q := List.forall_mem_cons.mpr ⟨lw_p0, List.forall_mem_cons.mpr ⟨lw_p1, List.forall_mem_cons.mpr ⟨lw_p2, List.forall_mem_cons.mpr ⟨lw_p3, List.forall_mem_cons.mpr ⟨lw_p4, List.forall_mem_cons.mpr ⟨lw_p5, List.forall_mem_cons.mpr ⟨lw_p6, List.forall_mem_cons.mpr ⟨lw_p7, List.forall_mem_cons.mpr ⟨lw_p8, List.forall_mem_cons.mpr ⟨lw_p9, List.forall_mem_cons.mpr ⟨lw_p10, List.forall_mem_cons.mpr ⟨lw_p11, List.forall_mem_cons.mpr ⟨lw_p12, List.forall_mem_cons.mpr ⟨lw_p13, List.forall_mem_cons.mpr ⟨lw_p14, List.forall_mem_cons.mpr ⟨lw_p15, fun _ h => absurd h List.not_mem_nil⟩⟩⟩⟩⟩⟩⟩⟩⟩⟩⟩⟩⟩⟩⟩⟩
theorem lw_p16 : lw_okq (⟨"WheatRun$Land", "addRowsAs", "(LWheatRun$Land;)V"⟩, 9) := ⟨⟨by decide +kernel, by decide +kernel⟩, List.mem_of_getElem? (i := 275) (by decide +kernel), List.mem_of_getElem? (i := 497) (by decide +kernel), List.mem_of_getElem? (i := 498) (by decide +kernel)⟩
def lw_privs_2 : List (MethodName × Nat) := [(⟨"WheatRun$Land", "addRowsAs", "(LWheatRun$Land;)V"⟩, 9)]
theorem lw_r2 : ∀ q ∈ lw_privs_2, lw_okq q := List.forall_mem_cons.mpr ⟨lw_p16, fun _ h => absurd h List.not_mem_nil⟩
def lw_privs : List (MethodName × Nat) := lw_privs_1 ++ (lw_privs_2)
def lw_tbl : List Cond := k2_sels lw_privs ++ tables_1
theorem lw_privs_ok : ∀ q ∈ lw_privs, lw_okq q := by
  show ∀ q ∈ lw_privs_1 ++ (lw_privs_2), lw_okq q
  exact List.forall_mem_append.mpr ⟨lw_r1, lw_r2⟩
-- ===== end of PART A; then your names; then what follows =====
/-! ===== BEGIN words of one list among another's, by their places ===== -/
theorem goodIn_r {big : List Cond} (ws : List Cond) (ps : List Nat) (hp : ws = ps.filterMap (fun i => big[i]?)) (h : ws.all goodWord = true) : GoodIn big ws := by
  intro w hw
  have h1 := List.all_eq_true.mp h w hw
  rw [hp] at hw
  obtain ⟨i, -, hi⟩ := List.mem_filterMap.mp hw
  have hm : w ∈ big := by first | exact List.mem_of_getElem? hi | exact List.getElem?_mem hi
  exact ⟨hm, good_of_word h1⟩
theorem goodIn_app {big a b : List Cond} (ha : GoodIn big a) (hb : GoodIn big b) : GoodIn big (a ++ b) := fun w h => (List.mem_append.mp h).elim (ha w) (hb w)
theorem goodIn_ca {big a b : List Cond} {c : Cond} (ha : GoodIn big (c :: a)) (hb : GoodIn big b) : GoodIn big (c :: (a ++ b)) := fun w h => (List.mem_cons.mp h).elim (fun e => ha w (List.mem_cons.mpr (Or.inl e))) (fun h => (List.mem_append.mp h).elim (fun h => ha w (List.mem_cons.mpr (Or.inr h))) (hb w))
theorem goodIn_sub {big ws : List Cond} (hm : ∀ w ∈ ws, w ∈ big) (h : ws.all goodWord = true) : GoodIn big ws := fun w hw => ⟨hm w hw, good_of_word (List.all_eq_true.mp h w hw)⟩
/-! ===== END ===== -/

/-! ===== BEGIN exceptions that leave a method, and their catching by the caller (launches without stack traces) ===== -/
section VXA
/-! The laws vx_back, vx_callV, vx_callS, vx_callSW, vx_throw0, vx_throwS follow proofs of the library, with one case more: JvmDerived/Free/Laws.lean (Back.of_free), Shelf42/LK1.lean (callV, callS), Shelf/KitTraced.lean (throwNew0V, throwNewS). -/
/-- where a method has thrown q: the class by its name, the cell, what was written, the world -/
def vx_T (XC : String → State → State → Prop) (st : State) (q : Addr) (t : State) (mc ms : Nat) (free : Addr → Prop) : Prop :=
  ∃ (E : String) (ce : Cell) (L : List Loc), XC E st t ∧ t.heap[q]? = some ce ∧ ce.vm = .none ∧ st.vm.findClass E = some ce.cls ∧ st.WarmedH t.vm ∧ st.sameButNew ({ t with vm := st.vm } : State) L mc ms ∧ ∀ z ∈ L, free z.base
def vx_Q (Qc : Array Value → State → Outcome → State → Prop) (XC : String → State → State → Prop) (mc ms : Nat) (free : Addr → Prop) : Array Value → State → Outcome → State → Prop := fun a st o t =>
  (Qc a st o t ∧ ∃ L, FrameEnd st o t L mc ms ∧ ∀ q ∈ L, free q.base) ∨ ∃ q, o = .threw q ∧ vx_T XC st q t mc ms free
/-- a callee that returns or throws -/
def vx_Met (l : Launch) (y : MethodName) (ws : List Cond) (rm : Room) (Pc : Array Value → State → Prop) (Qc : Array Value → State → Outcome → State → Prop) (XC : String → State → State → Prop) (mc ms : Nat) (free : Addr → Prop) : Prop :=
  MetFree l y (headSpec ws rm) Pc (fun _ _ _ _ _ => True) (vx_Q Qc XC mc ms free)
def vx_Post (XC : String → State → State → Prop) (mc ms : Nat) (free : Addr → Prop) : Pt → Array Value → Addr → Pt → Prop := fun A a q B =>
  ∃ (g : JFrame) (mk : MethodId) (t : State) (L : List Loc) (E : String) (ce : Cell), B.U.heap = t.heap ∧ B.U.vm = t.vm ∧ XC E (A.U.calling g mk a) t ∧ t.heap[q]? = some ce ∧ ce.vm = .none ∧ A.U.vm.findClass E = some ce.cls ∧ B.locs = A.locs ++ L ∧ (∀ z ∈ L, free z.base) ∧ B.cells = A.cells + mc ∧ B.slots = A.slots + ms
def vx_Back (l : Launch) (R : Room) (p : Program) (e : Env) (below : List Frame) (s : State) (sargs : Array Value) (y : MethodName) (len W9 : Nat)
    (Pre : Pt → Array Value → Prop) (Post : Pt → Array Value → Option Value → Pt → Prop) (PostX : Pt → Array Value → Addr → Pt → Prop) : Prop :=
  ∀ (m : MethodId) (meth : Method) (c : Code) (A : Pt) (g : JFrame) (ig : Instr) (mk : MethodId) (a : Array Value),
    Stand p l e R s m sargs below meth c A.U A.locs A.cells A.slots → g.method = m → g.locals.size = c.maxLocals → decode c.code g.pc = .ok (ig, len) →
    2 * g.monitorRoom + (g.stack.map fun v => v.category).sum ≤ W9 → A.U.methodNamed? y = some mk → Pre A a →
    (∃ (v : Option Value) (B : Pt), Stand p l e R s m sargs below meth c B.U B.locs B.cells B.slots ∧ Post A a v B ∧
      Steps p.tables e below (doInvoke e (A.U.setTop g) [] mk a).1 (B.U.setTop { g with pc := g.pc + len, stack := v.toList ++ g.stack })) ∨
    (∃ (q : Addr) (B : Pt), Stand p l e R s m sargs below meth c B.U B.locs B.cells B.slots ∧ PostX A a q B ∧
      Steps p.tables e below (doInvoke e (A.U.setTop g) [] mk a).1 ((B.U.setTop g).pushFrame (.throwing q)))
section Payer
variable {l : Launch} {R : Room} {p : Program} {e : Env} {below : List Frame} {s : State} {sargs : Array Value} {y : MethodName} {len W9 : Nat}
theorem vx_back {ws : List Cond} {rm : Room} {Pc : Array Value → State → Prop} {Qc : Array Value → State → Outcome → State → Prop} {XC : String → State → State → Prop} {mc ms : Nat} {free : Addr → Prop} {bytes : ByteArray} {maxL : Nat} {ret : Option FieldType}
    (hM : vx_Met l y ws rm Pc Qc XC mc ms free) (hblind : FrameBlind Pc) (hrc : rm.cells = mc) (hrs : rm.slots = ms)
    (hframes : rm.frames + 1 ≤ R.frames) (hlocals : W9 + (maxL + 11) + rm.locals ≤ R.locals)
    (hws : ∀ w ∈ ws, ∀ a' U, s.WarmedH U.vm → w.before a' U = true) (hcode : Cond.code y bytes maxL ret ∈ ws) (hinit : ∀ a' U, s.WarmedH U.vm → (Cond.initialized y.cls).before a' U = true) :
    vx_Back l R p e below s sargs y len W9 (PreOf R mc ms Pc) (PostOf Qc mc ms free) (vx_Post XC mc ms free) := by
  intro m meth c A g ig mk a X hg hsize hdg hW hn hp
  have h1 : (headSpec ws rm).pre.before a A.U = true := atoms_intro fun w hw => hws w hw _ _ X.warmed
  have h2 : (Cond.code y bytes maxL ret).before a A.U = true := hws _ hcode _ _ X.warmed
  have h3 : (Cond.initialized y.cls).before a A.U = true := hinit _ _ X.warmed
  have h4 : A.cells + (headSpec ws rm).room.cells ≤ R.cells := by rw [show (headSpec ws rm).room.cells = mc from hrc]; exact hp.1
  have h5 : A.slots + (headSpec ws rm).room.slots ≤ R.slots := by rw [show (headSpec ws rm).room.slots = ms from hrs]; exact hp.2.1
  have hPc : Pc a (A.U.calling g mk a) := hblind _ _ _ _ hp.2.2
  obtain ⟨U, Ls, c0, s0⟩ := A
  dsimp only [Pt.U, Pt.locs, Pt.cells, Pt.slots] at h1 h2 h3 h4 h5 X hn hPc ⊢
  obtain ⟨methY, cY, hmY, hcY, -, hlY, -, -, -, -⟩ := Cond.code_spec hn h2
  obtain ⟨kY, hkY, -⟩ := className_of_methodNamed hn
  have hinitY : kY.init = .initialized := Cond.initialized_spec (findClass_of_methodNamed hn) hkY h3
  have h : At U g.method c below := by rw [hg]; exact X.here
  have hlocals9 : W9 + (maxL + 11) + (headSpec ws rm).room.locals ≤ R.locals := hlocals
  have happ : (headSpec ws rm).appliesLoose y e.platform (U.calling g mk a) = true :=
    Spec.appliesLoose_calling (g := g) h hdg hn hkY hinitY
      (X.room_calling (g := g) (R' := (headSpec ws rm).room) hsize hmY hcY hframes (by rw [hlY]; omega) h4 h5) h1
  obtain ⟨mid, hmid⟩ := h.above
  have hfr : (U.setTop g).frames = (.java g :: mid) ++ below := by rw [State.frames_setTop' g h.top, hmid]; rfl
  obtain ⟨o, s₂, hsteps, -, hend, hq⟩ := Steps.callFree hM p X.admits X.cas X.clock (acts := []) hfr happ hPc trivial
  have hq' : vx_Q Qc XC mc ms free a (U.calling g mk a) o s₂ := hq
  rw [State.frames_setTop' g h.top] at hend
  obtain ⟨g₀, hg0⟩ := Option.isSome_iff_exists.mp h.top
  obtain ⟨r, hr⟩ := State.topJava?_eq_some.mp hg0
  have hr' : (({ U with heap := s₂.heap, slotsUsed := s₂.slotsUsed } : State).setVm s₂.vm).frames = .java g₀ :: r := hr
  rcases hq' with ⟨hqc, L, hfe, hL⟩ | ⟨q, rfl, E, ce, L, hx, hce, hcv, hcl, hW₂, hsm, hL⟩
  · obtain ⟨⟨v, rfl⟩, hW₂, e2, q2, q3, q4, q5, q6⟩ := id hfe
    have e3 : s₂ = ({ (U.calling g mk a).setFrames s₂.frames with heap := s₂.heap, slotsUsed := s₂.slotsUsed } : State).setVm s₂.vm := by
      have : s₂ = ({ s₂ with vm := (U.calling g mk a).vm } : State).setVm s₂.vm := rfl
      rw [e2] at this
      exact this
    obtain ⟨c₂, i₂, len₂, hc₂, hd₂, hf₂⟩ := hend
    have hW' : U.WarmedH s₂.vm := hW₂
    have hcc : c₂ = c := by
      have h1 : s₂.code? g.method = U.code? g.method := by
        rw [State.code?_eq, State.code?_eq, hW'.alike.method?]
      exact Option.some.inj (hc₂.symm.trans (h1.trans h.code))
    subst hcc
    have hlen : len₂ = len := by rw [hdg] at hd₂; cases hd₂; rfl
    subst hlen
    have hs₂ : s₂ = (({ U with heap := s₂.heap, slotsUsed := s₂.slotsUsed } : State).setVm s₂.vm).setTop { g with pc := g.pc + len₂, stack := v.toList ++ g.stack } := by
      refine e3.trans ?_
      rw [hf₂, State.calling_eq h.top, State.setFrames_setFrames, State.setTop_of_frames _ hr', hr]
      rfl
    have hsame : U.sameButNew ({ U with heap := s₂.heap, slotsUsed := s₂.slotsUsed } : State) L mc ms := by
      refine ⟨?_, q2, q3, q4, q5, q6⟩
      obtain ⟨t, ht, -⟩ := State.frames_cons hr
      show ({ U with heap := s₂.heap, slotsUsed := s₂.slotsUsed } : State) = { U.setFrames U.frames with heap := s₂.heap, slotsUsed := s₂.slotsUsed }
      rw [State.setFrames_self ht]
    subst hg
    refine Or.inl ⟨v, ⟨(({ U with heap := s₂.heap, slotsUsed := s₂.slotsUsed } : State).setVm s₂.vm), Ls ++ L, c0 + mc, s0 + ms⟩,
      ⟨X.admits, X.cas, X.clock, X.frames, X.room, X.hears, X.method, X.code, (X.here.setHeapUsed s₂.heap s₂.slotsUsed).setVm hW'.alike, X.tail, State.WarmedH.trans X.warmed hW', X.limits, X.bytes, X.same.trans (hsame.setVm s.vm)⟩,
      ⟨g, mk, s₂, L, rfl, rfl, hqc, rfl, hL, rfl, rfl⟩, ?_⟩
    show Steps p.tables e below _ ((({ U with heap := s₂.heap, slotsUsed := s₂.slotsUsed } : State).setVm s₂.vm).setTop { g with pc := g.pc + len₂, stack := v.toList ++ g.stack })
    rw [← hs₂]
    exact hsteps
  · obtain ⟨e2, q2, q3, q4, q5, q6⟩ := id hsm
    have e3 : s₂ = ({ (U.calling g mk a).setFrames s₂.frames with heap := s₂.heap, slotsUsed := s₂.slotsUsed } : State).setVm s₂.vm := by
      have : s₂ = ({ s₂ with vm := (U.calling g mk a).vm } : State).setVm s₂.vm := rfl
      rw [e2] at this
      exact this
    have hf₂ : s₂.frames = .throwing q :: .java g :: U.frames.tail := hend
    have hW' : U.WarmedH s₂.vm := hW₂
    have hs₂ : s₂ = ((({ U with heap := s₂.heap, slotsUsed := s₂.slotsUsed } : State).setVm s₂.vm).setTop g).pushFrame (.throwing q) := by
      refine e3.trans ?_
      rw [hf₂, State.calling_eq h.top, State.setFrames_setFrames, State.pushFrame, State.frames_setTop _ hr', State.setTop_of_frames _ hr', State.setFrames_setFrames, hr]
      rfl
    have hsame : U.sameButNew ({ U with heap := s₂.heap, slotsUsed := s₂.slotsUsed } : State) L mc ms := by
      refine ⟨?_, q2, q3, q4, q5, q6⟩
      obtain ⟨t, ht, -⟩ := State.frames_cons hr
      show ({ U with heap := s₂.heap, slotsUsed := s₂.slotsUsed } : State) = { U.setFrames U.frames with heap := s₂.heap, slotsUsed := s₂.slotsUsed }
      rw [State.setFrames_self ht]
    subst hg
    refine Or.inr ⟨q, ⟨(({ U with heap := s₂.heap, slotsUsed := s₂.slotsUsed } : State).setVm s₂.vm), Ls ++ L, c0 + mc, s0 + ms⟩,
      ⟨X.admits, X.cas, X.clock, X.frames, X.room, X.hears, X.method, X.code, (X.here.setHeapUsed s₂.heap s₂.slotsUsed).setVm hW'.alike, X.tail, State.WarmedH.trans X.warmed hW', X.limits, X.bytes, X.same.trans (hsame.setVm s.vm)⟩,
      ⟨g, mk, s₂, L, E, ce, rfl, rfl, hx, hce, hcv, hcl, rfl, hL, rfl, rfl⟩, ?_⟩
    show Steps p.tables e below _ (((({ U with heap := s₂.heap, slotsUsed := s₂.slotsUsed } : State).setVm s₂.vm).setTop g).pushFrame (.throwing q))
    rw [← hs₂]
    exact hsteps
end Payer
section Calls
variable {p : Program} {l : Launch} {e : Env} {R : Room} {s : State} {m : MethodId} {args : Array Value} {below : List Frame} {meth : Method} {c : Code} {T : State} {locs : List Loc} {cells slots : Nat}
theorem vx_callV (X : Stand p l e R s m args below meth c T locs cells slots) (hexec : p.tables.exec = Jvm.exec) {own C : String} {index : Nat} {y : MethodName} {bytes : ByteArray} {maxL : Nat} {ret : Option FieldType}
    (hown : s.vm.findClass own = some m.cls) (hlink : (Cond.methodLink own index y).before args s = true) (hinst : (Cond.instanceMethod y).before args s = true) (hsel : (Cond.selects C y y).before args s = true)
    (hcode : (Cond.code y bytes maxL ret).before args s = true) (hy : y.cls ≠ "java/lang/invoke/MethodHandle" ∧ y.cls ≠ "java/lang/invoke/VarHandle")
    {W9 : Nat} {Pre : Pt → Array Value → Prop} {Post : Pt → Array Value → Option Value → Pt → Prop} {PostX : Pt → Array Value → Addr → Pt → Prop} (hK : vx_Back l R p e below s args y 3 W9 Pre Post PostX)
    {b : Addr} {cellB : Cell} (hcell : T.heap[b]? = some cellB) (hobj : cellB.vm.isStatics = false) (hcls : s.vm.findClass C = some cellB.cls)
    {g : JFrame} (hg : g.method = m) (hsize : g.locals.size = c.maxLocals) {argsL rest : List Value} (hlen : ∀ sig, parseMethodDescriptor y.desc = some sig → argsL.length = sig.parameters.length)
    (hstack : g.stack = argsL.reverse ++ .ref b :: rest) (hW : 2 * g.monitorRoom + (rest.map fun v => v.category).sum ≤ W9) (hdg : decode c.code g.pc = .ok (.invokevirtual index, 3))
    (hpre : ∀ vm₁, s.WarmedH vm₁ → Pre ⟨T.setVm vm₁, locs, cells, slots⟩ (Value.ref b :: argsL).toArray) :
    (∃ (v : Option Value) (vm₁ : Vm) (B : Pt), s.WarmedH vm₁ ∧ Stand p l e R s m args below meth c B.U B.locs B.cells B.slots ∧ Post ⟨T.setVm vm₁, locs, cells, slots⟩ (Value.ref b :: argsL).toArray v B ∧
      ∀ target, Steps p.tables e below (B.U.setTop { g with pc := g.pc + 3, stack := v.toList ++ rest }) target → Steps p.tables e below (T.setTop g) target) ∨
    (∃ (q : Addr) (vm₁ : Vm) (B : Pt), s.WarmedH vm₁ ∧ Stand p l e R s m args below meth c B.U B.locs B.cells B.slots ∧ PostX ⟨T.setVm vm₁, locs, cells, slots⟩ (Value.ref b :: argsL).toArray q B ∧
      Steps p.tables e below (T.setTop g) ((B.U.setTop { g with stack := rest }).pushFrame (.throwing q))) := by
  obtain ⟨mk, methM, hnamed, hmethM, hstM, habM⟩ := Cond.instanceMethod_spec hinst
  obtain ⟨methM', cM, hmethM', -, -, -, -, -, -, hsigM⟩ := Cond.code_spec hnamed hcode
  cases hmethM.symm.trans hmethM'
  obtain ⟨c2, r2, m2, q1, q2, q3, q4, kP, hkP, hkPi⟩ := Cond.selects_spec hsel
  cases hcls.symm.trans q1
  cases (State.methodFound?_of_named hnamed hy).symm.trans q2
  cases hnamed.symm.trans q3
  have hselP : selectMethod e.platform s.vm cellB.cls mk = .method mk := by rw [Launch.admits_selectMethod X.admits]; exact q4
  obtain ⟨vm₁, X₁, hstep₁⟩ := X.invokevirtual hexec hown hlink hnamed hmethM hstM hkP hkPi hy (a := b) (cell := cellB) hcell
    (fun z h => by rw [h] at hobj; cases hobj) hselP hmethM habM hkP hkPi (g := g) hg (argsL := argsL) (rest := rest) (hlen _ hsigM) hstack hdg
  rcases hK m meth c ⟨T.setVm vm₁, locs, cells, slots⟩ { g with stack := rest } (.invokevirtual index) mk (Value.ref b :: argsL).toArray X₁ hg hsize hdg hW (X₁.named hnamed) (hpre vm₁ X₁.warmed) with ⟨v, B, X', hpost, hsteps⟩ | ⟨q, B, X', hpost, hsteps⟩
  · exact Or.inl ⟨v, vm₁, B, X₁.warmed, X', hpost, fun target h => hstep₁ _ fun acts => by rw [doInvoke_state]; exact hsteps.trans h⟩
  · exact Or.inr ⟨q, vm₁, B, X₁.warmed, X', hpost, hstep₁ _ fun acts => by rw [doInvoke_state]; exact hsteps⟩
theorem vx_callS (X : Stand p l e R s m args below meth c T locs cells slots) (hexec : p.tables.exec = Jvm.exec) {own : String} {index : Nat} {y : MethodName} {bytes : ByteArray} {maxL : Nat} {ret : Option FieldType}
    (hown : s.vm.findClass own = some m.cls) (hlink : (Cond.methodLink own index y).before args s = true) (hstat : (Cond.static y).before args s = true) (hinit : (Cond.initialized y.cls).before args s = true)
    (hcode : (Cond.code y bytes maxL ret).before args s = true) (hy : y.cls ≠ "java/lang/invoke/MethodHandle" ∧ y.cls ≠ "java/lang/invoke/VarHandle")
    {W9 : Nat} {Pre : Pt → Array Value → Prop} {Post : Pt → Array Value → Option Value → Pt → Prop} {PostX : Pt → Array Value → Addr → Pt → Prop} (hK : vx_Back l R p e below s args y 3 W9 Pre Post PostX)
    {g : JFrame} (hg : g.method = m) (hsize : g.locals.size = c.maxLocals) {argsL rest : List Value} (hlen : ∀ sig, parseMethodDescriptor y.desc = some sig → argsL.length = sig.parameters.length)
    (hstack : g.stack = argsL.reverse ++ rest) (hW : 2 * g.monitorRoom + (rest.map fun v => v.category).sum ≤ W9) (hdg : decode c.code g.pc = .ok (.invokestatic index, 3))
    (hpre : ∀ vm₁, s.WarmedH vm₁ → Pre ⟨T.setVm vm₁, locs, cells, slots⟩ argsL.toArray) :
    (∃ (v : Option Value) (vm₁ : Vm) (B : Pt), s.WarmedH vm₁ ∧ Stand p l e R s m args below meth c B.U B.locs B.cells B.slots ∧ Post ⟨T.setVm vm₁, locs, cells, slots⟩ argsL.toArray v B ∧
      ∀ target, Steps p.tables e below (B.U.setTop { g with pc := g.pc + 3, stack := v.toList ++ rest }) target → Steps p.tables e below (T.setTop g) target) ∨
    (∃ (q : Addr) (vm₁ : Vm) (B : Pt), s.WarmedH vm₁ ∧ Stand p l e R s m args below meth c B.U B.locs B.cells B.slots ∧ PostX ⟨T.setVm vm₁, locs, cells, slots⟩ argsL.toArray q B ∧
      Steps p.tables e below (T.setTop g) ((B.U.setTop { g with stack := rest }).pushFrame (.throwing q))) := by
  obtain ⟨mk, hnamed⟩ := Cond.code_named hcode
  obtain ⟨methM, cM, hmethM, -, -, -, -, -, -, hsigM⟩ := Cond.code_spec hnamed hcode
  have hstatic : methM.isStatic = true := Cond.static_spec hnamed hmethM hstat
  obtain ⟨kP, hkP, -⟩ := className_of_methodNamed hnamed
  have hinitP : kP.init = .initialized := Cond.initialized_spec (findClass_of_methodNamed hnamed) hkP hinit
  obtain ⟨vm₁, X₁, hstep₁⟩ := X.invokestatic hexec hown hlink hnamed hmethM hstatic hkP hinitP hy (g := g) hg (argsL := argsL) (rest := rest) (hlen _ hsigM) hstack hdg
  rcases hK m meth c ⟨T.setVm vm₁, locs, cells, slots⟩ { g with stack := rest } (.invokestatic index) mk argsL.toArray X₁ hg hsize hdg hW (X₁.named hnamed) (hpre vm₁ X₁.warmed) with ⟨v, B, X', hpost, hsteps⟩ | ⟨q, B, X', hpost, hsteps⟩
  · exact Or.inl ⟨v, vm₁, B, X₁.warmed, X', hpost, fun target h => hstep₁ _ fun acts => by rw [doInvoke_state]; exact hsteps.trans h⟩
  · exact Or.inr ⟨q, vm₁, B, X₁.warmed, X', hpost, hstep₁ _ fun acts => by rw [doInvoke_state]; exact hsteps⟩
end Calls
theorem vx_cls {s : State} {T : State} {vm₁ : Vm} {E : String} {k : ClassId} (hW : s.WarmedH vm₁) (h : (T.setVm vm₁).vm.findClass E = some k) : s.vm.findClass E = some k := by
  have h1 : vm₁.findClass E = some k := h
  rw [hW.alike.findClass] at h1
  exact h1
/-- the method's frame g, with q thrown over it -/
def vx_W (p : Program) (l : Launch) (e : Env) (R : Room) (s : State) (m : MethodId) (args : Array Value) (below : List Frame) (meth : Method) (c : Code) (H : Heap) (locs : List Loc) (cells slots : Nat) (Q : State → Prop) (g : JFrame) (q : Addr) : Prop :=
  ∀ T : State, T.heap = H → Stand p l e R s m args below meth c T locs cells slots → ∃ t, Steps p.tables e below ((T.setTop g).pushFrame (.throwing q)) t ∧ Q t
def vx_Run (p : Program) (l : Launch) (e : Env) (R : Room) (s : State) (m : MethodId) (args : Array Value) (below : List Frame) (meth : Method) (c : Code) (H : Heap) (locs : List Loc) (cells slots mc ms : Nat) (g : JFrame) (rest : List Value) (Qa : State → Outcome → State → Prop) (XC : String → State → State → Prop) (free : Addr → Prop) : Prop :=
  ∀ T : State, T.heap = H → Stand p l e R s m args below meth c T locs cells slots →
    (∃ (v : Option Value) (st₀ t T' : State) (L : List Loc), st₀.heap = H ∧ Stand p l e R s m args below meth c T' (locs ++ L) (cells + mc) (slots + ms) ∧ (∀ q ∈ L, free q.base) ∧ T'.heap = t.heap ∧ T'.vm = t.vm ∧ Qa st₀ (.returned v) t ∧
      Goes p e below T g T' { g with pc := g.pc + 3, stack := v.toList ++ rest }) ∨
    (∃ (q : Addr) (st₀ t T' : State) (L : List Loc) (E : String) (ce : Cell), st₀.heap = H ∧ Stand p l e R s m args below meth c T' (locs ++ L) (cells + mc) (slots + ms) ∧ (∀ z ∈ L, free z.base) ∧ T'.heap = t.heap ∧ T'.vm = t.vm ∧ XC E st₀ t ∧ t.heap[q]? = some ce ∧ ce.vm = .none ∧ s.vm.findClass E = some ce.cls ∧
      Steps p.tables e below (T.setTop g) ((T'.setTop { g with stack := rest }).pushFrame (.throwing q)))
def vx_X {S : Type} (px : S → Prop) (B : String → S → State → Prop) (A : Nat → Prop) : String → State → State → Prop := fun E st t => ∃ u : S, px u ∧ B E u t ∧ va_F A st t
section Runs
variable {p : Program} {l : Launch} {e : Env} {R : Room} {s : State} {m : MethodId} {args : Array Value} {below : List Frame} {meth : Method} {c : Code} {H : Heap} {locs : List Loc} {cells slots : Nat}
variable {y : MethodName} {bytes cc : ByteArray} {maxL nL mc ms n index : Nat} {ret : Option FieldType} {ws : List Cond} {rm : Room} {Pc : Array Value → State → Prop} {Qc : Array Value → State → Outcome → State → Prop} {XC : String → State → State → Prop} {free : Addr → Prop} {Ts : List Cond} {own C : String} {b : Addr} {As rest : List Value} {g : JFrame}
theorem vx_callBack (cb : CallB R s args own index y bytes maxL ret ws rm mc ms n) (hM : vx_Met l y ws rm Pc Qc XC mc ms free) (hbl : FrameBlind Pc) : vx_Back l R p e below s args y 3 8 (PreOf R mc ms Pc) (PostOf Qc mc ms free) (vx_Post XC mc ms free) := by
  obtain ⟨hrc, hrs, hfr, hlo, hws, hcw, -, hini, -⟩ := cb
  exact vx_back (bytes := bytes) (maxL := maxL) (ret := ret) hM hbl hrc hrs hfr hlo hws hcw (fun a' U hW => word_at hW (Or.inl (by first | rfl | simp [Cond.onTables, Cond.keeps, Cond.steady])) hini)
theorem vx_runV (S : CallFix p m c cc nL s args Ts own) (hM : vx_Met l y ws rm Pc Qc XC mc ms free) (cw : CallW R s args own C index y bytes maxL ret ws rm mc ms n) (hp : PreV s H C b Pc As)
    (hg : g.method = m) (hn : As.length = n) (hsize : g.locals.size = nL) (hstack : g.stack = As.reverse ++ .ref b :: rest) (hW : 2 * g.monitorRoom + (rest.map fun v => v.category).sum ≤ 8) (hdg : decode cc g.pc = .ok (.invokevirtual index, 3)) (hf : cells + mc ≤ R.cells ∧ slots + ms ≤ R.slots) :
    vx_Run p l e R s m args below meth c H locs cells slots mc ms g rest (Qc (Value.ref b :: As).toArray) XC free := by
  have hK : vx_Back l R p e below s args y 3 8 (PreOf R mc ms Pc) (PostOf Qc mc ms free) (vx_Post XC mc ms free) := vx_callBack cw.1 hM hp.1
  obtain ⟨⟨-, -, -, -, -, -, hcode, -, hy, hlen, hl⟩, hin, hse⟩ := cw
  obtain ⟨hx, hb, hml, ho, -⟩ := S
  obtain ⟨-, ⟨cellB, hcB, hoB, hclB⟩, hPc⟩ := hp
  intro T hT X
  rcases vx_callV X hx (C := C) (bytes := bytes) (maxL := maxL) (ret := ret) ho hl hin hse hcode hy hK (by rw [hT]; exact hcB) hoB hclB hg (hsize.trans hml.symm) (argsL := As) (rest := rest) (fun sig h => hn.trans (hlen sig h)) hstack hW (by rw [hb]; exact hdg)
    (fun vm₁ hW₁ => ⟨hf.1, hf.2, hPc (T.setVm vm₁) hT hW₁⟩) with ⟨v, vm₁, ⟨U', l2, c2, s2⟩, hW₁, X', ⟨g', mk, t, L, e1, e2, hq, h1, hL, h2, h3⟩, st⟩ | ⟨q, vm₁, ⟨U', l2, c2, s2⟩, hW₁, X', ⟨g', mk, t, L, E, ce, e1, e2, hq, hce, hcv, hcl, h1, hL, h2, h3⟩, st⟩
  · dsimp only [Pt.U, Pt.locs, Pt.cells, Pt.slots] at X' e1 e2 h1 h2 h3 st
    subst h1; subst h2; subst h3
    exact Or.inl ⟨v, (T.setVm vm₁).calling g' mk (Value.ref b :: As).toArray, t, U', L, hT, X', hL, e1, e2, hq, st⟩
  · dsimp only [Pt.U, Pt.locs, Pt.cells, Pt.slots] at X' e1 e2 h1 h2 h3 st hcl
    subst h1; subst h2; subst h3
    exact Or.inr ⟨q, (T.setVm vm₁).calling g' mk (Value.ref b :: As).toArray, t, U', L, E, ce, hT, X', hL, e1, e2, hq, hce, hcv, vx_cls hW₁ hcl, st⟩
theorem vx_runS (S : CallFix p m c cc nL s args Ts own) (hM : vx_Met l y ws rm Pc Qc XC mc ms free) (cw : CallB R s args own index y bytes maxL ret ws rm mc ms n ∧ (Cond.static y).before args s = true) (hp : PreS s H Pc As)
    (hg : g.method = m) (hn : As.length = n) (hsize : g.locals.size = nL) (hstack : g.stack = As.reverse ++ rest) (hW : 2 * g.monitorRoom + (rest.map fun v => v.category).sum ≤ 8) (hdg : decode cc g.pc = .ok (.invokestatic index, 3)) (hf : cells + mc ≤ R.cells ∧ slots + ms ≤ R.slots) :
    vx_Run p l e R s m args below meth c H locs cells slots mc ms g rest (Qc As.toArray) XC free := by
  have hK : vx_Back l R p e below s args y 3 8 (PreOf R mc ms Pc) (PostOf Qc mc ms free) (vx_Post XC mc ms free) := vx_callBack cw.1 hM hp.1
  obtain ⟨⟨-, -, -, -, -, -, hcode, hini, hy, hlen, hl⟩, hstt⟩ := cw
  obtain ⟨hx, hb, hml, ho, -⟩ := S
  intro T hT X
  rcases vx_callS X hx (bytes := bytes) (maxL := maxL) (ret := ret) ho hl hstt hini hcode hy hK hg (hsize.trans hml.symm) (argsL := As) (rest := rest) (fun sig h => hn.trans (hlen sig h)) hstack hW (by rw [hb]; exact hdg)
    (fun vm₁ hW₁ => ⟨hf.1, hf.2, hp.2 (T.setVm vm₁) hT hW₁⟩) with ⟨v, vm₁, ⟨U', l2, c2, s2⟩, hW₁, X', ⟨g', mk, t, L, e1, e2, hq, h1, hL, h2, h3⟩, st⟩ | ⟨q, vm₁, ⟨U', l2, c2, s2⟩, hW₁, X', ⟨g', mk, t, L, E, ce, e1, e2, hq, hce, hcv, hcl, h1, hL, h2, h3⟩, st⟩
  · dsimp only [Pt.U, Pt.locs, Pt.cells, Pt.slots] at X' e1 e2 h1 h2 h3 st
    subst h1; subst h2; subst h3
    exact Or.inl ⟨v, (T.setVm vm₁).calling g' mk As.toArray, t, U', L, hT, X', hL, e1, e2, hq, st⟩
  · dsimp only [Pt.U, Pt.locs, Pt.cells, Pt.slots] at X' e1 e2 h1 h2 h3 st hcl
    subst h1; subst h2; subst h3
    exact Or.inr ⟨q, (T.setVm vm₁).calling g' mk As.toArray, t, U', L, E, ce, hT, X', hL, e1, e2, hq, hce, hcv, vx_cls hW₁ hcl, st⟩
end Runs
section Rows
variable {p : Program} {l : Launch} {e : Env} {R : Room} {s : State} {m : MethodId} {args : Array Value} {below : List Frame} {meth : Method} {c : Code} {H : Heap} {locs : List Loc} {cells slots : Nat} {Q : State → Prop}
variable {mc ms : Nat} {free : Addr → Prop} {A0 A1 : Nat → Prop} {H0 : Heap} {a : Array Value} {pc : Nat} {ls : Array Slot} {st0 rest : List Value}
theorem vx_keep {st₀ t T' : State} {L : List Loc} (h0 : st₀.heap = H) (e1 : T'.heap = t.heap) (hS : va_S A0 H0 H locs) (hA : ∀ q, q < H.size → A1 q → A0 q) (hf : ∀ q, free q → A0 q) (hL : ∀ q ∈ L, free q.base) (hF : va_F A1 st₀ t) :
    H.size ≤ T'.heap.size ∧ (∀ q : Nat, q < H.size → ¬ A1 q → T'.heap[q]? = H[q]?) ∧ va_S A0 H0 T'.heap (locs ++ L) := by
  obtain ⟨hz, hk⟩ := hF
  rw [h0] at hz hk
  exact ⟨by rw [e1]; exact hz, fun q h1 h2 => by rw [e1]; exact hk q h1 h2,
    ⟨Nat.le_trans hS.1 (by rw [e1]; exact hz), fun q h1 h2 => by rw [e1, hk q (Nat.lt_of_lt_of_le h1 hS.1) (fun z => h2 (hA q (Nat.lt_of_lt_of_le h1 hS.1) z))]; exact hS.2.1 q h1 h2, fun q hq => by
      rcases List.mem_append.mp hq with h | h
      · exact hS.2.2 q h
      · exact hf _ (hL q h)⟩⟩
theorem vx_calli {S SX : Type} {post : Int32 → S → Prop} {px : SX → Prop} {B : S → State → Prop} {BX : String → SX → State → Prop} {AX : Nat → Prop} (hr : vx_Run p l e R s m args below meth c H locs cells slots mc ms (F0 m pc ls st0) rest (va_Qi post B A1 a) (vx_X px BX AX) free) (hS : va_S A0 H0 H locs) (hA : ∀ q, q < H.size → A1 q → A0 q) (hf : ∀ q, free q → A0 q) (hAX : ∀ q, q < H.size → AX q → A0 q)
    (kx : ∀ (E : String) (ce : Cell) (q9 : Addr) (u : SX) (t : State) (H1 : Heap) (locs1 : List Loc), t.heap = H1 → s.vm.Alike t.vm → px u → BX E u t → H.size ≤ H1.size → (∀ q : Nat, q < H.size → ¬ AX q → H1[q]? = H[q]?) → va_S A0 H0 H1 locs1 → H1[q9]? = some ce → ce.vm = .none → s.vm.findClass E = some ce.cls → vx_W p l e R s m args below meth c H1 locs1 (cells + mc) (slots + ms) Q (F0 m pc ls rest) q9)
    (kk : ∀ (r : Int32) (u : S) (t : State) (H1 : Heap) (locs1 : List Loc), t.heap = H1 → s.vm.Alike t.vm → post r u → B u t → H.size ≤ H1.size → (∀ q : Nat, q < H.size → ¬ A1 q → H1[q]? = H[q]?) → va_S A0 H0 H1 locs1 → W p l e R s m args below meth c H1 locs1 (cells + mc) (slots + ms) Q (F0 m (pc + 3) ls (.int r :: rest))) : W p l e R s m args below meth c H locs cells slots Q (F0 m pc ls st0) := by
  intro T hT X
  rcases hr T hT X with ⟨v, st₀, t, T', L, h0, X', hL, e1, e2, ⟨⟨r, u, hv, hp, hb⟩, hF⟩, st⟩ | ⟨q, st₀, t, T', L, E, ce, h0, X', hL, e1, e2, ⟨u, hp, hb, hF⟩, hce, hcv, hcl, st⟩
  · cases hv
    obtain ⟨k1, k2, k3⟩ := vx_keep h0 e1 hS hA hf hL hF
    obtain ⟨t2, a1, b1⟩ := kk r u t T'.heap (locs ++ L) e1.symm (by rw [← e2]; exact X'.warmed.alike) hp hb k1 k2 k3 T' rfl X'
    exact ⟨t2, st t2 a1, b1⟩
  · obtain ⟨k1, k2, k3⟩ := vx_keep h0 e1 hS hAX hf hL hF
    obtain ⟨t2, a1, b1⟩ := kx E ce q u t T'.heap (locs ++ L) e1.symm (by rw [← e2]; exact X'.warmed.alike) hp hb k1 k2 k3 (by rw [e1]; exact hce) hcv hcl T' rfl X'
    exact ⟨t2, st.trans a1, b1⟩
theorem vx_calll {S SX : Type} {post : Int64 → S → Prop} {px : SX → Prop} {B : S → State → Prop} {BX : String → SX → State → Prop} {AX : Nat → Prop} (hr : vx_Run p l e R s m args below meth c H locs cells slots mc ms (F0 m pc ls st0) rest (va_Ql post B A1 a) (vx_X px BX AX) free) (hS : va_S A0 H0 H locs) (hA : ∀ q, q < H.size → A1 q → A0 q) (hf : ∀ q, free q → A0 q) (hAX : ∀ q, q < H.size → AX q → A0 q)
    (kx : ∀ (E : String) (ce : Cell) (q9 : Addr) (u : SX) (t : State) (H1 : Heap) (locs1 : List Loc), t.heap = H1 → s.vm.Alike t.vm → px u → BX E u t → H.size ≤ H1.size → (∀ q : Nat, q < H.size → ¬ AX q → H1[q]? = H[q]?) → va_S A0 H0 H1 locs1 → H1[q9]? = some ce → ce.vm = .none → s.vm.findClass E = some ce.cls → vx_W p l e R s m args below meth c H1 locs1 (cells + mc) (slots + ms) Q (F0 m pc ls rest) q9)
    (kk : ∀ (r : Int64) (u : S) (t : State) (H1 : Heap) (locs1 : List Loc), t.heap = H1 → s.vm.Alike t.vm → post r u → B u t → H.size ≤ H1.size → (∀ q : Nat, q < H.size → ¬ A1 q → H1[q]? = H[q]?) → va_S A0 H0 H1 locs1 → W p l e R s m args below meth c H1 locs1 (cells + mc) (slots + ms) Q (F0 m (pc + 3) ls (.long r :: rest))) : W p l e R s m args below meth c H locs cells slots Q (F0 m pc ls st0) := by
  intro T hT X
  rcases hr T hT X with ⟨v, st₀, t, T', L, h0, X', hL, e1, e2, ⟨⟨r, u, hv, hp, hb⟩, hF⟩, st⟩ | ⟨q, st₀, t, T', L, E, ce, h0, X', hL, e1, e2, ⟨u, hp, hb, hF⟩, hce, hcv, hcl, st⟩
  · cases hv
    obtain ⟨k1, k2, k3⟩ := vx_keep h0 e1 hS hA hf hL hF
    obtain ⟨t2, a1, b1⟩ := kk r u t T'.heap (locs ++ L) e1.symm (by rw [← e2]; exact X'.warmed.alike) hp hb k1 k2 k3 T' rfl X'
    exact ⟨t2, st t2 a1, b1⟩
  · obtain ⟨k1, k2, k3⟩ := vx_keep h0 e1 hS hAX hf hL hF
    obtain ⟨t2, a1, b1⟩ := kx E ce q u t T'.heap (locs ++ L) e1.symm (by rw [← e2]; exact X'.warmed.alike) hp hb k1 k2 k3 (by rw [e1]; exact hce) hcv hcl T' rfl X'
    exact ⟨t2, st.trans a1, b1⟩
theorem vx_callf {S SX : Type} {post : UInt32 → S → Prop} {px : SX → Prop} {B : S → State → Prop} {BX : String → SX → State → Prop} {AX : Nat → Prop} (hr : vx_Run p l e R s m args below meth c H locs cells slots mc ms (F0 m pc ls st0) rest (va_Qf post B A1 a) (vx_X px BX AX) free) (hS : va_S A0 H0 H locs) (hA : ∀ q, q < H.size → A1 q → A0 q) (hf : ∀ q, free q → A0 q) (hAX : ∀ q, q < H.size → AX q → A0 q)
    (kx : ∀ (E : String) (ce : Cell) (q9 : Addr) (u : SX) (t : State) (H1 : Heap) (locs1 : List Loc), t.heap = H1 → s.vm.Alike t.vm → px u → BX E u t → H.size ≤ H1.size → (∀ q : Nat, q < H.size → ¬ AX q → H1[q]? = H[q]?) → va_S A0 H0 H1 locs1 → H1[q9]? = some ce → ce.vm = .none → s.vm.findClass E = some ce.cls → vx_W p l e R s m args below meth c H1 locs1 (cells + mc) (slots + ms) Q (F0 m pc ls rest) q9)
    (kk : ∀ (r : UInt32) (u : S) (t : State) (H1 : Heap) (locs1 : List Loc), t.heap = H1 → s.vm.Alike t.vm → post r u → B u t → H.size ≤ H1.size → (∀ q : Nat, q < H.size → ¬ A1 q → H1[q]? = H[q]?) → va_S A0 H0 H1 locs1 → W p l e R s m args below meth c H1 locs1 (cells + mc) (slots + ms) Q (F0 m (pc + 3) ls (.float r :: rest))) : W p l e R s m args below meth c H locs cells slots Q (F0 m pc ls st0) := by
  intro T hT X
  rcases hr T hT X with ⟨v, st₀, t, T', L, h0, X', hL, e1, e2, ⟨⟨r, u, hv, hp, hb⟩, hF⟩, st⟩ | ⟨q, st₀, t, T', L, E, ce, h0, X', hL, e1, e2, ⟨u, hp, hb, hF⟩, hce, hcv, hcl, st⟩
  · cases hv
    obtain ⟨k1, k2, k3⟩ := vx_keep h0 e1 hS hA hf hL hF
    obtain ⟨t2, a1, b1⟩ := kk r u t T'.heap (locs ++ L) e1.symm (by rw [← e2]; exact X'.warmed.alike) hp hb k1 k2 k3 T' rfl X'
    exact ⟨t2, st t2 a1, b1⟩
  · obtain ⟨k1, k2, k3⟩ := vx_keep h0 e1 hS hAX hf hL hF
    obtain ⟨t2, a1, b1⟩ := kx E ce q u t T'.heap (locs ++ L) e1.symm (by rw [← e2]; exact X'.warmed.alike) hp hb k1 k2 k3 (by rw [e1]; exact hce) hcv hcl T' rfl X'
    exact ⟨t2, st.trans a1, b1⟩
theorem vx_calld {S SX : Type} {post : UInt64 → S → Prop} {px : SX → Prop} {B : S → State → Prop} {BX : String → SX → State → Prop} {AX : Nat → Prop} (hr : vx_Run p l e R s m args below meth c H locs cells slots mc ms (F0 m pc ls st0) rest (va_Qd post B A1 a) (vx_X px BX AX) free) (hS : va_S A0 H0 H locs) (hA : ∀ q, q < H.size → A1 q → A0 q) (hf : ∀ q, free q → A0 q) (hAX : ∀ q, q < H.size → AX q → A0 q)
    (kx : ∀ (E : String) (ce : Cell) (q9 : Addr) (u : SX) (t : State) (H1 : Heap) (locs1 : List Loc), t.heap = H1 → s.vm.Alike t.vm → px u → BX E u t → H.size ≤ H1.size → (∀ q : Nat, q < H.size → ¬ AX q → H1[q]? = H[q]?) → va_S A0 H0 H1 locs1 → H1[q9]? = some ce → ce.vm = .none → s.vm.findClass E = some ce.cls → vx_W p l e R s m args below meth c H1 locs1 (cells + mc) (slots + ms) Q (F0 m pc ls rest) q9)
    (kk : ∀ (r : UInt64) (u : S) (t : State) (H1 : Heap) (locs1 : List Loc), t.heap = H1 → s.vm.Alike t.vm → post r u → B u t → H.size ≤ H1.size → (∀ q : Nat, q < H.size → ¬ A1 q → H1[q]? = H[q]?) → va_S A0 H0 H1 locs1 → W p l e R s m args below meth c H1 locs1 (cells + mc) (slots + ms) Q (F0 m (pc + 3) ls (.double r :: rest))) : W p l e R s m args below meth c H locs cells slots Q (F0 m pc ls st0) := by
  intro T hT X
  rcases hr T hT X with ⟨v, st₀, t, T', L, h0, X', hL, e1, e2, ⟨⟨r, u, hv, hp, hb⟩, hF⟩, st⟩ | ⟨q, st₀, t, T', L, E, ce, h0, X', hL, e1, e2, ⟨u, hp, hb, hF⟩, hce, hcv, hcl, st⟩
  · cases hv
    obtain ⟨k1, k2, k3⟩ := vx_keep h0 e1 hS hA hf hL hF
    obtain ⟨t2, a1, b1⟩ := kk r u t T'.heap (locs ++ L) e1.symm (by rw [← e2]; exact X'.warmed.alike) hp hb k1 k2 k3 T' rfl X'
    exact ⟨t2, st t2 a1, b1⟩
  · obtain ⟨k1, k2, k3⟩ := vx_keep h0 e1 hS hAX hf hL hF
    obtain ⟨t2, a1, b1⟩ := kx E ce q u t T'.heap (locs ++ L) e1.symm (by rw [← e2]; exact X'.warmed.alike) hp hb k1 k2 k3 (by rw [e1]; exact hce) hcv hcl T' rfl X'
    exact ⟨t2, st.trans a1, b1⟩
theorem vx_callv {S SX : Type} {post : S → Prop} {px : SX → Prop} {B : S → State → Prop} {BX : String → SX → State → Prop} {AX : Nat → Prop} (hr : vx_Run p l e R s m args below meth c H locs cells slots mc ms (F0 m pc ls st0) rest (va_Qv post B A1 a) (vx_X px BX AX) free) (hS : va_S A0 H0 H locs) (hA : ∀ q, q < H.size → A1 q → A0 q) (hf : ∀ q, free q → A0 q) (hAX : ∀ q, q < H.size → AX q → A0 q)
    (kx : ∀ (E : String) (ce : Cell) (q9 : Addr) (u : SX) (t : State) (H1 : Heap) (locs1 : List Loc), t.heap = H1 → s.vm.Alike t.vm → px u → BX E u t → H.size ≤ H1.size → (∀ q : Nat, q < H.size → ¬ AX q → H1[q]? = H[q]?) → va_S A0 H0 H1 locs1 → H1[q9]? = some ce → ce.vm = .none → s.vm.findClass E = some ce.cls → vx_W p l e R s m args below meth c H1 locs1 (cells + mc) (slots + ms) Q (F0 m pc ls rest) q9)
    (kk : ∀ (u : S) (t : State) (H1 : Heap) (locs1 : List Loc), t.heap = H1 → s.vm.Alike t.vm → post u → B u t → H.size ≤ H1.size → (∀ q : Nat, q < H.size → ¬ A1 q → H1[q]? = H[q]?) → va_S A0 H0 H1 locs1 → W p l e R s m args below meth c H1 locs1 (cells + mc) (slots + ms) Q (F0 m (pc + 3) ls (rest))) : W p l e R s m args below meth c H locs cells slots Q (F0 m pc ls st0) := by
  intro T hT X
  rcases hr T hT X with ⟨v, st₀, t, T', L, h0, X', hL, e1, e2, ⟨⟨u, hv, hp, hb⟩, hF⟩, st⟩ | ⟨q, st₀, t, T', L, E, ce, h0, X', hL, e1, e2, ⟨u, hp, hb, hF⟩, hce, hcv, hcl, st⟩
  · cases hv
    obtain ⟨k1, k2, k3⟩ := vx_keep h0 e1 hS hA hf hL hF
    obtain ⟨t2, a1, b1⟩ := kk u t T'.heap (locs ++ L) e1.symm (by rw [← e2]; exact X'.warmed.alike) hp hb k1 k2 k3 T' rfl X'
    exact ⟨t2, st t2 a1, b1⟩
  · obtain ⟨k1, k2, k3⟩ := vx_keep h0 e1 hS hAX hf hL hF
    obtain ⟨t2, a1, b1⟩ := kx E ce q u t T'.heap (locs ++ L) e1.symm (by rw [← e2]; exact X'.warmed.alike) hp hb k1 k2 k3 (by rw [e1]; exact hce) hcv hcl T' rfl X'
    exact ⟨t2, st.trans a1, b1⟩
/-- caught by the row x of this method's table; the rows ahead don't take it -/
theorem vx_catch {own name : String} {E : String} {ce : Cell} {q : Addr} (hown : s.vm.findClass own = some m.cls) (pre : List ExceptionTableEntry) (x : ExceptionTableEntry) (suf : List ExceptionTableEntry) (hsplit : c.exceptionTable.toList = pre ++ x :: suf)
    (hpass : ∀ z ∈ pre, covers z pc = false ∨ (z.catchType ≠ 0 ∧ ∃ nm : String, (Cond.classLink own z.catchType nm).before args s = true ∧ va_Nc E nm s)) (hx : covers x pc = true) (h0 : x.catchType ≠ 0)
    (hlink : (Cond.classLink own x.catchType name).before args s = true) (hcast : (Cond.castable E name).before args s = true) (hcell : H[q]? = some ce) (hv : ce.vm = .none) (hcl : s.vm.findClass E = some ce.cls)
    (kk : W p l e R s m args below meth c H locs cells slots Q (F0 m x.handlerPc ls [.ref q])) : vx_W p l e R s m args below meth c H locs cells slots Q (F0 m pc ls rest) q := by
  intro T hT X
  have hpl : e.platform.magicAccessors = ({} : Platform).magicAccessors := by rw [X.admits.platform]
  obtain ⟨c3, c4, hc3, hc4, hasg⟩ := Cond.castable_spec hcast
  cases Option.some.inj (hc3.symm.trans hcl)
  obtain ⟨c5, hc5, hcl5⟩ := Cond.classLink_spec hown hlink e.platform hpl
  cases Option.some.inj (hc4.symm.trans hc5)
  obtain ⟨vm', X', st⟩ := X.thenCaughtThrough q (g := F0 m pc ls rest) rfl (Steps.refl _) (by rw [hT]; exact hcell) (by rw [hv]; rfl) (by obtain ⟨k9, h9, -⟩ := Vm.findClass_spec hcl; exact ⟨k9, h9⟩) pre x suf hsplit
    (fun z hz => by
      rcases hpass z hz with h | ⟨hz0, nm, hl1, hn1⟩
      · exact Or.inl h
      · obtain ⟨c6, hc6, hcl6⟩ := Cond.classLink_spec hown hl1 e.platform hpl
        obtain ⟨a8, b8, h1, h2, h3⟩ := hn1
        cases Option.some.inj (h1.symm.trans hcl)
        cases Option.some.inj (h2.symm.trans hc6)
        exact Or.inr ⟨hz0, _, hcl6, h3⟩) hx (Or.inr ⟨h0, c4, hcl5, hasg⟩)
  obtain ⟨t, a1, b1⟩ := kk (T.setVm vm') hT X'
  exact ⟨t, st.trans a1, b1⟩
end Rows
section Ends
variable {p : Program} {l : Launch} {e : Env} {R : Room} {s : State} {m : MethodId} {args : Array Value} {below : List Frame} {meth : Method} {c : Code} {H : Heap} {locs : List Loc} {cells slots : Nat} {Q : State → Prop}
variable {mc ms : Nat} {free : Addr → Prop} {A0 A1 : Nat → Prop} {H0 : Heap} {a : Array Value} {ls : Array Slot} {st0 rest : List Value}
variable {Qc : Array Value → State → Outcome → State → Prop} {XC : String → State → State → Prop}
/-- what a body that may throw owes at its end -/
def vx_MQ (below : List Frame) (Qc : Array Value → State → Outcome → State → Prop) (XC : String → State → State → Prop) (a : Array Value) (s : State) (mc ms : Nat) (free : Addr → Prop) : State → Prop := fun t =>
  ∃ o, t.status = .running ∧ Ended t below o ∧ vx_Q Qc XC mc ms free a s o t
theorem vx_ret {g : JFrame} {mc ms : Nat} (k : W p l e R s m args below meth c H locs cells slots (MQ below Qc args s mc ms free) g) : W p l e R s m args below meth c H locs cells slots (vx_MQ below Qc XC args s mc ms free) g := by
  intro T hT X
  obtain ⟨t, a1, o, b1, b2, b3, b4⟩ := k T hT X
  exact ⟨t, a1, o, b1, b2, Or.inl ⟨b3, b4⟩⟩
/-- not caught here: it goes on to the caller -/
theorem vx_widen {g : JFrame} {q : Addr} {k n : Nat} (h1 : cells ≤ k) (h2 : slots ≤ n) (kk : vx_W p l e R s m args below meth c H locs k n Q g q) : vx_W p l e R s m args below meth c H locs cells slots Q g q := fun T hT X => kk T hT (stand_widen X h1 h2)
theorem vx_out {pc : Nat} {E : String} {ce : Cell} {q : Addr} {mc ms : Nat} (hout : ∀ x ∈ c.exceptionTable.toList, covers x pc = false) (hlocks : meth.locks = false) (hcell : H[q]? = some ce) (hv : ce.vm = .none) (hcl : s.vm.findClass E = some ce.cls)
    (hx : ∀ t : State, t.heap = H → s.vm.Alike t.vm → XC E s t) (hf : ∀ z ∈ locs, free z.base) (hc : cells ≤ mc) (hs : slots ≤ ms) :
    vx_W p l e R s m args below meth c H locs cells slots (vx_MQ below Qc XC args s mc ms free) (F0 m pc ls rest) q := by
  intro T hT X
  obtain ⟨st1, hrun, hend, hW, hsm⟩ := X.leaveThrown q (g := F0 m pc ls rest) rfl rfl rfl hout hlocks
  have hcell9 : (T.setFrames (.throwing q :: below)).heap[q]? = some ce := by
    show T.heap[q]? = some ce
    rw [hT]; exact hcell
  exact ⟨_, st1, .threw q, hrun, hend, Or.inr ⟨q, rfl, E, ce, locs, hx _ hT hW.alike, hcell9, hv, hcl, hW, hsm.mono hc hs, hf⟩⟩
theorem vx_frame {U : State} {k n : Nat} (h : s.sameButNew ({ U with vm := s.vm } : State) locs k n) : s.heap.size ≤ U.heap.size ∧ ∀ q : Nat, q < s.heap.size → (∀ z ∈ locs, z.base ≠ q) → U.heap[q]? = s.heap[q]? := by
  obtain ⟨-, h2, -, -, -, h6⟩ := h
  refine ⟨h2, fun q hq hz => ?_⟩
  obtain ⟨c9, e1, e2, e3, e4⟩ := h6 q _ (Array.getElem?_eq_getElem hq)
  have hs : c9.slots = (s.heap[q]).slots := Array.ext_getElem? fun i => e4 i fun hm => hz _ hm rfl
  have h9 : c9 = s.heap[q] := by
    rw [hs] at e2
    exact e2
  have e5 : U.heap[q]? = some c9 := e1
  rw [e5, h9, Array.getElem?_eq_getElem hq]
/-- the words of a throw but the four that speak of the heap -/
def vx_no (w : Cond) : Bool := decide (w ≠ .isRef (.static Bundle.tN "UNASSIGNED_STACK" Bundle.steD)) && decide (w ≠ .isRef (.static Bundle.tN "SUPPRESSED_SENTINEL" Bundle.listD)) && decide (w ≠ .laysStatic Bundle.tN "UNASSIGNED_STACK" Bundle.steD) && decide (w ≠ .laysStatic Bundle.tN "SUPPRESSED_SENTINEL" Bundle.listD)
def vx_at0 (own : String) (ic : Nat) (X : String) (names : List String) : List Cond := (Bundle.ownAtoms0 own ic X names).filter vx_no
def vx_atS (own : String) (ic : Nat) (X : String) (names : List String) : List Cond := (Bundle.ownAtoms own ic X names).filter vx_no
/-- a word that the tables alone decide, or a good one -/
def vx_ot (w : Cond) : Bool := w.onTables || goodWord w
theorem vx_ot_at {args a' : Array Value} {s U : State} {w : Cond} (hW : s.WarmedH U.vm) (hvm : s.vm = U.vm) (hg : vx_ot w = true) (h : w.before args s = true) : w.before a' U = true := by
  simp only [vx_ot, Bool.or_eq_true] at hg
  rcases hg with hg | hg
  · exact va_tabs hg hvm h
  · exact word_at hW (good_of_word hg) h
/-- a list's words: the good ones out of the method's own list, the others by premises of their own -/
theorem vx_hat {args : Array Value} {s : State} {L B : List Cond} (h1 : ∀ w ∈ L.filter goodWord, w.before args s = true) (h2 : ∀ w ∈ L.filter (fun w => !goodWord w), w ∈ B) (h3 : ∀ w ∈ B, w.before args s = true) : ∀ w ∈ L, w.before args s = true := by
  intro w hw
  by_cases g : goodWord w = true
  · exact h1 w (List.mem_filter.mpr ⟨hw, g⟩)
  · refine h3 w (h2 w (List.mem_filter.mpr ⟨hw, ?_⟩))
    show (!goodWord w) = true
    cases hgw : goodWord w
    · rfl
    · exact absurd hgw g
theorem vx_c {args : Array Value} {s : State} {w : Cond} {B : List Cond} (h : w.before args s = true) (t : ∀ w ∈ B, w.before args s = true) : ∀ w' ∈ w :: B, w'.before args s = true := fun w' h' => (List.mem_cons.mp h').elim (fun e => by rw [e]; exact h) (t w')
theorem vx_n {args : Array Value} {s : State} : ∀ w ∈ ([] : List Cond), w.before args s = true := fun _ h => nomatch h
theorem vx_own {args : Array Value} {s : State} {L : List Cond} (h1 : ∀ w ∈ L.filter vx_no, w.before args s = true)
    (hU : (Cond.isRef (.static Bundle.tN "UNASSIGNED_STACK" Bundle.steD)).before args s = true) (hN : (Cond.isRef (.static Bundle.tN "SUPPRESSED_SENTINEL" Bundle.listD)).before args s = true)
    (lU : (Cond.laysStatic Bundle.tN "UNASSIGNED_STACK" Bundle.steD).before args s = true) (lN : (Cond.laysStatic Bundle.tN "SUPPRESSED_SENTINEL" Bundle.listD).before args s = true) : ∀ w ∈ L, w.before args s = true := by
  intro w hw
  by_cases e1 : w = .isRef (.static Bundle.tN "UNASSIGNED_STACK" Bundle.steD)
  · rw [e1]; exact hU
  · by_cases e2 : w = .isRef (.static Bundle.tN "SUPPRESSED_SENTINEL" Bundle.listD)
    · rw [e2]; exact hN
    · by_cases e3 : w = .laysStatic Bundle.tN "UNASSIGNED_STACK" Bundle.steD
      · rw [e3]; exact lU
      · by_cases e4 : w = .laysStatic Bundle.tN "SUPPRESSED_SENTINEL" Bundle.listD
        · rw [e4]; exact lN
        · exact h1 w (List.mem_filter.mpr ⟨hw, by unfold vx_no; rw [decide_eq_true e1, decide_eq_true e2, decide_eq_true e3, decide_eq_true e4]; rfl⟩)
/-- where a static field lies, its class's statics cell in H -/
def vx_L (C n d : String) (A : Nat → Prop) (U : State) (H : Heap) : Prop := ∃ (c : ClassId) (k : Class) (i : Nat) (f : Field) (a : Nat) (cell : Cell), U.vm.findClass C = some c ∧ U.fieldFound? C n d = some (c, k, i, f) ∧ f.isStatic = true ∧ k.statics = some a ∧ H[a]? = some cell ∧ cell.vm.isStatics = true ∧ cell.cls = c ∧ f.slot < cell.slots.size ∧ k.staticTypes[f.slot]? = some f.type ∧ ¬ A a
theorem vx_L.moved {C n d : String} {A : Nat → Prop} {u U : State} {H : Heap} (hvm : u.vm.Alike U.vm) (h : vx_L C n d A u H) : vx_L C n d A U H := by
  obtain ⟨c, k, i, f, a, cell, h1, h2, h3, h4, h5, h6, h7, h8, h9, h10⟩ := h
  obtain ⟨k', hi', he⟩ := State.fieldFound?_setVm hvm h2
  exact ⟨c, k', i, f, a, cell, by rw [hvm.findClass]; exact h1, hi', h3, by rw [he]; exact h4, h5, h6, h7, h8, by rw [he]; exact h9, h10⟩
theorem vx_L.kept {C n d : String} {A : Nat → Prop} {U : State} {H H1 : Heap} (h : vx_L C n d A U H) (hq : ∀ a : Nat, a < H.size → ¬ A a → H1[a]? = H[a]?) : vx_L C n d A U H1 := by
  obtain ⟨c, k, i, f, a, cell, h1, h2, h3, h4, h5, h6, h7, h8, h9, h10⟩ := h
  exact ⟨c, k, i, f, a, cell, h1, h2, h3, h4, by rw [hq a (Array.getElem?_eq_some_iff.mp h5).1 h10]; exact h5, h6, h7, h8, h9, h10⟩
theorem vx_L.narrow {C n d : String} {A B : Nat → Prop} {U : State} {H : Heap} (h : vx_L C n d A U H) (hAB : ∀ q, B q → A q) : vx_L C n d B U H := by
  obtain ⟨c, k, i, f, a, cell, h1, h2, h3, h4, h5, h6, h7, h8, h9, h10⟩ := h
  exact ⟨c, k, i, f, a, cell, h1, h2, h3, h4, h5, h6, h7, h8, h9, fun z => h10 (hAB _ z)⟩
theorem vx_L.word {C n d : String} {A : Nat → Prop} {s : State} {args : Array Value} (h : vx_L C n d A s s.heap) : (Cond.laysStatic C n d).before args s = true := by
  obtain ⟨c, k, i, f, a, cell, h1, h2, h3, h4, h5, h6, h7, h8, h9, -⟩ := h
  show (Cond.laysStatic C n d).holds args s none s [] = true
  exact Cond.laysStatic_of h1 h2 h3 h4 h5 h6 h7 h8 h9
/-- .. and what it holds: null or some reference -/
def vx_Zq (C n d : String) (A : Nat → Prop) (U : State) (H : Heap) : Prop := va_Zq C n d A U H ∧ vx_L C n d A U H
theorem vx_Zq.moved {C n d : String} {A : Nat → Prop} {u U : State} {H : Heap} (hvm : u.vm.Alike U.vm) (h : vx_Zq C n d A u H) : vx_Zq C n d A U H := ⟨va_Zq.moved hvm h.1, vx_L.moved hvm h.2⟩
theorem vx_Zq.kept {C n d : String} {A : Nat → Prop} {U : State} {H H1 : Heap} (h : vx_Zq C n d A U H) (hq : ∀ a : Nat, a < H.size → ¬ A a → H1[a]? = H[a]?) : vx_Zq C n d A U H1 := ⟨va_Zq.kept h.1 hq, vx_L.kept h.2 hq⟩
theorem vx_Zq.narrow {C n d : String} {A B : Nat → Prop} {U : State} {H : Heap} (h : vx_Zq C n d A U H) (hAB : ∀ q, B q → A q) : vx_Zq C n d B U H := ⟨va_Zq.narrow h.1 hAB, vx_L.narrow h.2 hAB⟩
theorem vx_Zqof {args : Array Value} {s : State} {C n d : String} {A : Nat → Prop} (hl : (Cond.laysStatic C n d).before args s = true) (hini : (Cond.initialized C).before args s = true) (h : (Cond.isRef (.static C n d)).before args s = true) (hA : ∀ a : Nat, a < s.heap.size → ¬ A a) : vx_Zq C n d A s s.heap := by
  refine ⟨va_Zqof hl hini h hA, ?_⟩
  obtain ⟨c, k, i, f, a, cell, h1, h2, h3, h4, h5, h6, h7, h8, h9⟩ := Cond.laysStatic_spec hl
  exact ⟨c, k, i, f, a, cell, h1, h2, h3, h4, h5, h6, h7, h8, h9, hA a (Array.getElem?_eq_some_iff.mp h5).1⟩
theorem vx_isRef {C n d : String} {v : Value} {A : Nat → Prop} {s : State} {args : Array Value} (h : va_Z C n d v A s s.heap) (hv : v.isRef = true) : (Cond.isRef (.static C n d)).before args s = true := by
  obtain ⟨cf, kf, fi, f, a, cell, h1, h2, h3, h4, h5, h6, h7, -⟩ := h
  have he : (Term.static C n d).eval args s none [] s = some v := by
    simp [Term.eval, State.fieldNamed?, h1, h2, h4, h5, h6, h7]
  simp only [Cond.before, Cond.holds, Cond.value, he]
  cases v <;> simp_all [Value.isRef]
theorem vx_isRefq {C n d : String} {A : Nat → Prop} {s : State} {args : Array Value} (h : va_Zq C n d A s s.heap) : (Cond.isRef (.static C n d)).before args s = true := by
  rcases h with h | ⟨t, h⟩
  · exact vx_isRef h rfl
  · exact vx_isRef h rfl
/-- the same frame, seen from here: as if the method were called anew in this heap -/
theorem vx_rebase {T : State} (X : Stand p l e R s m args below meth c T locs cells slots) {R' : Room} (hf : R'.frames ≤ R.frames) (hl : R'.locals ≤ R.locals) (hc : cells + R'.cells ≤ R.cells) (hs : slots + R'.slots ≤ R.slots) :
    Stand p l e R' ((T.setVm s.vm).setFrames (.invoking m args :: below)) m args below meth c T [] 0 0 := by
  have htop : (T.setVm s.vm).topJava?.isSome := X.here.top
  have hF : ((T.setVm s.vm).setFrames (.invoking m args :: below)).frames = .invoking m args :: below := State.frames_setFrames _ (State.cur_lt_of_top htop)
  obtain ⟨g₀, hg0⟩ := Option.isSome_iff_exists.mp htop
  obtain ⟨r, hr⟩ := State.topJava?_eq_some.mp hg0
  have hl9 : e.platform.stackLimits (T.setVm s.vm).me = e.platform.stackLimits s.me := X.limits
  have hb9 : (T.setVm s.vm).me.stackBytes = s.me.stackBytes := X.bytes
  refine ⟨X.admits, X.cas, X.clock, hF, ?_, X.hears, X.method, X.code, X.here, X.tail, X.warmed, ?_, ?_, ?_⟩
  · have h := X.room
    have hU : ((T.setVm s.vm).setFrames (.invoking m args :: below)).localsInUse = s.localsInUse := by
      rw [State.localsInUse_invoking hF (meth := meth) (c := c) X.method X.code, State.localsInUse_invoking X.frames X.method X.code]
    simp only [State.hasRoom, Bool.and_eq_true, decide_eq_true_eq] at h ⊢
    obtain ⟨⟨⟨⟨h1, h2, h3, h4, h5, h6⟩, h7⟩, h8⟩, h9⟩ := h
    rw [X.frames, List.length_cons] at h2 h3
    have q1 := X.heapSize
    have q2 := X.used
    simp only [hF, hU, List.length_cons, State.stackLimits_setFrames, State.stackBytes_setFrames, hl9, hb9]
    refine ⟨⟨⟨⟨by omega, by omega, by omega, by omega, by omega, h6⟩, ?_⟩, ?_⟩, X.book⟩
    · show T.heap.size + R'.cells ≤ e.platform.maxCells
      omega
    · show T.slotsUsed + R'.slots ≤ e.platform.maxSlots
      omega
  · rw [State.stackLimits_setFrames]; rfl
  · rw [State.stackBytes_setFrames]; rfl
  · refine ⟨?_, Nat.le_refl _, Nat.le_refl _, ?_, ?_, fun a c9 h9 => ⟨c9, h9, rfl, rfl, fun _ _ => rfl⟩⟩
    · obtain ⟨t, ht, -⟩ := State.frames_cons hr
      show T.setVm s.vm = { ((T.setVm s.vm).setFrames (.invoking m args :: below)).setFrames (T.setVm s.vm).frames with heap := T.heap, slotsUsed := T.slotsUsed }
      rw [State.setFrames_setFrames, State.setFrames_self ht]
      rfl
    · show T.slotsUsed = T.slotsUsed + ((T.heap.toList.drop T.heap.size).map (·.slots.size)).sum
      rw [List.drop_eq_nil_of_le (Nat.le_of_eq Array.length_toList)]
      rfl
    · show ((T.heap.toList.drop T.heap.size).map (·.slots.size)).sum ≤ 0
      rw [List.drop_eq_nil_of_le (Nat.le_of_eq Array.length_toList)]
      exact Nat.le_refl _
/-- 'throw new E()': new; dup; invokespecial; athrow -/
theorem vx_throw0 {cc : ByteArray} {pc : Nat} (hexec : p.tables.exec = Jvm.exec) (hb : c.code = cc) (hl : l.stackTraces = false) {own cls : String} {names : List String} {ik ic mc ms : Nat} {A : Nat → Prop}
    (hown : s.vm.findClass own = some m.cls) (hcls : Bundle.fit cls = true) (hnames : ∀ n ∈ names, Bundle.fit n = true)
    (hk : (Cond.classLink own ik cls).before args s = true) (hini : (Cond.initialized cls).before args s = true) (hat : ∀ w ∈ vx_at0 own ic cls names, w.before args s = true)
    (hgood : ∀ w ∈ Cond.classLink own ik cls :: Cond.initialized cls :: vx_at0 own ic cls names, vx_ot w = true)
    (hU : vx_Zq Bundle.tN "UNASSIGNED_STACK" Bundle.steD A s s.heap) (hN : vx_Zq Bundle.tN "SUPPRESSED_SENTINEL" Bundle.listD A s s.heap) (hS : va_S A s.heap H locs) (hsize : ls.size = c.maxLocals)
    (d0 : decode cc pc = .ok (.new ik, 3)) (d3 : decode cc (pc + 3) = .ok (.dup, 1)) (d4 : decode cc (pc + 4) = .ok (.invokespecial ic, 3)) (d7 : decode cc (pc + 7) = .ok (.athrow, 1))
    (hout : ∀ x ∈ c.exceptionTable.toList, covers x (pc + 7) = false)
    (hRframes : names.length + 3 < R.frames) (hRlocals : (rest.map fun v => v.category).sum + (13 * (names.length + 1) + 42) ≤ R.locals) (hRcells : cells + 1 ≤ R.cells) (hRslots : slots + 6 ≤ R.slots) (hlocks : meth.locks = false)
    (hx : ∀ t : State, s.vm.Alike t.vm → H.size ≤ t.heap.size → (∀ q : Nat, q < H.size → t.heap[q]? = H[q]?) → XC cls s t)
    (hf : ∀ z ∈ locs, free z.base) (hc : cells + 1 ≤ mc) (hs : slots + 6 ≤ ms) :
    W p l e R s m args below meth c H locs cells slots (vx_MQ below Qc XC args s mc ms free) (F0 m pc ls rest) := by
  intro T hT X
  have htr : e.platform.stackTraces = false := (show e.platform.stackTraces = l.stackTraces by rw [X.admits.platform]).trans hl
  have Y := vx_rebase X (R' := { frames := R.frames, locals := R.locals, cells := 1, slots := 6 }) (Nat.le_refl _) (Nat.le_refl _) hRcells hRslots
  obtain ⟨s', hA⟩ : ∃ z, z = (T.setVm s.vm).setFrames (.invoking m args :: below) := ⟨_, rfl⟩
  rw [← hA] at Y
  have hvm : s'.vm = s.vm := by rw [hA]; rfl
  have hhp : s'.heap = H := by rw [hA]; exact hT
  have hW0 : s.WarmedH s'.vm := by rw [hvm]; exact State.WarmedH.refl s
  have hat' : ∀ w ∈ vx_at0 own ic cls names, w.before args s' = true := fun w hw => vx_ot_at hW0 hvm.symm (hgood w (List.mem_cons_of_mem _ (List.mem_cons_of_mem _ hw))) (hat w hw)
  have hk' : (Cond.classLink own ik cls).before args s' = true := vx_ot_at hW0 hvm.symm (hgood _ List.mem_cons_self) hk
  have hini' : (Cond.initialized cls).before args s' = true := vx_ot_at hW0 hvm.symm (hgood _ (List.mem_cons_of_mem _ List.mem_cons_self)) hini
  have hU' : vx_Zq Bundle.tN "UNASSIGNED_STACK" Bundle.steD A s' s'.heap := by rw [hhp]; exact vx_Zq.moved hW0.alike (hU.kept hS.2.1)
  have hN' : vx_Zq Bundle.tN "SUPPRESSED_SENTINEL" Bundle.listD A s' s'.heap := by rw [hhp]; exact vx_Zq.moved hW0.alike (hN.kept hS.2.1)
  have h : ∀ w ∈ Bundle.ownAtoms0 own ic cls names, w.before args s' = true := vx_own hat' (vx_isRefq hU'.1) (vx_isRefq hN'.1) hU'.2.word hN'.2.word
  have hown' : s'.vm.findClass own = some m.cls := by rw [hvm]; exact hown
  have hins : (Cond.instantiable cls 6).before args s' = true := h _ (by simp [Bundle.ownAtoms0])
  obtain ⟨vm₁, cX, kX, hfX, hkX, -, -, X₁, st1⟩ := Y.newCold hexec (own := own) (C := cls) (index := ik) (n := 6) hown' hk' hins hini'
    (g := F0 m pc ls rest) rfl (by rw [hb]; exact d0) (Nat.le_refl _) (Nat.le_refl _)
  generalize hT1 : (T.setVm vm₁).pushCell { cls := cX, slots := kX.instanceTypes.map defaultValue, vm := .none } = T1 at X₁ st1
  have hcat : (Value.ref T.heap.size).category = 1 := rfl
  have hcellA : T1.heap[T.heap.size]? = some (freshCell cX kX) := by rw [← hT1]; exact State.heap_pushCell_size _ _
  have d3' : decode c.code (pc + 3) = .ok (.dup, 1) := by rw [hb]; exact d3
  obtain ⟨U, hsteps, hrun, hend, hW, hsame, ce, hce, hO⟩ := X₁.ctorThrow0 hexec htr (own := own) (cls := cls) (names := names) (ic := ic) hown' hcls hnames h (fun x hx => nomatch hx) hfX hkX hcellA (by rw [hhp, hT]; exact Nat.le_refl _)
    (g := { method := m, pc := pc + 4, locals := ls, stack := .ref T.heap.size :: .ref T.heap.size :: rest, locked := none }) rfl hsize rfl rfl (rest := rest) rfl
    (by rw [hb]; exact d4) (by rw [hb]; exact d7) hout hRframes (by simp only [List.map_cons, List.sum_cons, hcat]; omega) hlocks
  obtain ⟨f1, f2⟩ := vx_frame hsame
  rw [hhp] at f1 f2
  have hWs : s.WarmedH U.vm := State.WarmedH.trans hW0 hW
  have hcl : s.vm.findClass cls = some ce.cls := by
    have h9 := hO.cls
    rw [hvm] at h9
    exact h9
  have hall : s.sameButNew ({ U with vm := s.vm } : State) locs mc ms := by
    subst hA
    obtain ⟨e1, e2⟩ := hsame
    rw [State.setFrames_setFrames] at e1
    have h2 : (T.setVm s.vm).sameButNew ({ U with vm := s.vm } : State) [] (0 + 1) (0 + 6) := ⟨e1, e2⟩
    have h3 := X.same.trans h2
    rw [List.append_nil] at h3
    exact h3.mono hc hs
  refine ⟨U, ?_, .threw T.heap.size, hrun, hend, Or.inr ⟨T.heap.size, rfl, cls, ce, locs, hx U hWs.alike f1 (fun q hq => f2 q hq (fun z hz => nomatch hz)), hce, hO.vm, hcl, hWs, hall, hf⟩⟩
  refine st1 _ ?_
  show Steps p.tables e below (T1.setTop { method := m, pc := pc + 3, locals := ls, stack := .ref T.heap.size :: rest, locked := none }) _
  jvm_step X₁.here [X₁.here.top, hexec, d3', Value.category]
  exact hsteps
/-- 'throw new E("text")': new; dup; ldc; invokespecial; athrow -/
theorem vx_throwS {cc : ByteArray} {pc : Nat} (hexec : p.tables.exec = Jvm.exec) (hb : c.code = cc) (hl : l.stackTraces = false) {own cls text : String} {names : List String} {ik is ic mc ms sa : Nat} {A : Nat → Prop}
    (hown : s.vm.findClass own = some m.cls) (hcls : Bundle.fit cls = true) (hnames : ∀ n ∈ names, Bundle.fit n = true)
    (hk : (Cond.classLink own ik cls).before args s = true) (hini : (Cond.initialized cls).before args s = true) (hstr : vk_R own is text sa s) (hat : ∀ w ∈ vx_atS own ic cls names, w.before args s = true)
    (hgood : ∀ w ∈ Cond.classLink own ik cls :: Cond.initialized cls :: vx_atS own ic cls names, vx_ot w = true)
    (hU : vx_Zq Bundle.tN "UNASSIGNED_STACK" Bundle.steD A s s.heap) (hN : vx_Zq Bundle.tN "SUPPRESSED_SENTINEL" Bundle.listD A s s.heap) (hS : va_S A s.heap H locs) (hsize : ls.size = c.maxLocals)
    (d0 : decode cc pc = .ok (.new ik, 3)) (d3 : decode cc (pc + 3) = .ok (.dup, 1)) (d4 : decode cc (pc + 4) = .ok (.ldc is, 2)) (d6 : decode cc (pc + 6) = .ok (.invokespecial ic, 3)) (d9 : decode cc (pc + 9) = .ok (.athrow, 1))
    (hout : ∀ x ∈ c.exceptionTable.toList, covers x (pc + 9) = false)
    (hRframes : names.length + 3 < R.frames) (hRlocals : (rest.map fun v => v.category).sum + (13 * (names.length + 1) + 43) ≤ R.locals) (hRcells : cells + 1 ≤ R.cells) (hRslots : slots + 6 ≤ R.slots) (hlocks : meth.locks = false)
    (hx : ∀ t : State, s.vm.Alike t.vm → H.size ≤ t.heap.size → (∀ q : Nat, q < H.size → t.heap[q]? = H[q]?) → XC cls s t)
    (hf : ∀ z ∈ locs, free z.base) (hc : cells + 1 ≤ mc) (hs : slots + 6 ≤ ms) :
    W p l e R s m args below meth c H locs cells slots (vx_MQ below Qc XC args s mc ms free) (F0 m pc ls rest) := by
  intro T hT X
  have htr : e.platform.stackTraces = false := (show e.platform.stackTraces = l.stackTraces by rw [X.admits.platform]).trans hl
  have Y := vx_rebase X (R' := { frames := R.frames, locals := R.locals, cells := 1, slots := 6 }) (Nat.le_refl _) (Nat.le_refl _) hRcells hRslots
  obtain ⟨s', hA⟩ : ∃ z, z = (T.setVm s.vm).setFrames (.invoking m args :: below) := ⟨_, rfl⟩
  rw [← hA] at Y
  have hvm : s'.vm = s.vm := by rw [hA]; rfl
  have hhp : s'.heap = H := by rw [hA]; exact hT
  have hW0 : s.WarmedH s'.vm := by rw [hvm]; exact State.WarmedH.refl s
  have hat' : ∀ w ∈ vx_atS own ic cls names, w.before args s' = true := fun w hw => vx_ot_at hW0 hvm.symm (hgood w (List.mem_cons_of_mem _ (List.mem_cons_of_mem _ hw))) (hat w hw)
  have hk' : (Cond.classLink own ik cls).before args s' = true := vx_ot_at hW0 hvm.symm (hgood _ List.mem_cons_self) hk
  have hini' : (Cond.initialized cls).before args s' = true := vx_ot_at hW0 hvm.symm (hgood _ (List.mem_cons_of_mem _ List.mem_cons_self)) hini
  have hU' : vx_Zq Bundle.tN "UNASSIGNED_STACK" Bundle.steD A s' s'.heap := by rw [hhp]; exact vx_Zq.moved hW0.alike (hU.kept hS.2.1)
  have hN' : vx_Zq Bundle.tN "SUPPRESSED_SENTINEL" Bundle.listD A s' s'.heap := by rw [hhp]; exact vx_Zq.moved hW0.alike (hN.kept hS.2.1)
  have h : ∀ w ∈ Bundle.ownAtoms own ic cls names, w.before args s' = true := vx_own hat' (vx_isRefq hU'.1) (vx_isRefq hN'.1) hU'.2.word hN'.2.word
  have hown' : s'.vm.findClass own = some m.cls := by rw [hvm]; exact hown
  have hins : (Cond.instantiable cls 6).before args s' = true := h _ (by simp [Bundle.ownAtoms])
  obtain ⟨vm₁, cX, kX, hfX, hkX, -, -, X₁, st1⟩ := Y.newCold hexec (own := own) (C := cls) (index := ik) (n := 6) hown' hk' hins hini'
    (g := F0 m pc ls rest) rfl (by rw [hb]; exact d0) (Nat.le_refl _) (Nat.le_refl _)
  generalize hT1 : (T.setVm vm₁).pushCell { cls := cX, slots := kX.instanceTypes.map defaultValue, vm := .none } = T1 at X₁ st1
  have hcat : (Value.ref T.heap.size).category = 1 := rfl
  have hcellA : T1.heap[T.heap.size]? = some (freshCell cX kX) := by rw [← hT1]; exact State.heap_pushCell_size _ _
  have d3' : decode c.code (pc + 3) = .ok (.dup, 1) := by rw [hb]; exact d3
  have d4' : decode c.code (pc + 4) = .ok (.ldc is, 2) := by rw [hb]; exact d4
  have hstr' : vk_R own is text sa s' := vk_R.warm hW0 hstr
  obtain ⟨U, hsteps, hrun, hend, hW, hsame, ce, hce, hO⟩ := X₁.ctorThrowS hexec htr (own := own) (cls := cls) (names := names) (ic := ic) hown' hcls hnames h (fun x hx => nomatch hx) hfX hkX hcellA (by rw [hhp, hT]; exact Nat.le_refl _) (msg := .ref sa) rfl
    (g := { method := m, pc := pc + 6, locals := ls, stack := .ref sa :: .ref T.heap.size :: .ref T.heap.size :: rest, locked := none }) rfl hsize rfl rfl (rest := rest) rfl
    (by rw [hb]; exact d6) (by rw [hb]; exact d9) hout hRframes (by simp only [List.map_cons, List.sum_cons, hcat]; omega) hlocks
  obtain ⟨f1, f2⟩ := vx_frame hsame
  rw [hhp] at f1 f2
  have hWs : s.WarmedH U.vm := State.WarmedH.trans hW0 hW
  have hcl : s.vm.findClass cls = some ce.cls := by
    have h9 := hO.cls
    rw [hvm] at h9
    exact h9
  have hall : s.sameButNew ({ U with vm := s.vm } : State) locs mc ms := by
    subst hA
    obtain ⟨e1, e2⟩ := hsame
    rw [State.setFrames_setFrames] at e1
    have h2 : (T.setVm s.vm).sameButNew ({ U with vm := s.vm } : State) [] (0 + 1) (0 + 6) := ⟨e1, e2⟩
    have h3 := X.same.trans h2
    rw [List.append_nil] at h3
    exact h3.mono hc hs
  refine ⟨U, ?_, .threw T.heap.size, hrun, hend, Or.inr ⟨T.heap.size, rfl, cls, ce, locs, hx U hWs.alike f1 (fun q hq => f2 q hq (fun z hz => nomatch hz)), hce, hO.vm, hcl, hWs, hall, hf⟩⟩
  refine st1 _ ?_
  show Steps p.tables e below (T1.setTop { method := m, pc := pc + 3, locals := ls, stack := .ref T.heap.size :: rest, locked := none }) _
  jvm_step X₁.here [X₁.here.top, hexec, d3', Value.category]
  exact X₁.ldcString hexec (own := own) (text := text) (index := is) (a := sa) hown' hstr'.1 hstr'.2
    (g := { method := m, pc := pc + 4, locals := ls, stack := .ref T.heap.size :: .ref T.heap.size :: rest, locked := none }) rfl d4' _ hsteps
/-- 'throw new E("text")', the text by a wide index -/
theorem vx_throwSW {cc : ByteArray} {pc : Nat} (hexec : p.tables.exec = Jvm.exec) (hb : c.code = cc) (hl : l.stackTraces = false) {own cls text : String} {names : List String} {ik is ic mc ms sa : Nat} {A : Nat → Prop}
    (hown : s.vm.findClass own = some m.cls) (hcls : Bundle.fit cls = true) (hnames : ∀ n ∈ names, Bundle.fit n = true)
    (hk : (Cond.classLink own ik cls).before args s = true) (hini : (Cond.initialized cls).before args s = true) (hstr : vk_R own is text sa s) (hat : ∀ w ∈ vx_atS own ic cls names, w.before args s = true)
    (hgood : ∀ w ∈ Cond.classLink own ik cls :: Cond.initialized cls :: vx_atS own ic cls names, vx_ot w = true)
    (hU : vx_Zq Bundle.tN "UNASSIGNED_STACK" Bundle.steD A s s.heap) (hN : vx_Zq Bundle.tN "SUPPRESSED_SENTINEL" Bundle.listD A s s.heap) (hS : va_S A s.heap H locs) (hsize : ls.size = c.maxLocals)
    (d0 : decode cc pc = .ok (.new ik, 3)) (d3 : decode cc (pc + 3) = .ok (.dup, 1)) (d4 : decode cc (pc + 4) = .ok (.ldc_w is, 3)) (d7 : decode cc (pc + 7) = .ok (.invokespecial ic, 3)) (d10 : decode cc (pc + 10) = .ok (.athrow, 1))
    (hout : ∀ x ∈ c.exceptionTable.toList, covers x (pc + 10) = false)
    (hRframes : names.length + 3 < R.frames) (hRlocals : (rest.map fun v => v.category).sum + (13 * (names.length + 1) + 43) ≤ R.locals) (hRcells : cells + 1 ≤ R.cells) (hRslots : slots + 6 ≤ R.slots) (hlocks : meth.locks = false)
    (hx : ∀ t : State, s.vm.Alike t.vm → H.size ≤ t.heap.size → (∀ q : Nat, q < H.size → t.heap[q]? = H[q]?) → XC cls s t)
    (hf : ∀ z ∈ locs, free z.base) (hc : cells + 1 ≤ mc) (hs : slots + 6 ≤ ms) :
    W p l e R s m args below meth c H locs cells slots (vx_MQ below Qc XC args s mc ms free) (F0 m pc ls rest) := by
  intro T hT X
  have htr : e.platform.stackTraces = false := (show e.platform.stackTraces = l.stackTraces by rw [X.admits.platform]).trans hl
  have Y := vx_rebase X (R' := { frames := R.frames, locals := R.locals, cells := 1, slots := 6 }) (Nat.le_refl _) (Nat.le_refl _) hRcells hRslots
  obtain ⟨s', hA⟩ : ∃ z, z = (T.setVm s.vm).setFrames (.invoking m args :: below) := ⟨_, rfl⟩
  rw [← hA] at Y
  have hvm : s'.vm = s.vm := by rw [hA]; rfl
  have hhp : s'.heap = H := by rw [hA]; exact hT
  have hW0 : s.WarmedH s'.vm := by rw [hvm]; exact State.WarmedH.refl s
  have hat' : ∀ w ∈ vx_atS own ic cls names, w.before args s' = true := fun w hw => vx_ot_at hW0 hvm.symm (hgood w (List.mem_cons_of_mem _ (List.mem_cons_of_mem _ hw))) (hat w hw)
  have hk' : (Cond.classLink own ik cls).before args s' = true := vx_ot_at hW0 hvm.symm (hgood _ List.mem_cons_self) hk
  have hini' : (Cond.initialized cls).before args s' = true := vx_ot_at hW0 hvm.symm (hgood _ (List.mem_cons_of_mem _ List.mem_cons_self)) hini
  have hU' : vx_Zq Bundle.tN "UNASSIGNED_STACK" Bundle.steD A s' s'.heap := by rw [hhp]; exact vx_Zq.moved hW0.alike (hU.kept hS.2.1)
  have hN' : vx_Zq Bundle.tN "SUPPRESSED_SENTINEL" Bundle.listD A s' s'.heap := by rw [hhp]; exact vx_Zq.moved hW0.alike (hN.kept hS.2.1)
  have h : ∀ w ∈ Bundle.ownAtoms own ic cls names, w.before args s' = true := vx_own hat' (vx_isRefq hU'.1) (vx_isRefq hN'.1) hU'.2.word hN'.2.word
  have hown' : s'.vm.findClass own = some m.cls := by rw [hvm]; exact hown
  have hins : (Cond.instantiable cls 6).before args s' = true := h _ (by simp [Bundle.ownAtoms])
  obtain ⟨vm₁, cX, kX, hfX, hkX, -, -, X₁, st1⟩ := Y.newCold hexec (own := own) (C := cls) (index := ik) (n := 6) hown' hk' hins hini'
    (g := F0 m pc ls rest) rfl (by rw [hb]; exact d0) (Nat.le_refl _) (Nat.le_refl _)
  generalize hT1 : (T.setVm vm₁).pushCell { cls := cX, slots := kX.instanceTypes.map defaultValue, vm := .none } = T1 at X₁ st1
  have hcat : (Value.ref T.heap.size).category = 1 := rfl
  have hcellA : T1.heap[T.heap.size]? = some (freshCell cX kX) := by rw [← hT1]; exact State.heap_pushCell_size _ _
  have d3' : decode c.code (pc + 3) = .ok (.dup, 1) := by rw [hb]; exact d3
  have d4' : decode c.code (pc + 4) = .ok (.ldc_w is, 3) := by rw [hb]; exact d4
  have hstr' : vk_R own is text sa s' := vk_R.warm hW0 hstr
  obtain ⟨U, hsteps, hrun, hend, hW, hsame, ce, hce, hO⟩ := X₁.ctorThrowS hexec htr (own := own) (cls := cls) (names := names) (ic := ic) hown' hcls hnames h (fun x hx => nomatch hx) hfX hkX hcellA (by rw [hhp, hT]; exact Nat.le_refl _) (msg := .ref sa) rfl
    (g := { method := m, pc := pc + 7, locals := ls, stack := .ref sa :: .ref T.heap.size :: .ref T.heap.size :: rest, locked := none }) rfl hsize rfl rfl (rest := rest) rfl
    (by rw [hb]; exact d7) (by rw [hb]; exact d10) hout hRframes (by simp only [List.map_cons, List.sum_cons, hcat]; omega) hlocks
  obtain ⟨f1, f2⟩ := vx_frame hsame
  rw [hhp] at f1 f2
  have hWs : s.WarmedH U.vm := State.WarmedH.trans hW0 hW
  have hcl : s.vm.findClass cls = some ce.cls := by
    have h9 := hO.cls
    rw [hvm] at h9
    exact h9
  have hall : s.sameButNew ({ U with vm := s.vm } : State) locs mc ms := by
    subst hA
    obtain ⟨e1, e2⟩ := hsame
    rw [State.setFrames_setFrames] at e1
    have h2 : (T.setVm s.vm).sameButNew ({ U with vm := s.vm } : State) [] (0 + 1) (0 + 6) := ⟨e1, e2⟩
    have h3 := X.same.trans h2
    rw [List.append_nil] at h3
    exact h3.mono hc hs
  refine ⟨U, ?_, .threw T.heap.size, hrun, hend, Or.inr ⟨T.heap.size, rfl, cls, ce, locs, hx U hWs.alike f1 (fun q hq => f2 q hq (fun z hz => nomatch hz)), hce, hO.vm, hcl, hWs, hall, hf⟩⟩
  refine st1 _ ?_
  show Steps p.tables e below (T1.setTop { method := m, pc := pc + 3, locals := ls, stack := .ref T.heap.size :: rest, locked := none }) _
  jvm_step X₁.here [X₁.here.top, hexec, d3', Value.category]
  exact X₁.ldcStringW hexec (own := own) (text := text) (index := is) (a := sa) hown' hstr'.1 hstr'.2
    (g := { method := m, pc := pc + 4, locals := ls, stack := .ref T.heap.size :: .ref T.heap.size :: rest, locked := none }) rfl d4' _ hsteps
end Ends
section Bodies
variable {l : Launch}
theorem vx_ofW {y : MethodName} {ws ws' : List Cond} {rm : Room} {Pc : Array Value → State → Prop} {Qc : Array Value → State → Outcome → State → Prop} {XC : String → State → State → Prop} {mc ms : Nat} {free : Addr → Prop} {cc : ByteArray} {maxL : Nat} {ret : Option FieldType}
    (hy : plainName y.cls = true) (hw : ws = Cond.code y cc maxL ret :: ws')
    (body : ∀ p e s m args below meth c s₁, BodyLoose p l y (headSpec ws rm) cc maxL ret e s m args below meth c s₁ → c.maxLocals = maxL → (∀ x ∈ c.exceptionTable.toList, False) → Pc args s →
      W p l e (headSpec ws rm).room s m args below meth c s.heap [] 0 0 (vx_MQ below Qc XC args s mc ms free) (entryFrame m args maxL)) : vx_Met l y ws rm Pc Qc XC mc ms free := by
  refine MetFree.of_bodyS (code := cc) (maxLocals := maxL) (ret := ret) hy ?_ ?_
  · intro args s m h hn
    obtain ⟨meth, c, h1, h2, h3, h4, h5, h6, -, -⟩ := Cond.code_spec hn (atoms_spec (ws := ws) h _ (by rw [hw]; exact List.mem_cons_self))
    exact ⟨meth, c, h1, h2, h3, h4, h5, h6⟩
  · intro p e s m args below meth c s₁ B hml hP _
    have hh0 : s₁.heap = s.heap := by rw [B.state]; rfl
    have ht : ∀ x ∈ c.exceptionTable.toList, False := by
      obtain ⟨meth9, c9, h1, h2, -, -, -, -, h7, -⟩ := Cond.code_spec B.named (atoms_spec (ws := ws) B.pre _ (by rw [hw]; exact List.mem_cons_self))
      cases Option.some.inj (h1.symm.trans B.method)
      cases Option.some.inj (h2.symm.trans (Stand.of_body B).code)
      intro x hx
      rw [Array.isEmpty_iff.mp h7] at hx
      cases hx
    obtain ⟨t, a1, o, b1, b2, b3⟩ := body p e s m args below meth c s₁ B hml ht hP s₁ hh0 (Stand.of_body B)
    exact ⟨t, o, a1, b1, b2, b3⟩
/-- the table of a body with handlers -/
theorem vx_table {p : Program} {x y : MethodName} {S : Spec} {cc bytes : ByteArray} {maxL maxL' : Nat} {ret ret' : Option FieldType} {e : Env} {s s₁ : State} {m : MethodId} {args : Array Value} {below : List Frame} {meth : Method} {c : Code} {hh : List (Nat × Nat × Nat × Nat)}
    (B : BodyLoose p l y S cc maxL ret e s m args below meth c s₁) (h : (Cond.codeWith y bytes maxL' ret' hh).before args s = true) : c.exceptionTable.toList = tableOf hh := by
  obtain ⟨m9, meth9, c9, hn9, h1, h2, -, -, h6, -⟩ := Cond.codeWith_spec h
  cases Option.some.inj (hn9.symm.trans B.named)
  cases Option.some.inj (h1.symm.trans B.method)
  cases Option.some.inj (h2.symm.trans (Stand.of_body B).code)
  rw [← h6, table_eq]
end Bodies
end VXA
/-! ===== END ===== -/
/-! ===== BEGIN a static call of a method with an exception table ===== -/
section VXS
variable {p : Program} {l : Launch} {e : Env} {R : Room} {s : State} {m : MethodId} {args : Array Value} {below : List Frame} {meth : Method} {c : Code} {T : State} {H : Heap} {locs : List Loc} {cells slots : Nat}
abbrev vx_CSW (R : Room) (s : State) (args : Array Value) (own : String) (index : Nat) (y : MethodName) (bytes : ByteArray) (maxL : Nat) (ret : Option FieldType) (hh : List (Nat × Nat × Nat × Nat)) (ws : List Cond) (rm : Room) (mc ms n : Nat) : Prop :=
  (rm.cells = mc ∧ rm.slots = ms ∧ rm.frames + 1 ≤ R.frames ∧ 8 + (maxL + 11) + rm.locals ≤ R.locals ∧ (∀ w ∈ ws, ∀ (a' : Array Value) (U : State), s.WarmedH U.vm → w.before a' U = true) ∧ Cond.codeWith y bytes maxL ret hh ∈ ws) ∧
  (Cond.codeWith y bytes maxL ret hh).before args s = true ∧ (Cond.initialized y.cls).before args s = true ∧ (y.cls ≠ "java/lang/invoke/MethodHandle" ∧ y.cls ≠ "java/lang/invoke/VarHandle") ∧
  (∀ sig, parseMethodDescriptor y.desc = some sig → n = sig.parameters.length) ∧ (Cond.methodLink own index y).before args s = true ∧ (Cond.static y).before args s = true
theorem vx_cwSW {own : String} {index maxL mc ms : Nat} {y : MethodName} {bytes : ByteArray} {ret : Option FieldType} {hh : List (Nat × Nat × Nat × Nat)} {Ts ws ws' : List Cond} {rm : Room} (n : Nat) (ht : ∀ w ∈ Ts, w.before args s = true) (hT : GoodIn Ts (va_wsS own index y ws)) (hw : ws = Cond.codeWith y bytes maxL ret hh :: ws') (hrc : rm.cells = mc) (hrs : rm.slots = ms)
    (hd : y.cls ≠ "java/lang/invoke/MethodHandle" ∧ y.cls ≠ "java/lang/invoke/VarHandle" ∧ (parseMethodDescriptor y.desc).map (fun d => d.parameters.length) = some n) (hR : rm.frames + 1 ≤ R.frames ∧ 8 + (maxL + 11) + rm.locals ≤ R.locals) :
    vx_CSW R s args own index y bytes maxL ret hh ws rm mc ms n := by
  have ok : ∀ w ∈ va_wsS own index y ws, w.before args s = true := fun w h => ht w (hT w h).1
  have hG : GoodIn Ts ws := fun w h => hT w (by unfold va_wsS; exact List.mem_append_right _ h)
  have hc : Cond.codeWith y bytes maxL ret hh ∈ ws := by rw [hw]; exact List.mem_cons_self
  refine ⟨⟨hrc, hrs, hR.1, hR.2, pay_in ht hG, hc⟩, ht _ (hG _ hc).1, ok _ (by simp [va_wsS]), ⟨hd.1, hd.2.1⟩, fun sig h => ?_, ok _ (by simp [va_wsS]), ok _ (by simp [va_wsS])⟩
  have h2 := hd.2.2
  rw [h] at h2
  exact (Option.some.inj h2).symm
theorem vx_callSW (X : Stand p l e R s m args below meth c T locs cells slots) (hexec : p.tables.exec = Jvm.exec) {own : String} {index : Nat} {y : MethodName} {bytes : ByteArray} {maxL : Nat} {ret : Option FieldType} {hh : List (Nat × Nat × Nat × Nat)}
    (hown : s.vm.findClass own = some m.cls) (hlink : (Cond.methodLink own index y).before args s = true) (hstat : (Cond.static y).before args s = true) (hinit : (Cond.initialized y.cls).before args s = true)
    (hcode : (Cond.codeWith y bytes maxL ret hh).before args s = true) (hy : y.cls ≠ "java/lang/invoke/MethodHandle" ∧ y.cls ≠ "java/lang/invoke/VarHandle")
    {W9 : Nat} {Pre : Pt → Array Value → Prop} {Post : Pt → Array Value → Option Value → Pt → Prop} (hK : Back l R p e below s args y 3 W9 Pre Post)
    {g : JFrame} (hg : g.method = m) (hsize : g.locals.size = c.maxLocals) {argsL rest : List Value} (hlen : ∀ sig, parseMethodDescriptor y.desc = some sig → argsL.length = sig.parameters.length)
    (hstack : g.stack = argsL.reverse ++ rest) (hW : 2 * g.monitorRoom + (rest.map fun v => v.category).sum ≤ W9) (hdg : decode c.code g.pc = .ok (.invokestatic index, 3))
    (hpre : ∀ vm₁, s.WarmedH vm₁ → Pre ⟨T.setVm vm₁, locs, cells, slots⟩ argsL.toArray) :
    ∃ (v : Option Value) (vm₁ : Vm) (B : Pt), s.WarmedH vm₁ ∧ Stand p l e R s m args below meth c B.U B.locs B.cells B.slots ∧ Post ⟨T.setVm vm₁, locs, cells, slots⟩ argsL.toArray v B ∧
      ∀ target, Steps p.tables e below (B.U.setTop { g with pc := g.pc + 3, stack := v.toList ++ rest }) target → Steps p.tables e below (T.setTop g) target := by
  obtain ⟨mk, methM, cM, hnamed, hmethM, -, -, -, -, -, -, hsigM⟩ := Cond.codeWith_spec hcode
  have hstatic : methM.isStatic = true := Cond.static_spec hnamed hmethM hstat
  obtain ⟨kP, hkP, -⟩ := className_of_methodNamed hnamed
  have hinitP : kP.init = .initialized := Cond.initialized_spec (findClass_of_methodNamed hnamed) hkP hinit
  obtain ⟨vm₁, X₁, hstep₁⟩ := X.invokestatic hexec hown hlink hnamed hmethM hstatic hkP hinitP hy (g := g) hg (argsL := argsL) (rest := rest) (hlen _ hsigM) hstack hdg
  obtain ⟨v, B, X', hpost, hsteps⟩ := hK m meth c ⟨T.setVm vm₁, locs, cells, slots⟩ { g with stack := rest } (.invokestatic index) mk argsL.toArray X₁ hg hsize hdg hW (X₁.named hnamed) (hpre vm₁ X₁.warmed)
  exact ⟨v, vm₁, B, X₁.warmed, X', hpost, fun target h => hstep₁ _ fun acts => by rw [doInvoke_state]; exact hsteps.trans h⟩
theorem vx_runSW {y : MethodName} {bytes cc : ByteArray} {maxL nL mc ms n index : Nat} {ret : Option FieldType} {hh : List (Nat × Nat × Nat × Nat)} {ws : List Cond} {rm : Room} {Pc : Array Value → State → Prop} {Qc : Array Value → State → Outcome → State → Prop} {free : Addr → Prop} {Ts : List Cond} {own : String} {As rest : List Value} {g : JFrame}
    (S : CallFix p m c cc nL s args Ts own) (hM : Met l y ws rm Pc Qc mc ms free) (cw : vx_CSW R s args own index y bytes maxL ret hh ws rm mc ms n) (hp : PreS s H Pc As)
    (hg : g.method = m) (hn : As.length = n) (hsize : g.locals.size = nL) (hstack : g.stack = As.reverse ++ rest) (hW : 2 * g.monitorRoom + (rest.map fun v => v.category).sum ≤ 8) (hdg : decode cc g.pc = .ok (.invokestatic index, 3)) (hf : cells + mc ≤ R.cells ∧ slots + ms ≤ R.slots) :
    va_Run p l e R s m args below meth c H locs cells slots mc ms g rest (Qc As.toArray) (free) := by
  obtain ⟨⟨hrc, hrs, hfr, hlo, hws, hcw⟩, hcode, hini, hy, hlen, hl, hstt⟩ := cw
  have hK : Back l R p e below s args y 3 8 (PreOf R mc ms Pc) (PostOf Qc mc ms free) := va_backW (hh := hh) (bytes := bytes) (maxL := maxL) (ret := ret) hM hp.1 hrc hrs hfr hlo hws hcw (fun a' U hW => word_at hW (Or.inl (by first | rfl | simp [Cond.onTables, Cond.keeps, Cond.steady])) hini)
  obtain ⟨hx, hb, hml, ho, -⟩ := S
  intro T hT X
  obtain ⟨v, vm₁, ⟨U', l2, c2, s2⟩, hW₁, X', ⟨g', mk, t, L, e1, e2, hq, h1, hL, h2, h3⟩, st⟩ := vx_callSW X hx (hh := hh) (bytes := bytes) (maxL := maxL) (ret := ret) ho hl hstt hini hcode hy hK hg (hsize.trans hml.symm) (argsL := As) (rest := rest) (fun sig h => hn.trans (hlen sig h)) hstack hW (by rw [hb]; exact hdg)
    (fun vm₁ hW₁ => ⟨hf.1, hf.2, hp.2 (T.setVm vm₁) hT hW₁⟩)
  dsimp only [Pt.U, Pt.locs, Pt.cells, Pt.slots] at X' e1 e2 h1 h2 h3 st
  subst h1; subst h2; subst h3
  exact ⟨v, (T.setVm vm₁).calling g' mk As.toArray, t, U', L, hT, X', hL, e1, e2, hq, st⟩
/-- not caught here, past rows that name other classes: it goes on to the caller -/
theorem vx_outP {p : Program} {l : Launch} {e : Env} {R : Room} {s : State} {m : MethodId} {args : Array Value} {below : List Frame} {meth : Method} {c : Code} {H : Heap} {locs : List Loc} {cells slots : Nat} {free : Addr → Prop} {ls : Array Slot} {rest : List Value} {Qc : Array Value → State → Outcome → State → Prop} {XC : String → State → State → Prop}
    {pc : Nat} {own E : String} {ce : Cell} {q : Addr} {mc ms : Nat} (hown : s.vm.findClass own = some m.cls) (hlocks : meth.locks = false)
    (hpass : ∀ z ∈ c.exceptionTable.toList, covers z pc = false ∨ (z.catchType ≠ 0 ∧ ∃ nm : String, (Cond.classLink own z.catchType nm).before args s = true ∧ va_Nc E nm s)) (hcell : H[q]? = some ce) (hv : ce.vm = .none) (hcl : s.vm.findClass E = some ce.cls)
    (hx : ∀ t : State, t.heap = H → s.vm.Alike t.vm → XC E s t) (hf : ∀ z ∈ locs, free z.base) (hc : cells ≤ mc) (hs : slots ≤ ms) :
    vx_W p l e R s m args below meth c H locs cells slots (vx_MQ below Qc XC args s mc ms free) (F0 m pc ls rest) q := by
  intro T hT X
  have hpl : e.platform.magicAccessors = ({} : Platform).magicAccessors := by rw [X.admits.platform]
  obtain ⟨vm', hW', X', st⟩ := X.outThrough hlocks q (g := F0 m pc ls rest) rfl rfl rfl (cell := ce) (by rw [hT]; exact hcell) (by rw [hv]; rfl)
    (by obtain ⟨k9, h9, -⟩ := Vm.findClass_spec hcl; exact ⟨k9, h9⟩) (fun z hz => by
      rcases hpass z hz with h | ⟨hz0, nm, hl1, hn1⟩
      · exact Or.inl h
      · obtain ⟨c6, hc6, hcl6⟩ := Cond.classLink_spec hown hl1 e.platform hpl
        obtain ⟨a8, b8, h1, h2, h3⟩ := hn1
        cases Option.some.inj (h1.symm.trans hcl)
        cases Option.some.inj (h2.symm.trans hc6)
        exact Or.inr ⟨hz0, _, hcl6, h3⟩)
  obtain ⟨g₀, hfr⟩ := X'.frames_eq
  have hcell9 : ((T.setVm vm').setFrames (.throwing q :: below)).heap[q]? = some ce := by
    show T.heap[q]? = some ce
    rw [hT]; exact hcell
  have hend : Ended ((T.setVm vm').setFrames (.throwing q :: below)) below (.threw q) := State.frames_setFrames _ (State.cur_lt_of_frames hfr)
  refine ⟨(T.setVm vm').setFrames (.throwing q :: below), ?_, .threw q, X'.here.running, hend, Or.inr ⟨q, rfl, E, ce, locs, hx _ hT (X'.ends _).1.alike, hcell9, hv, hcl, (X'.ends _).1, (X'.ends _).2.mono hc hs, hf⟩⟩
  rw [X.pushThrowing_eq]
  exact st
/-- a thing of a world lies in the heap -/
theorem vx_lt {D : va_G} {cl : List vw_C} {ws : va_W} {H1 : Heap} (h : va_P D cl ws H1) {k : Nat} {q : Nat × va_E} (hk : ws[k]? = some q) : q.1 < H1.size := (h k q hk).lt
end VXS
/-! ===== END ===== -/
/-! ===== BEGIN methods with a table of their own: called by a name, returning or throwing ===== -/
section VXH
/-! vx_backW, vx_callVX, vx_callSX, vx_callVW, vx_runVW, vx_runVX, vx_runSX, vx_ofWH follow the same proofs as their sisters above (Free/Laws.lean, Shelf42/LK1.lean); vx_outP calls Shelf42/NT130.lean (outThrough). -/
section
variable {l : Launch} {R : Room} {p : Program} {e : Env} {below : List Frame} {s : State} {sargs : Array Value} {y : MethodName} {len W9 : Nat}
theorem vx_backW {ws : List Cond} {rm : Room} {Pc : Array Value → State → Prop} {Qc : Array Value → State → Outcome → State → Prop} {XC : String → State → State → Prop} {mc ms : Nat} {free : Addr → Prop} {bytes : ByteArray} {maxL : Nat} {ret : Option FieldType} {hh : List (Nat × Nat × Nat × Nat)}
    (hM : vx_Met l y ws rm Pc Qc XC mc ms free) (hblind : FrameBlind Pc) (hrc : rm.cells = mc) (hrs : rm.slots = ms)
    (hframes : rm.frames + 1 ≤ R.frames) (hlocals : W9 + (maxL + 11) + rm.locals ≤ R.locals)
    (hws : ∀ w ∈ ws, ∀ a' U, s.WarmedH U.vm → w.before a' U = true) (hcode : Cond.codeWith y bytes maxL ret hh ∈ ws) (hinit : ∀ a' U, s.WarmedH U.vm → (Cond.initialized y.cls).before a' U = true) :
    vx_Back l R p e below s sargs y len W9 (PreOf R mc ms Pc) (PostOf Qc mc ms free) (vx_Post XC mc ms free) := by
  intro m meth c A g ig mk a X hg hsize hdg hW hn hp
  have h1 : (headSpec ws rm).pre.before a A.U = true := atoms_intro fun w hw => hws w hw _ _ X.warmed
  have h2 : (Cond.codeWith y bytes maxL ret hh).before a A.U = true := hws _ hcode _ _ X.warmed
  have h3 : (Cond.initialized y.cls).before a A.U = true := hinit _ _ X.warmed
  have h4 : A.cells + (headSpec ws rm).room.cells ≤ R.cells := by rw [show (headSpec ws rm).room.cells = mc from hrc]; exact hp.1
  have h5 : A.slots + (headSpec ws rm).room.slots ≤ R.slots := by rw [show (headSpec ws rm).room.slots = ms from hrs]; exact hp.2.1
  have hPc : Pc a (A.U.calling g mk a) := hblind _ _ _ _ hp.2.2
  obtain ⟨U, Ls, c0, s0⟩ := A
  dsimp only [Pt.U, Pt.locs, Pt.cells, Pt.slots] at h1 h2 h3 h4 h5 X hn hPc ⊢
  obtain ⟨m9, methY, cY, hn9, hmY, hcY, -, hlY, -⟩ := Cond.codeWith_spec h2
  cases Option.some.inj (hn9.symm.trans hn)
  obtain ⟨kY, hkY, -⟩ := className_of_methodNamed hn
  have hinitY : kY.init = .initialized := Cond.initialized_spec (findClass_of_methodNamed hn) hkY h3
  have h : At U g.method c below := by rw [hg]; exact X.here
  have hlocals9 : W9 + (maxL + 11) + (headSpec ws rm).room.locals ≤ R.locals := hlocals
  have happ : (headSpec ws rm).appliesLoose y e.platform (U.calling g mk a) = true :=
    Spec.appliesLoose_calling (g := g) h hdg hn hkY hinitY
      (X.room_calling (g := g) (R' := (headSpec ws rm).room) hsize hmY hcY hframes (by rw [hlY]; omega) h4 h5) h1
  obtain ⟨mid, hmid⟩ := h.above
  have hfr : (U.setTop g).frames = (.java g :: mid) ++ below := by rw [State.frames_setTop' g h.top, hmid]; rfl
  obtain ⟨o, s₂, hsteps, -, hend, hq⟩ := Steps.callFree hM p X.admits X.cas X.clock (acts := []) hfr happ hPc trivial
  have hq' : vx_Q Qc XC mc ms free a (U.calling g mk a) o s₂ := hq
  rw [State.frames_setTop' g h.top] at hend
  obtain ⟨g₀, hg0⟩ := Option.isSome_iff_exists.mp h.top
  obtain ⟨r, hr⟩ := State.topJava?_eq_some.mp hg0
  have hr' : (({ U with heap := s₂.heap, slotsUsed := s₂.slotsUsed } : State).setVm s₂.vm).frames = .java g₀ :: r := hr
  rcases hq' with ⟨hqc, L, hfe, hL⟩ | ⟨q, rfl, E, ce, L, hx, hce, hcv, hcl, hW₂, hsm, hL⟩
  · obtain ⟨⟨v, rfl⟩, hW₂, e2, q2, q3, q4, q5, q6⟩ := id hfe
    have e3 : s₂ = ({ (U.calling g mk a).setFrames s₂.frames with heap := s₂.heap, slotsUsed := s₂.slotsUsed } : State).setVm s₂.vm := by
      have : s₂ = ({ s₂ with vm := (U.calling g mk a).vm } : State).setVm s₂.vm := rfl
      rw [e2] at this
      exact this
    obtain ⟨c₂, i₂, len₂, hc₂, hd₂, hf₂⟩ := hend
    have hW' : U.WarmedH s₂.vm := hW₂
    have hcc : c₂ = c := by
      have h1 : s₂.code? g.method = U.code? g.method := by
        rw [State.code?_eq, State.code?_eq, hW'.alike.method?]
      exact Option.some.inj (hc₂.symm.trans (h1.trans h.code))
    subst hcc
    have hlen : len₂ = len := by rw [hdg] at hd₂; cases hd₂; rfl
    subst hlen
    have hs₂ : s₂ = (({ U with heap := s₂.heap, slotsUsed := s₂.slotsUsed } : State).setVm s₂.vm).setTop { g with pc := g.pc + len₂, stack := v.toList ++ g.stack } := by
      refine e3.trans ?_
      rw [hf₂, State.calling_eq h.top, State.setFrames_setFrames, State.setTop_of_frames _ hr', hr]
      rfl
    have hsame : U.sameButNew ({ U with heap := s₂.heap, slotsUsed := s₂.slotsUsed } : State) L mc ms := by
      refine ⟨?_, q2, q3, q4, q5, q6⟩
      obtain ⟨t, ht, -⟩ := State.frames_cons hr
      show ({ U with heap := s₂.heap, slotsUsed := s₂.slotsUsed } : State) = { U.setFrames U.frames with heap := s₂.heap, slotsUsed := s₂.slotsUsed }
      rw [State.setFrames_self ht]
    subst hg
    refine Or.inl ⟨v, ⟨(({ U with heap := s₂.heap, slotsUsed := s₂.slotsUsed } : State).setVm s₂.vm), Ls ++ L, c0 + mc, s0 + ms⟩,
      ⟨X.admits, X.cas, X.clock, X.frames, X.room, X.hears, X.method, X.code, (X.here.setHeapUsed s₂.heap s₂.slotsUsed).setVm hW'.alike, X.tail, State.WarmedH.trans X.warmed hW', X.limits, X.bytes, X.same.trans (hsame.setVm s.vm)⟩,
      ⟨g, mk, s₂, L, rfl, rfl, hqc, rfl, hL, rfl, rfl⟩, ?_⟩
    show Steps p.tables e below _ ((({ U with heap := s₂.heap, slotsUsed := s₂.slotsUsed } : State).setVm s₂.vm).setTop { g with pc := g.pc + len₂, stack := v.toList ++ g.stack })
    rw [← hs₂]
    exact hsteps
  · obtain ⟨e2, q2, q3, q4, q5, q6⟩ := id hsm
    have e3 : s₂ = ({ (U.calling g mk a).setFrames s₂.frames with heap := s₂.heap, slotsUsed := s₂.slotsUsed } : State).setVm s₂.vm := by
      have : s₂ = ({ s₂ with vm := (U.calling g mk a).vm } : State).setVm s₂.vm := rfl
      rw [e2] at this
      exact this
    have hf₂ : s₂.frames = .throwing q :: .java g :: U.frames.tail := hend
    have hW' : U.WarmedH s₂.vm := hW₂
    have hs₂ : s₂ = ((({ U with heap := s₂.heap, slotsUsed := s₂.slotsUsed } : State).setVm s₂.vm).setTop g).pushFrame (.throwing q) := by
      refine e3.trans ?_
      rw [hf₂, State.calling_eq h.top, State.setFrames_setFrames, State.pushFrame, State.frames_setTop _ hr', State.setTop_of_frames _ hr', State.setFrames_setFrames, hr]
      rfl
    have hsame : U.sameButNew ({ U with heap := s₂.heap, slotsUsed := s₂.slotsUsed } : State) L mc ms := by
      refine ⟨?_, q2, q3, q4, q5, q6⟩
      obtain ⟨t, ht, -⟩ := State.frames_cons hr
      show ({ U with heap := s₂.heap, slotsUsed := s₂.slotsUsed } : State) = { U.setFrames U.frames with heap := s₂.heap, slotsUsed := s₂.slotsUsed }
      rw [State.setFrames_self ht]
    subst hg
    refine Or.inr ⟨q, ⟨(({ U with heap := s₂.heap, slotsUsed := s₂.slotsUsed } : State).setVm s₂.vm), Ls ++ L, c0 + mc, s0 + ms⟩,
      ⟨X.admits, X.cas, X.clock, X.frames, X.room, X.hears, X.method, X.code, (X.here.setHeapUsed s₂.heap s₂.slotsUsed).setVm hW'.alike, X.tail, State.WarmedH.trans X.warmed hW', X.limits, X.bytes, X.same.trans (hsame.setVm s.vm)⟩,
      ⟨g, mk, s₂, L, E, ce, rfl, rfl, hx, hce, hcv, hcl, rfl, hL, rfl, rfl⟩, ?_⟩
    show Steps p.tables e below _ (((({ U with heap := s₂.heap, slotsUsed := s₂.slotsUsed } : State).setVm s₂.vm).setTop g).pushFrame (.throwing q))
    rw [← hs₂]
    exact hsteps
end
variable {p : Program} {l : Launch} {e : Env} {R : Room} {s : State} {m : MethodId} {args : Array Value} {below : List Frame} {meth : Method} {c : Code} {T : State} {H : Heap} {locs : List Loc} {cells slots : Nat}
theorem vx_callVX (X : Stand p l e R s m args below meth c T locs cells slots) (hexec : p.tables.exec = Jvm.exec) {own C : String} {index : Nat} {y : MethodName} {bytes : ByteArray} {maxL : Nat} {ret : Option FieldType} {hh : List (Nat × Nat × Nat × Nat)}
    (hown : s.vm.findClass own = some m.cls) (hlink : (Cond.methodLink own index y).before args s = true) (hinst : (Cond.instanceMethod y).before args s = true) (hsel : (Cond.selects C y y).before args s = true)
    (hcode : (Cond.codeWith y bytes maxL ret hh).before args s = true) (hy : y.cls ≠ "java/lang/invoke/MethodHandle" ∧ y.cls ≠ "java/lang/invoke/VarHandle")
    {W9 : Nat} {Pre : Pt → Array Value → Prop} {Post : Pt → Array Value → Option Value → Pt → Prop} {PostX : Pt → Array Value → Addr → Pt → Prop} (hK : vx_Back l R p e below s args y 3 W9 Pre Post PostX)
    {b : Addr} {cellB : Cell} (hcell : T.heap[b]? = some cellB) (hobj : cellB.vm.isStatics = false) (hcls : s.vm.findClass C = some cellB.cls)
    {g : JFrame} (hg : g.method = m) (hsize : g.locals.size = c.maxLocals) {argsL rest : List Value} (hlen : ∀ sig, parseMethodDescriptor y.desc = some sig → argsL.length = sig.parameters.length)
    (hstack : g.stack = argsL.reverse ++ .ref b :: rest) (hW : 2 * g.monitorRoom + (rest.map fun v => v.category).sum ≤ W9) (hdg : decode c.code g.pc = .ok (.invokevirtual index, 3))
    (hpre : ∀ vm₁, s.WarmedH vm₁ → Pre ⟨T.setVm vm₁, locs, cells, slots⟩ (Value.ref b :: argsL).toArray) :
    (∃ (v : Option Value) (vm₁ : Vm) (B : Pt), s.WarmedH vm₁ ∧ Stand p l e R s m args below meth c B.U B.locs B.cells B.slots ∧ Post ⟨T.setVm vm₁, locs, cells, slots⟩ (Value.ref b :: argsL).toArray v B ∧
      ∀ target, Steps p.tables e below (B.U.setTop { g with pc := g.pc + 3, stack := v.toList ++ rest }) target → Steps p.tables e below (T.setTop g) target) ∨
    (∃ (q : Addr) (vm₁ : Vm) (B : Pt), s.WarmedH vm₁ ∧ Stand p l e R s m args below meth c B.U B.locs B.cells B.slots ∧ PostX ⟨T.setVm vm₁, locs, cells, slots⟩ (Value.ref b :: argsL).toArray q B ∧
      Steps p.tables e below (T.setTop g) ((B.U.setTop { g with stack := rest }).pushFrame (.throwing q))) := by
  obtain ⟨mk, methM, hnamed, hmethM, hstM, habM⟩ := Cond.instanceMethod_spec hinst
  obtain ⟨m8, methM', cM, hn8, hmethM', -, -, -, -, -, -, hsigM⟩ := Cond.codeWith_spec hcode
  cases Option.some.inj (hn8.symm.trans hnamed)
  cases hmethM.symm.trans hmethM'
  obtain ⟨c2, r2, m2, q1, q2, q3, q4, kP, hkP, hkPi⟩ := Cond.selects_spec hsel
  cases hcls.symm.trans q1
  cases (State.methodFound?_of_named hnamed hy).symm.trans q2
  cases hnamed.symm.trans q3
  have hselP : selectMethod e.platform s.vm cellB.cls mk = .method mk := by rw [Launch.admits_selectMethod X.admits]; exact q4
  obtain ⟨vm₁, X₁, hstep₁⟩ := X.invokevirtual hexec hown hlink hnamed hmethM hstM hkP hkPi hy (a := b) (cell := cellB) hcell
    (fun z h => by rw [h] at hobj; cases hobj) hselP hmethM habM hkP hkPi (g := g) hg (argsL := argsL) (rest := rest) (hlen _ hsigM) hstack hdg
  rcases hK m meth c ⟨T.setVm vm₁, locs, cells, slots⟩ { g with stack := rest } (.invokevirtual index) mk (Value.ref b :: argsL).toArray X₁ hg hsize hdg hW (X₁.named hnamed) (hpre vm₁ X₁.warmed) with ⟨v, B, X', hpost, hsteps⟩ | ⟨q, B, X', hpost, hsteps⟩
  · exact Or.inl ⟨v, vm₁, B, X₁.warmed, X', hpost, fun target h => hstep₁ _ fun acts => by rw [doInvoke_state]; exact hsteps.trans h⟩
  · exact Or.inr ⟨q, vm₁, B, X₁.warmed, X', hpost, hstep₁ _ fun acts => by rw [doInvoke_state]; exact hsteps⟩
theorem vx_callSX (X : Stand p l e R s m args below meth c T locs cells slots) (hexec : p.tables.exec = Jvm.exec) {own : String} {index : Nat} {y : MethodName} {bytes : ByteArray} {maxL : Nat} {ret : Option FieldType} {hh : List (Nat × Nat × Nat × Nat)}
    (hown : s.vm.findClass own = some m.cls) (hlink : (Cond.methodLink own index y).before args s = true) (hstat : (Cond.static y).before args s = true) (hinit : (Cond.initialized y.cls).before args s = true)
    (hcode : (Cond.codeWith y bytes maxL ret hh).before args s = true) (hy : y.cls ≠ "java/lang/invoke/MethodHandle" ∧ y.cls ≠ "java/lang/invoke/VarHandle")
    {W9 : Nat} {Pre : Pt → Array Value → Prop} {Post : Pt → Array Value → Option Value → Pt → Prop} {PostX : Pt → Array Value → Addr → Pt → Prop} (hK : vx_Back l R p e below s args y 3 W9 Pre Post PostX)
    {g : JFrame} (hg : g.method = m) (hsize : g.locals.size = c.maxLocals) {argsL rest : List Value} (hlen : ∀ sig, parseMethodDescriptor y.desc = some sig → argsL.length = sig.parameters.length)
    (hstack : g.stack = argsL.reverse ++ rest) (hW : 2 * g.monitorRoom + (rest.map fun v => v.category).sum ≤ W9) (hdg : decode c.code g.pc = .ok (.invokestatic index, 3))
    (hpre : ∀ vm₁, s.WarmedH vm₁ → Pre ⟨T.setVm vm₁, locs, cells, slots⟩ argsL.toArray) :
    (∃ (v : Option Value) (vm₁ : Vm) (B : Pt), s.WarmedH vm₁ ∧ Stand p l e R s m args below meth c B.U B.locs B.cells B.slots ∧ Post ⟨T.setVm vm₁, locs, cells, slots⟩ argsL.toArray v B ∧
      ∀ target, Steps p.tables e below (B.U.setTop { g with pc := g.pc + 3, stack := v.toList ++ rest }) target → Steps p.tables e below (T.setTop g) target) ∨
    (∃ (q : Addr) (vm₁ : Vm) (B : Pt), s.WarmedH vm₁ ∧ Stand p l e R s m args below meth c B.U B.locs B.cells B.slots ∧ PostX ⟨T.setVm vm₁, locs, cells, slots⟩ argsL.toArray q B ∧
      Steps p.tables e below (T.setTop g) ((B.U.setTop { g with stack := rest }).pushFrame (.throwing q))) := by
  obtain ⟨mk, methM, cM, hnamed, hmethM, -, -, -, -, -, -, hsigM⟩ := Cond.codeWith_spec hcode
  have hstatic : methM.isStatic = true := Cond.static_spec hnamed hmethM hstat
  obtain ⟨kP, hkP, -⟩ := className_of_methodNamed hnamed
  have hinitP : kP.init = .initialized := Cond.initialized_spec (findClass_of_methodNamed hnamed) hkP hinit
  obtain ⟨vm₁, X₁, hstep₁⟩ := X.invokestatic hexec hown hlink hnamed hmethM hstatic hkP hinitP hy (g := g) hg (argsL := argsL) (rest := rest) (hlen _ hsigM) hstack hdg
  rcases hK m meth c ⟨T.setVm vm₁, locs, cells, slots⟩ { g with stack := rest } (.invokestatic index) mk argsL.toArray X₁ hg hsize hdg hW (X₁.named hnamed) (hpre vm₁ X₁.warmed) with ⟨v, B, X', hpost, hsteps⟩ | ⟨q, B, X', hpost, hsteps⟩
  · exact Or.inl ⟨v, vm₁, B, X₁.warmed, X', hpost, fun target h => hstep₁ _ fun acts => by rw [doInvoke_state]; exact hsteps.trans h⟩
  · exact Or.inr ⟨q, vm₁, B, X₁.warmed, X', hpost, hstep₁ _ fun acts => by rw [doInvoke_state]; exact hsteps⟩
theorem vx_callVW (X : Stand p l e R s m args below meth c T locs cells slots) (hexec : p.tables.exec = Jvm.exec) {own C : String} {index : Nat} {y : MethodName} {bytes : ByteArray} {maxL : Nat} {ret : Option FieldType} {hh : List (Nat × Nat × Nat × Nat)}
    (hown : s.vm.findClass own = some m.cls) (hlink : (Cond.methodLink own index y).before args s = true) (hinst : (Cond.instanceMethod y).before args s = true) (hsel : (Cond.selects C y y).before args s = true)
    (hcode : (Cond.codeWith y bytes maxL ret hh).before args s = true) (hy : y.cls ≠ "java/lang/invoke/MethodHandle" ∧ y.cls ≠ "java/lang/invoke/VarHandle")
    {W9 : Nat} {Pre : Pt → Array Value → Prop} {Post : Pt → Array Value → Option Value → Pt → Prop} (hK : Back l R p e below s args y 3 W9 Pre Post)
    {b : Addr} {cellB : Cell} (hcell : T.heap[b]? = some cellB) (hobj : cellB.vm.isStatics = false) (hcls : s.vm.findClass C = some cellB.cls)
    {g : JFrame} (hg : g.method = m) (hsize : g.locals.size = c.maxLocals) {argsL rest : List Value} (hlen : ∀ sig, parseMethodDescriptor y.desc = some sig → argsL.length = sig.parameters.length)
    (hstack : g.stack = argsL.reverse ++ .ref b :: rest) (hW : 2 * g.monitorRoom + (rest.map fun v => v.category).sum ≤ W9) (hdg : decode c.code g.pc = .ok (.invokevirtual index, 3))
    (hpre : ∀ vm₁, s.WarmedH vm₁ → Pre ⟨T.setVm vm₁, locs, cells, slots⟩ (Value.ref b :: argsL).toArray) :
    ∃ (v : Option Value) (vm₁ : Vm) (B : Pt), s.WarmedH vm₁ ∧ Stand p l e R s m args below meth c B.U B.locs B.cells B.slots ∧ Post ⟨T.setVm vm₁, locs, cells, slots⟩ (Value.ref b :: argsL).toArray v B ∧
      ∀ target, Steps p.tables e below (B.U.setTop { g with pc := g.pc + 3, stack := v.toList ++ rest }) target → Steps p.tables e below (T.setTop g) target := by
  obtain ⟨mk, methM, hnamed, hmethM, hstM, habM⟩ := Cond.instanceMethod_spec hinst
  obtain ⟨m8, methM', cM, hn8, hmethM', -, -, -, -, -, -, hsigM⟩ := Cond.codeWith_spec hcode
  cases Option.some.inj (hn8.symm.trans hnamed)
  cases hmethM.symm.trans hmethM'
  obtain ⟨c2, r2, m2, q1, q2, q3, q4, kP, hkP, hkPi⟩ := Cond.selects_spec hsel
  cases hcls.symm.trans q1
  cases (State.methodFound?_of_named hnamed hy).symm.trans q2
  cases hnamed.symm.trans q3
  have hselP : selectMethod e.platform s.vm cellB.cls mk = .method mk := by rw [Launch.admits_selectMethod X.admits]; exact q4
  obtain ⟨vm₁, X₁, hstep₁⟩ := X.invokevirtual hexec hown hlink hnamed hmethM hstM hkP hkPi hy (a := b) (cell := cellB) hcell
    (fun z h => by rw [h] at hobj; cases hobj) hselP hmethM habM hkP hkPi (g := g) hg (argsL := argsL) (rest := rest) (hlen _ hsigM) hstack hdg
  obtain ⟨v, B, X', hpost, hsteps⟩ := hK m meth c ⟨T.setVm vm₁, locs, cells, slots⟩ { g with stack := rest } (.invokevirtual index) mk (Value.ref b :: argsL).toArray X₁ hg hsize hdg hW (X₁.named hnamed) (hpre vm₁ X₁.warmed)
  exact ⟨v, vm₁, B, X₁.warmed, X', hpost, fun target h => hstep₁ _ fun acts => by rw [doInvoke_state]; exact hsteps.trans h⟩
abbrev vx_CVW (R : Room) (s : State) (args : Array Value) (own C : String) (index : Nat) (y : MethodName) (bytes : ByteArray) (maxL : Nat) (ret : Option FieldType) (hh : List (Nat × Nat × Nat × Nat)) (ws : List Cond) (rm : Room) (mc ms n : Nat) : Prop :=
  (rm.cells = mc ∧ rm.slots = ms ∧ rm.frames + 1 ≤ R.frames ∧ 8 + (maxL + 11) + rm.locals ≤ R.locals ∧ (∀ w ∈ ws, ∀ (a' : Array Value) (U : State), s.WarmedH U.vm → w.before a' U = true) ∧ Cond.codeWith y bytes maxL ret hh ∈ ws) ∧
  (Cond.codeWith y bytes maxL ret hh).before args s = true ∧ (Cond.initialized y.cls).before args s = true ∧ (y.cls ≠ "java/lang/invoke/MethodHandle" ∧ y.cls ≠ "java/lang/invoke/VarHandle") ∧
  (∀ sig, parseMethodDescriptor y.desc = some sig → n = sig.parameters.length) ∧ (Cond.methodLink own index y).before args s = true ∧ (Cond.instanceMethod y).before args s = true ∧ (Cond.selects C y y).before args s = true
theorem vx_cwVW {own C : String} {index maxL mc ms : Nat} {y : MethodName} {bytes : ByteArray} {ret : Option FieldType} {hh : List (Nat × Nat × Nat × Nat)} {Ts ws ws' : List Cond} {rm : Room} (n : Nat) (ht : ∀ w ∈ Ts, w.before args s = true) (hT : GoodIn Ts (wsV own index C y ws)) (hw : ws = Cond.codeWith y bytes maxL ret hh :: ws') (hrc : rm.cells = mc) (hrs : rm.slots = ms)
    (hd : y.cls = C ∧ y.cls ≠ "java/lang/invoke/MethodHandle" ∧ y.cls ≠ "java/lang/invoke/VarHandle" ∧ (parseMethodDescriptor y.desc).map (fun d => d.parameters.length) = some n) (hR : rm.frames + 1 ≤ R.frames ∧ 8 + (maxL + 11) + rm.locals ≤ R.locals) :
    vx_CVW R s args own C index y bytes maxL ret hh ws rm mc ms n := by
  obtain ⟨hC, hd⟩ := hd
  subst hC
  have ok : ∀ w ∈ wsV own index y.cls y ws, w.before args s = true := fun w h => ht w (hT w h).1
  have hG : GoodIn Ts ws := fun w h => hT w (by unfold wsV; exact List.mem_append_right _ h)
  have hc : Cond.codeWith y bytes maxL ret hh ∈ ws := by rw [hw]; exact List.mem_cons_self
  refine ⟨⟨hrc, hrs, hR.1, hR.2, pay_in ht hG, hc⟩, ht _ (hG _ hc).1, ok _ (by simp [wsV]), ⟨hd.1, hd.2.1⟩, fun sig h => ?_, ok _ (by simp [wsV]), ok _ (by simp [wsV]), ok _ (by simp [wsV])⟩
  have h2 := hd.2.2
  rw [h] at h2
  exact (Option.some.inj h2).symm
theorem vx_runVW {y : MethodName} {bytes cc : ByteArray} {maxL nL mc ms n index : Nat} {ret : Option FieldType} {hh : List (Nat × Nat × Nat × Nat)} {ws : List Cond} {rm : Room} {Pc : Array Value → State → Prop} {Qc : Array Value → State → Outcome → State → Prop} {free : Addr → Prop} {Ts : List Cond} {own C : String} {b : Addr} {As rest : List Value} {g : JFrame}
    (S : CallFix p m c cc nL s args Ts own) (hM : Met l y ws rm Pc Qc mc ms free) (cw : vx_CVW R s args own C index y bytes maxL ret hh ws rm mc ms n) (hp : PreV s H C b Pc As)
    (hg : g.method = m) (hn : As.length = n) (hsize : g.locals.size = nL) (hstack : g.stack = As.reverse ++ .ref b :: rest) (hW : 2 * g.monitorRoom + (rest.map fun v => v.category).sum ≤ 8) (hdg : decode cc g.pc = .ok (.invokevirtual index, 3)) (hf : cells + mc ≤ R.cells ∧ slots + ms ≤ R.slots) :
    va_Run p l e R s m args below meth c H locs cells slots mc ms g rest (Qc (Value.ref b :: As).toArray) free := by
  obtain ⟨⟨hrc, hrs, hfr, hlo, hws, hcw⟩, hcode, hini, hy, hlen, hl, hin, hse⟩ := cw
  have hK : Back l R p e below s args y 3 8 (PreOf R mc ms Pc) (PostOf Qc mc ms free) := va_backW (hh := hh) (bytes := bytes) (maxL := maxL) (ret := ret) hM hp.1 hrc hrs hfr hlo hws hcw (fun a' U hW => word_at hW (Or.inl (by first | rfl | simp [Cond.onTables, Cond.keeps, Cond.steady])) hini)
  obtain ⟨hx, hb, hml, ho, -⟩ := S
  obtain ⟨-, ⟨cellB, hcB, hoB, hclB⟩, hPc⟩ := hp
  intro T hT X
  obtain ⟨v, vm₁, ⟨U', l2, c2, s2⟩, hW₁, X', ⟨g', mk, t, L, e1, e2, hq, h1, hL, h2, h3⟩, st⟩ := vx_callVW X hx (C := C) (hh := hh) (bytes := bytes) (maxL := maxL) (ret := ret) ho hl hin hse hcode hy hK (by rw [hT]; exact hcB) hoB hclB hg (hsize.trans hml.symm) (argsL := As) (rest := rest) (fun sig h => hn.trans (hlen sig h)) hstack hW (by rw [hb]; exact hdg)
    (fun vm₁ hW₁ => ⟨hf.1, hf.2, hPc (T.setVm vm₁) hT hW₁⟩)
  dsimp only [Pt.U, Pt.locs, Pt.cells, Pt.slots] at X' e1 e2 h1 h2 h3 st
  subst h1; subst h2; subst h3
  exact ⟨v, (T.setVm vm₁).calling g' mk (Value.ref b :: As).toArray, t, U', L, hT, X', hL, e1, e2, hq, st⟩
section
variable {y : MethodName} {bytes cc : ByteArray} {maxL nL mc ms n index : Nat} {ret : Option FieldType} {ws : List Cond} {rm : Room} {Pc : Array Value → State → Prop} {Qc : Array Value → State → Outcome → State → Prop} {XC : String → State → State → Prop} {free : Addr → Prop} {Ts : List Cond} {own C : String} {b : Addr} {As rest : List Value} {g : JFrame}
theorem vx_runVX {hh : List (Nat × Nat × Nat × Nat)} (S : CallFix p m c cc nL s args Ts own) (hM : vx_Met l y ws rm Pc Qc XC mc ms free) (cw : vx_CVW R s args own C index y bytes maxL ret hh ws rm mc ms n) (hp : PreV s H C b Pc As)
    (hg : g.method = m) (hn : As.length = n) (hsize : g.locals.size = nL) (hstack : g.stack = As.reverse ++ .ref b :: rest) (hW : 2 * g.monitorRoom + (rest.map fun v => v.category).sum ≤ 8) (hdg : decode cc g.pc = .ok (.invokevirtual index, 3)) (hf : cells + mc ≤ R.cells ∧ slots + ms ≤ R.slots) :
    vx_Run p l e R s m args below meth c H locs cells slots mc ms g rest (Qc (Value.ref b :: As).toArray) XC free := by
  obtain ⟨⟨hrc, hrs, hfr, hlo, hws, hcw⟩, hcode, hini, hy, hlen, hl, hin, hse⟩ := cw
  have hK : vx_Back l R p e below s args y 3 8 (PreOf R mc ms Pc) (PostOf Qc mc ms free) (vx_Post XC mc ms free) := vx_backW (hh := hh) (bytes := bytes) (maxL := maxL) (ret := ret) hM hp.1 hrc hrs hfr hlo hws hcw (fun a' U hW => word_at hW (Or.inl (by first | rfl | simp [Cond.onTables, Cond.keeps, Cond.steady])) hini)
  obtain ⟨hx, hb, hml, ho, -⟩ := S
  obtain ⟨-, ⟨cellB, hcB, hoB, hclB⟩, hPc⟩ := hp
  intro T hT X
  rcases vx_callVX X hx (C := C) (hh := hh) (bytes := bytes) (maxL := maxL) (ret := ret) ho hl hin hse hcode hy hK (by rw [hT]; exact hcB) hoB hclB hg (hsize.trans hml.symm) (argsL := As) (rest := rest) (fun sig h => hn.trans (hlen sig h)) hstack hW (by rw [hb]; exact hdg)
    (fun vm₁ hW₁ => ⟨hf.1, hf.2, hPc (T.setVm vm₁) hT hW₁⟩) with ⟨v, vm₁, ⟨U', l2, c2, s2⟩, hW₁, X', ⟨g', mk, t, L, e1, e2, hq, h1, hL, h2, h3⟩, st⟩ | ⟨q, vm₁, ⟨U', l2, c2, s2⟩, hW₁, X', ⟨g', mk, t, L, E, ce, e1, e2, hq, hce, hcv, hcl, h1, hL, h2, h3⟩, st⟩
  · dsimp only [Pt.U, Pt.locs, Pt.cells, Pt.slots] at X' e1 e2 h1 h2 h3 st
    subst h1; subst h2; subst h3
    exact Or.inl ⟨v, (T.setVm vm₁).calling g' mk (Value.ref b :: As).toArray, t, U', L, hT, X', hL, e1, e2, hq, st⟩
  · dsimp only [Pt.U, Pt.locs, Pt.cells, Pt.slots] at X' e1 e2 h1 h2 h3 st hcl
    subst h1; subst h2; subst h3
    exact Or.inr ⟨q, (T.setVm vm₁).calling g' mk (Value.ref b :: As).toArray, t, U', L, E, ce, hT, X', hL, e1, e2, hq, hce, hcv, vx_cls hW₁ hcl, st⟩
theorem vx_runSX {hh : List (Nat × Nat × Nat × Nat)} (S : CallFix p m c cc nL s args Ts own) (hM : vx_Met l y ws rm Pc Qc XC mc ms free) (cw : vx_CSW R s args own index y bytes maxL ret hh ws rm mc ms n) (hp : PreS s H Pc As)
    (hg : g.method = m) (hn : As.length = n) (hsize : g.locals.size = nL) (hstack : g.stack = As.reverse ++ rest) (hW : 2 * g.monitorRoom + (rest.map fun v => v.category).sum ≤ 8) (hdg : decode cc g.pc = .ok (.invokestatic index, 3)) (hf : cells + mc ≤ R.cells ∧ slots + ms ≤ R.slots) :
    vx_Run p l e R s m args below meth c H locs cells slots mc ms g rest (Qc As.toArray) XC free := by
  obtain ⟨⟨hrc, hrs, hfr, hlo, hws, hcw⟩, hcode, hini, hy, hlen, hl, hstt⟩ := cw
  have hK : vx_Back l R p e below s args y 3 8 (PreOf R mc ms Pc) (PostOf Qc mc ms free) (vx_Post XC mc ms free) := vx_backW (hh := hh) (bytes := bytes) (maxL := maxL) (ret := ret) hM hp.1 hrc hrs hfr hlo hws hcw (fun a' U hW => word_at hW (Or.inl (by first | rfl | simp [Cond.onTables, Cond.keeps, Cond.steady])) hini)
  obtain ⟨hx, hb, hml, ho, -⟩ := S
  intro T hT X
  rcases vx_callSX X hx (hh := hh) (bytes := bytes) (maxL := maxL) (ret := ret) ho hl hstt hini hcode hy hK hg (hsize.trans hml.symm) (argsL := As) (rest := rest) (fun sig h => hn.trans (hlen sig h)) hstack hW (by rw [hb]; exact hdg)
    (fun vm₁ hW₁ => ⟨hf.1, hf.2, hp.2 (T.setVm vm₁) hT hW₁⟩) with ⟨v, vm₁, ⟨U', l2, c2, s2⟩, hW₁, X', ⟨g', mk, t, L, e1, e2, hq, h1, hL, h2, h3⟩, st⟩ | ⟨q, vm₁, ⟨U', l2, c2, s2⟩, hW₁, X', ⟨g', mk, t, L, E, ce, e1, e2, hq, hce, hcv, hcl, h1, hL, h2, h3⟩, st⟩
  · dsimp only [Pt.U, Pt.locs, Pt.cells, Pt.slots] at X' e1 e2 h1 h2 h3 st
    subst h1; subst h2; subst h3
    exact Or.inl ⟨v, (T.setVm vm₁).calling g' mk As.toArray, t, U', L, hT, X', hL, e1, e2, hq, st⟩
  · dsimp only [Pt.U, Pt.locs, Pt.cells, Pt.slots] at X' e1 e2 h1 h2 h3 st hcl
    subst h1; subst h2; subst h3
    exact Or.inr ⟨q, (T.setVm vm₁).calling g' mk As.toArray, t, U', L, E, ce, hT, X', hL, e1, e2, hq, hce, hcv, vx_cls hW₁ hcl, st⟩
end
end VXH
theorem vx_ofWH {l : Launch} {y : MethodName} {ws ws' : List Cond} {rm : Room} {Pc : Array Value → State → Prop} {Qc : Array Value → State → Outcome → State → Prop} {XC : String → State → State → Prop} {mc ms : Nat} {free : Addr → Prop} {cc : ByteArray} {maxL : Nat} {ret : Option FieldType} {hh : List (Nat × Nat × Nat × Nat)}
    (hy : plainName y.cls = true) (hw : ws = Cond.codeWith y cc maxL ret hh :: ws')
    (body : ∀ p e s m args below meth c s₁, BodyLoose p l y (headSpec ws rm) cc maxL ret e s m args below meth c s₁ → c.maxLocals = maxL → Pc args s →
      W p l e (headSpec ws rm).room s m args below meth c s.heap [] 0 0 (vx_MQ below Qc XC args s mc ms free) (entryFrame m args maxL)) : vx_Met l y ws rm Pc Qc XC mc ms free := by
  refine MetFree.of_bodyS (code := cc) (maxLocals := maxL) (ret := ret) hy ?_ ?_
  · intro args s m h hn
    obtain ⟨m9, meth, c, hn9, h1, h2, h3, h4, -, h5, h6, -⟩ := Cond.codeWith_spec (atoms_spec (ws := ws) h _ (by rw [hw]; exact List.mem_cons_self))
    cases hn.symm.trans hn9
    exact ⟨meth, c, h1, h2, h3, h4, h5, h6⟩
  · intro p e s m args below meth c s₁ B hml hP _
    have hh0 : s₁.heap = s.heap := by rw [B.state]; rfl
    obtain ⟨t, a1, o, b1, b2, b3⟩ := body p e s m args below meth c s₁ B hml hP s₁ hh0 (Stand.of_body B)
    exact ⟨t, o, a1, b1, b2, b3⟩
/-! ===== END ===== -/

/-! ===== BEGIN printed: names, fields, word lists, decode rows ===== -/
end
section
def RX0 : String := "WheatRun$Combine"
def TX0 : u_T := fun k => match k with
  | 0 => ("WheatRun$Combine", "number", "I", false)
  | 1 => ("WheatRun$Combine", "mile", "I", false)
  | 2 => ("WheatRun$Combine", "pace", "I", false)
  | 3 => ("WheatRun$Combine", "tank", "I", false)
  | 4 => ("WheatRun$Combine", "tankField", "I", false)
  | 5 => ("WheatRun$Combine", "tankDamp", "I", false)
  | 6 => ("WheatRun$Combine", "wear", "I", false)
  | 7 => ("WheatRun$Combine", "isBroken", "Z", false)
  | 8 => ("WheatRun$Combine", "idle", "I", false)
  | 9 => ("WheatRun$Combine", "goal", "I", false)
  | 10 => ("WheatRun$Combine", "acresCut", "I", false)
  | _ => ("WheatRun$Combine", "bushelsCut", "I", false)
def tyX0 : Nat → FieldType := fun k => match k with
  | 0 => .int
  | 1 => .int
  | 2 => .int
  | 3 => .int
  | 4 => .int
  | 5 => .int
  | 6 => .int
  | 7 => .boolean
  | 8 => .int
  | 9 => .int
  | 10 => .int
  | _ => .int
abbrev wsX00 : List Cond := u_ws RX0 TX0 12
theorem nmX0 : ∀ a, a < 12 → ∀ b, b < 12 → a ≠ b → (TX0 a).2.1 ≠ (TX0 b).2.1 := by decide +kernel
theorem tyX0_ok : ∀ k, k < 12 → parseFieldDescriptor (TX0 k).2.2.1 = some (tyX0 k) := by decide +kernel
abbrev cX0_init : ByteArray := prog_2_method_1_code
def yX0_init : MethodName := ⟨RX0, "<init>", "(III)V"⟩
abbrev cX0_copyFrom : ByteArray := prog_2_method_2_code
def yX0_copyFrom : MethodName := ⟨RX0, "copyFrom", "(LWheatRun$Combine;)V"⟩
abbrev cX0_passHour : ByteArray := prog_2_method_3_code
def yX0_passHour : MethodName := ⟨RX0, "passHour", "(LWheatRun$Field;II)V"⟩
abbrev cX0_holdsAnother : ByteArray := prog_2_method_4_code
def yX0_holdsAnother : MethodName := ⟨RX0, "holdsAnother", "()Z"⟩
abbrev cX0_acresAtOnce : ByteArray := prog_2_method_5_code
def yX0_acresAtOnce : MethodName := ⟨RX0, "acresAtOnce", "(LWheatRun$Field;)I"⟩
abbrev cX0_harvest : ByteArray := prog_2_method_6_code
def yX0_harvest : MethodName := ⟨RX0, "harvest", "(LWheatRun$Field;I)V"⟩
abbrev cX0_metered : ByteArray := prog_2_method_7_code
def yX0_metered : MethodName := ⟨RX0, "metered", "(I)I"⟩
def RX1 : String := "WheatRun$Elevator"
def TX1 : u_T := fun k => match k with
  | 0 => ("WheatRun$Elevator", "mile", "I", false)
  | 1 => ("WheatRun$Elevator", "room", "I", false)
  | 2 => ("WheatRun$Elevator", "from", "I", false)
  | 3 => ("WheatRun$Elevator", "to", "I", false)
  | 4 => ("WheatRun$Elevator", "least", "I", false)
  | _ => ("WheatRun$Elevator", "greatest", "I", false)
def tyX1 : Nat → FieldType := fun k => match k with
  | 0 => .int
  | 1 => .int
  | 2 => .int
  | 3 => .int
  | 4 => .int
  | _ => .int
abbrev wsX10 : List Cond := u_ws RX1 TX1 6
theorem nmX1 : ∀ a, a < 6 → ∀ b, b < 6 → a ≠ b → (TX1 a).2.1 ≠ (TX1 b).2.1 := by decide +kernel
theorem tyX1_ok : ∀ k, k < 6 → parseFieldDescriptor (TX1 k).2.2.1 = some (tyX1 k) := by decide +kernel
abbrev cX1_init : ByteArray := prog_3_method_1_code
def yX1_init : MethodName := ⟨RX1, "<init>", "(IIIIII)V"⟩
abbrev cX1_copyFrom : ByteArray := prog_3_method_2_code
def yX1_copyFrom : MethodName := ⟨RX1, "copyFrom", "(LWheatRun$Elevator;)V"⟩
abbrev cX1_takes : ByteArray := prog_3_method_3_code
def yX1_takes : MethodName := ⟨RX1, "takes", "(LWheatRun$Truck;I)Z"⟩
abbrev cX1_isOpen : ByteArray := prog_3_method_4_code
def yX1_isOpen : MethodName := ⟨RX1, "isOpen", "(I)Z"⟩
abbrev cX1_discount : ByteArray := prog_3_method_5_code
def yX1_discount : MethodName := ⟨RX1, "discount", "(I)I"⟩
def RX2 : String := "WheatRun$Field"
def TX2 : u_T := fun k => match k with
  | 0 => ("WheatRun$Field", "farmer", "I", false)
  | 1 => ("WheatRun$Field", "mile", "I", false)
  | 2 => ("WheatRun$Field", "acres", "I", false)
  | 3 => ("WheatRun$Field", "bushels", "I", false)
  | 4 => ("WheatRun$Field", "share", "I", false)
  | 5 => ("WheatRun$Field", "acresCut", "I", false)
  | 6 => ("WheatRun$Field", "ripe", "I", false)
  | 7 => ("WheatRun$Field", "damp", "I", false)
  | 8 => ("WheatRun$Field", "lost", "I", false)
  | 9 => ("WheatRun$Field", "map", "I", false)
  | 10 => ("WheatRun$Field", "sold", "I", false)
  | 11 => ("WheatRun$Field", "forFarmer", "I", false)
  | _ => ("WheatRun$Field", "forLandlord", "I", false)
def tyX2 : Nat → FieldType := fun k => match k with
  | 0 => .int
  | 1 => .int
  | 2 => .int
  | 3 => .int
  | 4 => .int
  | 5 => .int
  | 6 => .int
  | 7 => .int
  | 8 => .int
  | 9 => .int
  | 10 => .int
  | 11 => .int
  | _ => .int
abbrev wsX20 : List Cond := u_ws RX2 TX2 13
theorem nmX2 : ∀ a, a < 13 → ∀ b, b < 13 → a ≠ b → (TX2 a).2.1 ≠ (TX2 b).2.1 := by decide +kernel
theorem tyX2_ok : ∀ k, k < 13 → parseFieldDescriptor (TX2 k).2.2.1 = some (tyX2 k) := by decide +kernel
abbrev cX2_init : ByteArray := prog_4_method_1_code
def yX2_init : MethodName := ⟨RX2, "<init>", "(IIIII)V"⟩
abbrev cX2_copyFrom : ByteArray := prog_4_method_2_code
def yX2_copyFrom : MethodName := ⟨RX2, "copyFrom", "(LWheatRun$Field;)V"⟩
abbrev cX2_passHour : ByteArray := prog_4_method_3_code
def yX2_passHour : MethodName := ⟨RX2, "passHour", "(IIII)V"⟩
abbrev cX2_ripen : ByteArray := prog_4_method_4_code
def yX2_ripen : MethodName := ⟨RX2, "ripen", "(I)V"⟩
abbrev cX2_soakOrDry : ByteArray := prog_4_method_5_code
def yX2_soakOrDry : MethodName := ⟨RX2, "soakOrDry", "(II)V"⟩
abbrev cX2_shatter : ByteArray := prog_4_method_6_code
def yX2_shatter : MethodName := ⟨RX2, "shatter", "(II)V"⟩
abbrev cX2_isFit : ByteArray := prog_4_method_7_code
def yX2_isFit : MethodName := ⟨RX2, "isFit", "(I)Z"⟩
abbrev cX2_uncut : ByteArray := prog_4_method_8_code
def yX2_uncut : MethodName := ⟨RX2, "uncut", "()I"⟩
abbrev cX2_brings : ByteArray := prog_4_method_9_code
def yX2_brings : MethodName := ⟨RX2, "brings", "()I"⟩
abbrev cX2_correction : ByteArray := prog_4_method_10_code
def yX2_correction : MethodName := ⟨RX2, "correction", "(I)I"⟩
abbrev cX2_credit : ByteArray := prog_4_method_11_code
def yX2_credit : MethodName := ⟨RX2, "credit", "(II)V"⟩
def RX3 : String := "WheatRun$Land"
def TX3 : u_T := fun k => match k with
  | 0 => ("WheatRun$Land", "fields", "Ljava/util/ArrayList;", true)
  | 1 => ("WheatRun$Land", "combines", "Ljava/util/ArrayList;", true)
  | 2 => ("WheatRun$Land", "trucks", "Ljava/util/ArrayList;", true)
  | 3 => ("WheatRun$Land", "elevators", "Ljava/util/ArrayList;", true)
  | 4 => ("WheatRun$Land", "tickets", "Ljava/util/ArrayList;", true)
  | 5 => ("WheatRun$Land", "isTrial", "Z", true)
  | 6 => ("WheatRun$Land", "now", "I", false)
  | 7 => ("WheatRun$Land", "price", "I", false)
  | _ => ("WheatRun$Land", "money", "I", false)
def tyX3 : Nat → FieldType := fun k => match k with
  | 0 => .object "java/util/ArrayList"
  | 1 => .object "java/util/ArrayList"
  | 2 => .object "java/util/ArrayList"
  | 3 => .object "java/util/ArrayList"
  | 4 => .object "java/util/ArrayList"
  | 5 => .boolean
  | 6 => .int
  | 7 => .int
  | _ => .int
abbrev wsX30 : List Cond := u_ws RX3 TX3 9
theorem nmX3 : ∀ a, a < 9 → ∀ b, b < 9 → a ≠ b → (TX3 a).2.1 ≠ (TX3 b).2.1 := by decide +kernel
theorem tyX3_ok : ∀ k, k < 9 → parseFieldDescriptor (TX3 k).2.2.1 = some (tyX3 k) := by decide +kernel
abbrev cX3_init : ByteArray := prog_5_method_1_code
def yX3_init : MethodName := ⟨RX3, "<init>", "(Z)V"⟩
abbrev cX3_copyFrom : ByteArray := prog_5_method_2_code
def yX3_copyFrom : MethodName := ⟨RX3, "copyFrom", "(LWheatRun$Land;)V"⟩
abbrev cX3_addRowsAs : ByteArray := prog_5_method_3_code
def yX3_addRowsAs : MethodName := ⟨RX3, "addRowsAs", "(LWheatRun$Land;)V"⟩
abbrev cX3_fieldAt : ByteArray := prog_5_method_4_code
def yX3_fieldAt : MethodName := ⟨RX3, "fieldAt", "(I)LWheatRun$Field;"⟩
abbrev cX3_combineAt : ByteArray := prog_5_method_5_code
def yX3_combineAt : MethodName := ⟨RX3, "combineAt", "(I)LWheatRun$Combine;"⟩
abbrev cX3_truckAt : ByteArray := prog_5_method_6_code
def yX3_truckAt : MethodName := ⟨RX3, "truckAt", "(I)LWheatRun$Truck;"⟩
abbrev cX3_elevatorAt : ByteArray := prog_5_method_7_code
def yX3_elevatorAt : MethodName := ⟨RX3, "elevatorAt", "(I)LWheatRun$Elevator;"⟩
abbrev cX3_ticketAt : ByteArray := prog_5_method_8_code
def yX3_ticketAt : MethodName := ⟨RX3, "ticketAt", "(I)LWheatRun$Ticket;"⟩
abbrev cX3_clock : ByteArray := prog_5_method_9_code
def yX3_clock : MethodName := ⟨RX3, "clock", "()I"⟩
abbrev cX3_passHour : ByteArray := prog_5_method_10_code
def yX3_passHour : MethodName := ⟨RX3, "passHour", "(III)V"⟩
abbrev cX3_passTruckHour : ByteArray := prog_5_method_11_code
def yX3_passTruckHour : MethodName := ⟨RX3, "passTruckHour", "(LWheatRun$Truck;)V"⟩
abbrev cX3_unload : ByteArray := prog_5_method_12_code
def yX3_unload : MethodName := ⟨RX3, "unload", "(LWheatRun$Truck;LWheatRun$Elevator;)V"⟩
abbrev cX3_writeTicket : ByteArray := prog_5_method_13_code
def yX3_writeTicket : MethodName := ⟨RX3, "writeTicket", "(LWheatRun$Truck;LWheatRun$Elevator;)V"⟩
abbrev cX3_combinesSentTo : ByteArray := prog_5_method_14_code
def yX3_combinesSentTo : MethodName := ⟨RX3, "combinesSentTo", "(I)I"⟩
abbrev cX3_onTheWay : ByteArray := prog_5_method_15_code
def yX3_onTheWay : MethodName := ⟨RX3, "onTheWay", "(I)I"⟩
abbrev cX3_allOnTheWay : ByteArray := prog_5_method_16_code
def yX3_allOnTheWay : MethodName := ⟨RX3, "allOnTheWay", "()I"⟩
abbrev cX3_uncutAcres : ByteArray := prog_5_method_17_code
def yX3_uncutAcres : MethodName := ⟨RX3, "uncutAcres", "()I"⟩
abbrev cX3_brokenCombines : ByteArray := prog_5_method_18_code
def yX3_brokenCombines : MethodName := ⟨RX3, "brokenCombines", "()I"⟩
abbrev cX3_allRoom : ByteArray := prog_5_method_19_code
def yX3_allRoom : MethodName := ⟨RX3, "allRoom", "()I"⟩
abbrev cX3_allIdle : ByteArray := prog_5_method_20_code
def yX3_allIdle : MethodName := ⟨RX3, "allIdle", "()I"⟩
abbrev cX3_allQueued : ByteArray := prog_5_method_21_code
def yX3_allQueued : MethodName := ⟨RX3, "allQueued", "()I"⟩
def RX4 : String := "WheatRun$Ticket"
def TX4 : u_T := fun k => match k with
  | 0 => ("WheatRun$Ticket", "field", "I", true)
  | 1 => ("WheatRun$Ticket", "bushels", "I", true)
  | 2 => ("WheatRun$Ticket", "damp", "I", true)
  | 3 => ("WheatRun$Ticket", "discount", "I", true)
  | 4 => ("WheatRun$Ticket", "elevator", "I", true)
  | 5 => ("WheatRun$Ticket", "hour", "I", true)
  | _ => ("WheatRun$Ticket", "worth", "I", true)
def tyX4 : Nat → FieldType := fun k => match k with
  | 0 => .int
  | 1 => .int
  | 2 => .int
  | 3 => .int
  | 4 => .int
  | 5 => .int
  | _ => .int
abbrev wsX40 : List Cond := u_ws RX4 TX4 7
theorem nmX4 : ∀ a, a < 7 → ∀ b, b < 7 → a ≠ b → (TX4 a).2.1 ≠ (TX4 b).2.1 := by decide +kernel
theorem tyX4_ok : ∀ k, k < 7 → parseFieldDescriptor (TX4 k).2.2.1 = some (tyX4 k) := by decide +kernel
abbrev cX4_init : ByteArray := prog_6_method_1_code
def yX4_init : MethodName := ⟨RX4, "<init>", "(LWheatRun$Truck;III)V"⟩
def RX5 : String := "WheatRun$Truck"
def TX5 : u_T := fun k => match k with
  | 0 => ("WheatRun$Truck", "mile", "I", false)
  | 1 => ("WheatRun$Truck", "hours", "I", false)
  | 2 => ("WheatRun$Truck", "load", "I", false)
  | 3 => ("WheatRun$Truck", "loadField", "I", false)
  | 4 => ("WheatRun$Truck", "damp", "I", false)
  | 5 => ("WheatRun$Truck", "rest", "I", false)
  | 6 => ("WheatRun$Truck", "queued", "I", false)
  | 7 => ("WheatRun$Truck", "toCombine", "I", false)
  | 8 => ("WheatRun$Truck", "toElevator", "I", false)
  | _ => ("WheatRun$Truck", "driven", "I", false)
def tyX5 : Nat → FieldType := fun k => match k with
  | 0 => .int
  | 1 => .int
  | 2 => .int
  | 3 => .int
  | 4 => .int
  | 5 => .int
  | 6 => .int
  | 7 => .int
  | 8 => .int
  | _ => .int
abbrev wsX50 : List Cond := u_ws RX5 TX5 10
theorem nmX5 : ∀ a, a < 10 → ∀ b, b < 10 → a ≠ b → (TX5 a).2.1 ≠ (TX5 b).2.1 := by decide +kernel
theorem tyX5_ok : ∀ k, k < 10 → parseFieldDescriptor (TX5 k).2.2.1 = some (tyX5 k) := by decide +kernel
abbrev cX5_init : ByteArray := prog_7_method_1_code
def yX5_init : MethodName := ⟨RX5, "<init>", "(I)V"⟩
abbrev cX5_copyFrom : ByteArray := prog_7_method_2_code
def yX5_copyFrom : MethodName := ⟨RX5, "copyFrom", "(LWheatRun$Truck;)V"⟩
abbrev cX5_mustRest : ByteArray := prog_7_method_3_code
def yX5_mustRest : MethodName := ⟨RX5, "mustRest", "()Z"⟩
abbrev cX5_sleepHour : ByteArray := prog_7_method_4_code
def yX5_sleepHour : MethodName := ⟨RX5, "sleepHour", "()V"⟩
abbrev cX5_drive : ByteArray := prog_7_method_5_code
def yX5_drive : MethodName := ⟨RX5, "drive", "(I)V"⟩
abbrev cX5_takeFrom : ByteArray := prog_7_method_6_code
def yX5_takeFrom : MethodName := ⟨RX5, "takeFrom", "(LWheatRun$Combine;)V"⟩
def RX6 : String := "WheatRun"
def TX6 : u_T := fun k => match k with
  | 0 => ("WheatRun", "land", "LWheatRun$Land;", true)
  | 1 => ("WheatRun", "trial", "LWheatRun$Land;", true)
  | _ => ("WheatRun", "trialField", "LWheatRun$Field;", true)
def tyX6 : Nat → FieldType := fun k => match k with
  | 0 => .object "WheatRun$Land"
  | 1 => .object "WheatRun$Land"
  | _ => .object "WheatRun$Field"
abbrev wsX60 : List Cond := u_ws RX6 TX6 3
theorem nmX6 : ∀ a, a < 3 → ∀ b, b < 3 → a ≠ b → (TX6 a).2.1 ≠ (TX6 b).2.1 := by decide +kernel
theorem tyX6_ok : ∀ k, k < 3 → parseFieldDescriptor (TX6 k).2.2.1 = some (tyX6 k) := by decide +kernel
abbrev cX6_init : ByteArray := prog_1_method_1_code
def yX6_init : MethodName := ⟨RX6, "<init>", "()V"⟩
abbrev cX6_field : ByteArray := prog_1_method_2_code
def yX6_field : MethodName := ⟨RX6, "field", "(IIIII)I"⟩
abbrev cX6_crop : ByteArray := prog_1_method_3_code
def yX6_crop : MethodName := ⟨RX6, "crop", "(III)I"⟩
abbrev cX6_combine : ByteArray := prog_1_method_4_code
def yX6_combine : MethodName := ⟨RX6, "combine", "(II)I"⟩
abbrev cX6_truck : ByteArray := prog_1_method_5_code
def yX6_truck : MethodName := ⟨RX6, "truck", "(I)I"⟩
abbrev cX6_elevator : ByteArray := prog_1_method_6_code
def yX6_elevator : MethodName := ⟨RX6, "elevator", "(IIIIII)I"⟩
abbrev cX6_cut : ByteArray := prog_1_method_8_code
def yX6_cut : MethodName := ⟨RX6, "cut", "(II)I"⟩
abbrev cX6_fetch : ByteArray := prog_1_method_9_code
def yX6_fetch : MethodName := ⟨RX6, "fetch", "(II)I"⟩
abbrev cX6_haul : ByteArray := prog_1_method_10_code
def yX6_haul : MethodName := ⟨RX6, "haul", "(II)I"⟩
abbrev cX6_pass : ByteArray := prog_1_method_14_code
def yX6_pass : MethodName := ⟨RX6, "pass", "(IIII)I"⟩
abbrev cX6_ofField : ByteArray := prog_1_method_15_code
def yX6_ofField : MethodName := ⟨RX6, "ofField", "(II)I"⟩
abbrev cX6_ofCombine : ByteArray := prog_1_method_16_code
def yX6_ofCombine : MethodName := ⟨RX6, "ofCombine", "(II)I"⟩
abbrev cX6_ofTruck : ByteArray := prog_1_method_17_code
def yX6_ofTruck : MethodName := ⟨RX6, "ofTruck", "(II)I"⟩
abbrev cX6_ofTicket : ByteArray := prog_1_method_18_code
def yX6_ofTicket : MethodName := ⟨RX6, "ofTicket", "(II)I"⟩
abbrev cX6_owed : ByteArray := prog_1_method_19_code
def yX6_owed : MethodName := ⟨RX6, "owed", "(IZ)I"⟩
abbrev cX6_many : ByteArray := prog_1_method_20_code
def yX6_many : MethodName := ⟨RX6, "many", "(I)I"⟩
abbrev cX6_readyIn : ByteArray := prog_1_method_22_code
def yX6_readyIn : MethodName := ⟨RX6, "readyIn", "(III)I"⟩
abbrev cX6_nextField : ByteArray := prog_1_method_23_code
def yX6_nextField : MethodName := ⟨RX6, "nextField", "(IIII)I"⟩
abbrev cX6_waiting : ByteArray := prog_1_method_24_code
def yX6_waiting : MethodName := ⟨RX6, "waiting", "(IIIII)I"⟩
abbrev cX6_digest : ByteArray := prog_1_method_25_code
def yX6_digest : MethodName := ⟨RX6, "digest", "()J"⟩
abbrev cX6_isOutside : ByteArray := prog_1_method_26_code
def yX6_isOutside : MethodName := ⟨RX6, "isOutside", "(III)Z"⟩
abbrev cX6_isNoWeather : ByteArray := prog_1_method_27_code
def yX6_isNoWeather : MethodName := ⟨RX6, "isNoWeather", "(III)Z"⟩
abbrev cX6_isNoForecast : ByteArray := prog_1_method_28_code
def yX6_isNoForecast : MethodName := ⟨RX6, "isNoForecast", "(IIII)Z"⟩
abbrev cX6_towards : ByteArray := prog_1_method_29_code
def yX6_towards : MethodName := ⟨RX6, "towards", "(III)I"⟩
abbrev cX6_bushelsIfSent : ByteArray := prog_1_method_30_code
def yX6_bushelsIfSent : MethodName := ⟨RX6, "bushelsIfSent", "(IIIII)I"⟩
def RX7 : String := "WheatRunLaw$Told"
def TX7 : u_T := fun k => match k with
  | 0 => ("WheatRunLaw$Told", "m", "LWheatRun;", true)
  | 1 => ("WheatRunLaw$Told", "s", "[I", true)
  | 2 => ("WheatRunLaw$Told", "draws", "I", false)
  | 3 => ("WheatRunLaw$Told", "f", "[[I", false)
  | 4 => ("WheatRunLaw$Told", "c", "[[I", false)
  | 5 => ("WheatRunLaw$Told", "t", "[[I", false)
  | 6 => ("WheatRunLaw$Told", "e", "[[I", false)
  | 7 => ("WheatRunLaw$Told", "tickets", "[[I", false)
  | 8 => ("WheatRunLaw$Told", "owed", "[I", true)
  | 9 => ("WheatRunLaw$Told", "now", "I", false)
  | 10 => ("WheatRunLaw$Told", "price", "I", false)
  | _ => ("WheatRunLaw$Told", "money", "I", false)
def tyX7 : Nat → FieldType := fun k => match k with
  | 0 => .object "WheatRun"
  | 1 => .array .int
  | 2 => .int
  | 3 => .array (.array .int)
  | 4 => .array (.array .int)
  | 5 => .array (.array .int)
  | 6 => .array (.array .int)
  | 7 => .array (.array .int)
  | 8 => .array .int
  | 9 => .int
  | 10 => .int
  | _ => .int
abbrev wsX70 : List Cond := u_ws RX7 TX7 12
theorem nmX7 : ∀ a, a < 12 → ∀ b, b < 12 → a ≠ b → (TX7 a).2.1 ≠ (TX7 b).2.1 := by decide +kernel
theorem tyX7_ok : ∀ k, k < 12 → parseFieldDescriptor (TX7 k).2.2.1 = some (tyX7 k) := by decide +kernel
abbrev cX7_init : ByteArray := prog_9_method_1_code
def yX7_init : MethodName := ⟨RX7, "<init>", "([II)V"⟩
abbrev cX7_draw : ByteArray := prog_9_method_2_code
def yX7_draw : MethodName := ⟨RX7, "draw", "(I)I"⟩
abbrev cX7_plus : ByteArray := prog_9_method_3_code
def yX7_plus : MethodName := ⟨RX7, "plus", "([[I[I)[[I"⟩
abbrev cX7_field : ByteArray := prog_9_method_4_code
def yX7_field : MethodName := ⟨RX7, "field", "(IIIII)Z"⟩
abbrev cX7_crop : ByteArray := prog_9_method_5_code
def yX7_crop : MethodName := ⟨RX7, "crop", "(III)Z"⟩
abbrev cX7_combine : ByteArray := prog_9_method_6_code
def yX7_combine : MethodName := ⟨RX7, "combine", "(II)Z"⟩
abbrev cX7_truck : ByteArray := prog_9_method_7_code
def yX7_truck : MethodName := ⟨RX7, "truck", "(I)Z"⟩
abbrev cX7_elevator : ByteArray := prog_9_method_8_code
def yX7_elevator : MethodName := ⟨RX7, "elevator", "(IIIIII)Z"⟩
abbrev cX7_found : ByteArray := prog_9_method_20_code
def yX7_found : MethodName := ⟨RX7, "found", "(I)Z"⟩
def RX8 : String := "WheatRunModel$Land"
def TX8 : u_T := fun k => match k with
  | _ => ("", "", "", false)
def tyX8 : Nat → FieldType := fun k => match k with
  | _ => .int
abbrev wsX80 : List Cond := u_ws RX8 TX8 0
theorem nmX8 : ∀ a, a < 0 → ∀ b, b < 0 → a ≠ b → (TX8 a).2.1 ≠ (TX8 b).2.1 := by decide +kernel
theorem tyX8_ok : ∀ k, k < 0 → parseFieldDescriptor (TX8 k).2.2.1 = some (tyX8 k) := by decide +kernel
def RX9 : String := "WheatRunModel"
def TX9 : u_T := fun k => match k with
  | _ => ("", "", "", false)
def tyX9 : Nat → FieldType := fun k => match k with
  | _ => .int
abbrev wsX90 : List Cond := u_ws RX9 TX9 0
theorem nmX9 : ∀ a, a < 0 → ∀ b, b < 0 → a ≠ b → (TX9 a).2.1 ≠ (TX9 b).2.1 := by decide +kernel
theorem tyX9_ok : ∀ k, k < 0 → parseFieldDescriptor (TX9 k).2.2.1 = some (tyX9 k) := by decide +kernel
def RJx145de : String := "java/io/Serializable"
def TJx145de : u_T := fun k => match k with
  | _ => ("", "", "", false)
def tyJx145de : Nat → FieldType := fun k => match k with
  | _ => .int
abbrev wsJx145de0 : List Cond := u_ws RJx145de TJx145de 0
theorem nmJx145de : ∀ a, a < 0 → ∀ b, b < 0 → a ≠ b → (TJx145de a).2.1 ≠ (TJx145de b).2.1 := by decide +kernel
theorem tyJx145de_ok : ∀ k, k < 0 → parseFieldDescriptor (TJx145de k).2.2.1 = some (tyJx145de k) := by decide +kernel
def RJx8e188 : String := "java/lang/Cloneable"
def TJx8e188 : u_T := fun k => match k with
  | _ => ("", "", "", false)
def tyJx8e188 : Nat → FieldType := fun k => match k with
  | _ => .int
abbrev wsJx8e1880 : List Cond := u_ws RJx8e188 TJx8e188 0
theorem nmJx8e188 : ∀ a, a < 0 → ∀ b, b < 0 → a ≠ b → (TJx8e188 a).2.1 ≠ (TJx8e188 b).2.1 := by decide +kernel
theorem tyJx8e188_ok : ∀ k, k < 0 → parseFieldDescriptor (TJx8e188 k).2.2.1 = some (tyJx8e188 k) := by decide +kernel
def RJxab1ab : String := "java/lang/Iterable"
def TJxab1ab : u_T := fun k => match k with
  | _ => ("", "", "", false)
def tyJxab1ab : Nat → FieldType := fun k => match k with
  | _ => .int
abbrev wsJxab1ab0 : List Cond := u_ws RJxab1ab TJxab1ab 0
theorem nmJxab1ab : ∀ a, a < 0 → ∀ b, b < 0 → a ≠ b → (TJxab1ab a).2.1 ≠ (TJxab1ab b).2.1 := by decide +kernel
theorem tyJxab1ab_ok : ∀ k, k < 0 → parseFieldDescriptor (TJxab1ab k).2.2.1 = some (tyJxab1ab k) := by decide +kernel
def RJ9 : String := "java/lang/Math"
def TJ9 : u_T := fun k => match k with
  | _ => ("", "", "", false)
def tyJ9 : Nat → FieldType := fun k => match k with
  | _ => .int
abbrev wsJ90 : List Cond := u_ws RJ9 TJ9 0
theorem nmJ9 : ∀ a, a < 0 → ∀ b, b < 0 → a ≠ b → (TJ9 a).2.1 ≠ (TJ9 b).2.1 := by decide +kernel
theorem tyJ9_ok : ∀ k, k < 0 → parseFieldDescriptor (TJ9 k).2.2.1 = some (tyJ9 k) := by decide +kernel
abbrev cJ9_abs_0f7a4 : ByteArray := prog_19_method_59_code
def yJ9_abs_0f7a4 : MethodName := ⟨RJ9, "abs", "(I)I"⟩
abbrev cJ9_max_7cf53 : ByteArray := prog_19_method_65_code
def yJ9_max_7cf53 : MethodName := ⟨RJ9, "max", "(II)I"⟩
abbrev cJ9_min_7cf53 : ByteArray := prog_19_method_69_code
def yJ9_min_7cf53 : MethodName := ⟨RJ9, "min", "(II)I"⟩
def RJ0 : String := "java/lang/String"
def TJ0 : u_T := fun k => match k with
  | _ => ("", "", "", false)
def tyJ0 : Nat → FieldType := fun k => match k with
  | _ => .int
abbrev wsJ00 : List Cond := u_ws RJ0 TJ0 0
theorem nmJ0 : ∀ a, a < 0 → ∀ b, b < 0 → a ≠ b → (TJ0 a).2.1 ≠ (TJ0 b).2.1 := by decide +kernel
theorem tyJ0_ok : ∀ k, k < 0 → parseFieldDescriptor (TJ0 k).2.2.1 = some (tyJ0 k) := by decide +kernel
def RJ10 : String := "java/lang/System"
def TJ10 : u_T := fun k => match k with
  | _ => ("", "", "", false)
def tyJ10 : Nat → FieldType := fun k => match k with
  | _ => .int
abbrev wsJ100 : List Cond := u_ws RJ10 TJ10 0
theorem nmJ10 : ∀ a, a < 0 → ∀ b, b < 0 → a ≠ b → (TJ10 a).2.1 ≠ (TJ10 b).2.1 := by decide +kernel
theorem tyJ10_ok : ∀ k, k < 0 → parseFieldDescriptor (TJ10 k).2.2.1 = some (tyJ10 k) := by decide +kernel
def RJxa1e45 : String := "java/util/AbstractCollection"
def TJxa1e45 : u_T := fun k => match k with
  | _ => ("", "", "", false)
def tyJxa1e45 : Nat → FieldType := fun k => match k with
  | _ => .int
abbrev wsJxa1e450 : List Cond := u_ws RJxa1e45 TJxa1e45 0
theorem nmJxa1e45 : ∀ a, a < 0 → ∀ b, b < 0 → a ≠ b → (TJxa1e45 a).2.1 ≠ (TJxa1e45 b).2.1 := by decide +kernel
theorem tyJxa1e45_ok : ∀ k, k < 0 → parseFieldDescriptor (TJxa1e45 k).2.2.1 = some (tyJxa1e45 k) := by decide +kernel
abbrev cJxa1e45_init_da8c8 : ByteArray := prog_24_method_1_code
def yJxa1e45_init_da8c8 : MethodName := ⟨RJxa1e45, "<init>", "()V"⟩
def RJxc12de : String := "java/util/AbstractList"
def TJxc12de : u_T := fun k => match k with
  | _ => ("", "", "", false)
def tyJxc12de : Nat → FieldType := fun k => match k with
  | _ => .int
abbrev wsJxc12de0 : List Cond := u_ws RJxc12de TJxc12de 0
theorem nmJxc12de : ∀ a, a < 0 → ∀ b, b < 0 → a ≠ b → (TJxc12de a).2.1 ≠ (TJxc12de b).2.1 := by decide +kernel
theorem tyJxc12de_ok : ∀ k, k < 0 → parseFieldDescriptor (TJxc12de k).2.2.1 = some (tyJxc12de k) := by decide +kernel
abbrev cJxc12de_init_da8c8 : ByteArray := prog_25_method_1_code
def yJxc12de_init_da8c8 : MethodName := ⟨RJxc12de, "<init>", "()V"⟩
def RJx4a65c : String := "java/util/ArrayList"
def TJx4a65c : u_T := fun k => match k with
  | 0 => ("java/util/AbstractList", "modCount", "I", false)
  | 1 => ("java/util/ArrayList", "elementData", "[Ljava/lang/Object;", false)
  | _ => ("java/util/ArrayList", "size", "I", false)
def tyJx4a65c : Nat → FieldType := fun k => match k with
  | 0 => .int
  | 1 => .array (.object "java/lang/Object")
  | _ => .int
abbrev wsJx4a65c0 : List Cond := u_ws RJx4a65c TJx4a65c 3
theorem nmJx4a65c : ∀ a, a < 3 → ∀ b, b < 3 → a ≠ b → (TJx4a65c a).2.1 ≠ (TJx4a65c b).2.1 := by decide +kernel
theorem tyJx4a65c_ok : ∀ k, k < 3 → parseFieldDescriptor (TJx4a65c k).2.2.1 = some (tyJx4a65c k) := by decide +kernel
abbrev cJx4a65c_init_da8c8 : ByteArray := prog_26_method_2_code
def yJx4a65c_init_da8c8 : MethodName := ⟨RJx4a65c, "<init>", "()V"⟩
abbrev cJx4a65c_grow_92f84 : ByteArray := prog_26_method_6_code
def yJx4a65c_grow_92f84 : MethodName := ⟨RJx4a65c, "grow", "(I)[Ljava/lang/Object;"⟩
abbrev cJx4a65c_grow_d5877 : ByteArray := prog_26_method_7_code
def yJx4a65c_grow_d5877 : MethodName := ⟨RJx4a65c, "grow", "()[Ljava/lang/Object;"⟩
abbrev cJx4a65c_size_8abf5 : ByteArray := prog_26_method_8_code
def yJx4a65c_size_8abf5 : MethodName := ⟨RJx4a65c, "size", "()I"⟩
abbrev cJx4a65c_elementData_915e3 : ByteArray := prog_26_method_18_code
def yJx4a65c_elementData_915e3 : MethodName := ⟨RJx4a65c, "elementData", "(I)Ljava/lang/Object;"⟩
abbrev cJx4a65c_get_915e3 : ByteArray := prog_26_method_20_code
def yJx4a65c_get_915e3 : MethodName := ⟨RJx4a65c, "get", "(I)Ljava/lang/Object;"⟩
abbrev cJx4a65c_add_72be8 : ByteArray := prog_26_method_24_code
def yJx4a65c_add_72be8 : MethodName := ⟨RJx4a65c, "add", "(Ljava/lang/Object;[Ljava/lang/Object;I)V"⟩
abbrev cJx4a65c_add_9ea2d : ByteArray := prog_26_method_25_code
def yJx4a65c_add_9ea2d : MethodName := ⟨RJx4a65c, "add", "(Ljava/lang/Object;)Z"⟩
def RJ7 : String := "java/util/Arrays"
def TJ7 : u_T := fun k => match k with
  | _ => ("", "", "", false)
def tyJ7 : Nat → FieldType := fun k => match k with
  | _ => .int
abbrev wsJ70 : List Cond := u_ws RJ7 TJ7 0
theorem nmJ7 : ∀ a, a < 0 → ∀ b, b < 0 → a ≠ b → (TJ7 a).2.1 ≠ (TJ7 b).2.1 := by decide +kernel
theorem tyJ7_ok : ∀ k, k < 0 → parseFieldDescriptor (TJ7 k).2.2.1 = some (tyJ7 k) := by decide +kernel
abbrev cJ7_copyOf_1904c : ByteArray := prog_27_method_119_code
def yJ7_copyOf_1904c : MethodName := ⟨RJ7, "copyOf", "([Ljava/lang/Object;I)[Ljava/lang/Object;"⟩
abbrev cJ7_copyOf_6403c : ByteArray := prog_27_method_120_code
def yJ7_copyOf_6403c : MethodName := ⟨RJ7, "copyOf", "([Ljava/lang/Object;ILjava/lang/Class;)[Ljava/lang/Object;"⟩
def RJx5ef63 : String := "java/util/Collection"
def TJx5ef63 : u_T := fun k => match k with
  | _ => ("", "", "", false)
def tyJx5ef63 : Nat → FieldType := fun k => match k with
  | _ => .int
abbrev wsJx5ef630 : List Cond := u_ws RJx5ef63 TJx5ef63 0
theorem nmJx5ef63 : ∀ a, a < 0 → ∀ b, b < 0 → a ≠ b → (TJx5ef63 a).2.1 ≠ (TJx5ef63 b).2.1 := by decide +kernel
theorem tyJx5ef63_ok : ∀ k, k < 0 → parseFieldDescriptor (TJx5ef63 k).2.2.1 = some (tyJx5ef63 k) := by decide +kernel
def RJxbd725 : String := "java/util/List"
def TJxbd725 : u_T := fun k => match k with
  | _ => ("", "", "", false)
def tyJxbd725 : Nat → FieldType := fun k => match k with
  | _ => .int
abbrev wsJxbd7250 : List Cond := u_ws RJxbd725 TJxbd725 0
theorem nmJxbd725 : ∀ a, a < 0 → ∀ b, b < 0 → a ≠ b → (TJxbd725 a).2.1 ≠ (TJxbd725 b).2.1 := by decide +kernel
theorem tyJxbd725_ok : ∀ k, k < 0 → parseFieldDescriptor (TJxbd725 k).2.2.1 = some (tyJxbd725 k) := by decide +kernel
def RJ15 : String := "java/util/Objects"
def TJ15 : u_T := fun k => match k with
  | _ => ("", "", "", false)
def tyJ15 : Nat → FieldType := fun k => match k with
  | _ => .int
abbrev wsJ150 : List Cond := u_ws RJ15 TJ15 0
theorem nmJ15 : ∀ a, a < 0 → ∀ b, b < 0 → a ≠ b → (TJ15 a).2.1 ≠ (TJ15 b).2.1 := by decide +kernel
theorem tyJ15_ok : ∀ k, k < 0 → parseFieldDescriptor (TJ15 k).2.2.1 = some (tyJ15 k) := by decide +kernel
abbrev cJ15_checkIndex_7cf53 : ByteArray := prog_30_method_17_code
def yJ15_checkIndex_7cf53 : MethodName := ⟨RJ15, "checkIndex", "(II)I"⟩
def RJxf0a74 : String := "java/util/RandomAccess"
def TJxf0a74 : u_T := fun k => match k with
  | _ => ("", "", "", false)
def tyJxf0a74 : Nat → FieldType := fun k => match k with
  | _ => .int
abbrev wsJxf0a740 : List Cond := u_ws RJxf0a74 TJxf0a74 0
theorem nmJxf0a74 : ∀ a, a < 0 → ∀ b, b < 0 → a ≠ b → (TJxf0a74 a).2.1 ≠ (TJxf0a74 b).2.1 := by decide +kernel
theorem tyJxf0a74_ok : ∀ k, k < 0 → parseFieldDescriptor (TJxf0a74 k).2.2.1 = some (tyJxf0a74 k) := by decide +kernel
def RJxa66e6 : String := "java/util/SequencedCollection"
def TJxa66e6 : u_T := fun k => match k with
  | _ => ("", "", "", false)
def tyJxa66e6 : Nat → FieldType := fun k => match k with
  | _ => .int
abbrev wsJxa66e60 : List Cond := u_ws RJxa66e6 TJxa66e6 0
theorem nmJxa66e6 : ∀ a, a < 0 → ∀ b, b < 0 → a ≠ b → (TJxa66e6 a).2.1 ≠ (TJxa66e6 b).2.1 := by decide +kernel
theorem tyJxa66e6_ok : ∀ k, k < 0 → parseFieldDescriptor (TJxa66e6 k).2.2.1 = some (tyJxa66e6 k) := by decide +kernel
def RJ8 : String := "jdk/internal/util/ArraysSupport"
def TJ8 : u_T := fun k => match k with
  | _ => ("", "", "", false)
def tyJ8 : Nat → FieldType := fun k => match k with
  | _ => .int
abbrev wsJ80 : List Cond := u_ws RJ8 TJ8 0
theorem nmJ8 : ∀ a, a < 0 → ∀ b, b < 0 → a ≠ b → (TJ8 a).2.1 ≠ (TJ8 b).2.1 := by decide +kernel
theorem tyJ8_ok : ∀ k, k < 0 → parseFieldDescriptor (TJ8 k).2.2.1 = some (tyJ8 k) := by decide +kernel
abbrev cJ8_newLength_cabcc : ByteArray := prog_33_method_27_code
def yJ8_newLength_cabcc : MethodName := ⟨RJ8, "newLength", "(III)I"⟩
abbrev cJ8_hugeLength_7cf53 : ByteArray := prog_33_method_28_code
def yJ8_hugeLength_7cf53 : MethodName := ⟨RJ8, "hugeLength", "(II)I"⟩
def RJ3 : String := "jdk/internal/util/Preconditions"
def TJ3 : u_T := fun k => match k with
  | _ => ("", "", "", false)
def tyJ3 : Nat → FieldType := fun k => match k with
  | _ => .int
abbrev wsJ30 : List Cond := u_ws RJ3 TJ3 0
theorem nmJ3 : ∀ a, a < 0 → ∀ b, b < 0 → a ≠ b → (TJ3 a).2.1 ≠ (TJ3 b).2.1 := by decide +kernel
theorem tyJ3_ok : ∀ k, k < 0 → parseFieldDescriptor (TJ3 k).2.2.1 = some (tyJ3 k) := by decide +kernel
abbrev cJ3_checkIndex_8e157 : ByteArray := prog_34_method_11_code
def yJ3_checkIndex_8e157 : MethodName := ⟨RJ3, "checkIndex", "(IILjava/util/function/BiFunction;)I"⟩
def RL : String := "WheatRunLaw"
abbrev cL_below : ByteArray := method_2_code
def yL_below : MethodName := ⟨RL, "below", "(II)I"⟩
abbrev cL_cell : ByteArray := method_3_code
def yL_cell : MethodName := ⟨RL, "cell", "([II)I"⟩
abbrev cL_law : ByteArray := code
def yL_law : MethodName := ⟨RL, "law", "([I)Z"⟩
abbrev vwCl : List vw_C := [(RJx4a65c, TJx4a65c, 3), (RX0, TX0, 12), (RX1, TX1, 6), (RX2, TX2, 13), (RX3, TX3, 9), (RX4, TX4, 7), (RX5, TX5, 10), (RX6, TX6, 3), (RX7, TX7, 12)]
end
section
def AL : List Cond := lw_tbl.filter goodWord
theorem al_at {w : Cond} (i : Nat) (h : lw_tbl[i]? = some w) (hg : goodWord w = true) : w ∈ AL := List.mem_filter.mpr ⟨List.mem_of_getElem? h, hg⟩
theorem al_tb : ∀ w ∈ AL, w ∈ lw_tbl := fun w h => (List.mem_filter.mp h).1
theorem al_gw : ∀ w ∈ AL, (w.onTables && w.keeps) = true ∨ ∃ ty, w = .arrayClass ty := fun w h => good_of_word (List.mem_filter.mp h).2
theorem al_ps {ws : List Cond} (ps : List Nat) (h : ws = ps.filterMap (fun i => lw_tbl[i]?)) (hg : ws.all goodWord = true) : ∀ w ∈ ws, w ∈ AL := fun w hw => by
  have h1 := List.all_eq_true.mp hg w hw
  rw [h] at hw
  obtain ⟨i, -, hi⟩ := List.mem_filterMap.mp hw
  exact al_at i hi h1
theorem iaX0 : ∀ w ∈ u_ws RX0 TX0 12, w ∈ AL := al_ps [610, 612, 614, 616, 618, 620, 622, 624, 626, 628, 630, 632] (by decide +kernel) (by decide +kernel)
theorem iaX1 : ∀ w ∈ u_ws RX1 TX1 6, w ∈ AL := al_ps [707, 709, 711, 713, 715, 717] (by decide +kernel) (by decide +kernel)
theorem iaX2 : ∀ w ∈ u_ws RX2 TX2 13, w ∈ AL := al_ps [549, 551, 553, 555, 557, 559, 561, 563, 565, 567, 569, 571, 573] (by decide +kernel) (by decide +kernel)
theorem iaX3 : ∀ w ∈ u_ws RX3 TX3 9, w ∈ AL := al_ps [823, 825, 827, 829, 831, 833, 835, 837, 839] (by decide +kernel) (by decide +kernel)
theorem iaX4 : ∀ w ∈ u_ws RX4 TX4 7, w ∈ AL := al_ps [361, 363, 365, 367, 369, 371, 373] (by decide +kernel) (by decide +kernel)
theorem iaX5 : ∀ w ∈ u_ws RX5 TX5 10, w ∈ AL := al_ps [673, 675, 677, 679, 681, 683, 685, 687, 689, 691] (by decide +kernel) (by decide +kernel)
theorem iaX6 : ∀ w ∈ u_ws RX6 TX6 3, w ∈ AL := al_ps [846, 848, 850] (by decide +kernel) (by decide +kernel)
theorem iaX7 : ∀ w ∈ u_ws RX7 TX7 12, w ∈ AL := al_ps [868, 870, 872, 874, 876, 878, 880, 882, 884, 886, 888, 890] (by decide +kernel) (by decide +kernel)
theorem iaJx4a65c : ∀ w ∈ u_ws RJx4a65c TJx4a65c 3, w ∈ AL := al_ps [804, 800, 802] (by decide +kernel) (by decide +kernel)
theorem wk_L_9 : Cond.classLink RL 9 RX7 ∈ AL := al_at 768 (by decide +kernel) rfl
theorem wb_X7 : Cond.instantiable RX7 12 ∈ AL := al_at 769 (by decide +kernel) rfl
theorem wn_X7 : Cond.initialized RX7 ∈ AL := al_at 18 (by decide +kernel) rfl
theorem wf_L_14 : Cond.fieldLink RL 14 "WheatRunLaw$Told" "m" "LWheatRun;" ∈ AL := al_at 856 (by decide +kernel) rfl
theorem wf_L_60 : Cond.fieldLink RL 60 "WheatRunLaw$Told" "f" "[[I" ∈ AL := al_at 860 (by decide +kernel) rfl
theorem wm_L_11 : Cond.methodLink RL 11 yX7_init ∈ AL := al_at 770 (by decide +kernel) rfl
theorem wi_X7_init : Cond.instanceMethod yX7_init ∈ AL := al_at 771 (by decide +kernel) rfl
theorem wc_X7_init : Cond.code yX7_init cX7_init 3 none ∈ AL := al_at 772 (by decide +kernel) rfl
theorem wm_X7_1 : Cond.methodLink RX7 1 objectInit ∈ AL := al_at 773 (by decide +kernel) rfl
theorem wi_objinit : Cond.instanceMethod objectInit ∈ AL := al_at 94 (by decide +kernel) rfl
theorem wc_objinit : Cond.code objectInit ⟨#[0xb1]⟩ 1 none ∈ AL := al_at 95 (by decide +kernel) rfl
theorem wk_X7_7 : Cond.classLink RX7 7 RX6 ∈ AL := al_at 774 (by decide +kernel) rfl
theorem wb_X6 : Cond.instantiable RX6 3 ∈ AL := al_at 507 (by decide +kernel) rfl
theorem wn_X6 : Cond.initialized RX6 ∈ AL := al_at 19 (by decide +kernel) rfl
theorem wf_X7_10 : Cond.fieldLink RX7 10 "WheatRunLaw$Told" "m" "LWheatRun;" ∈ AL := al_at 855 (by decide +kernel) rfl
theorem wk_X7_16 : Cond.classLink RX7 16 "[I" ∈ AL := al_at 853 (by decide +kernel) rfl
theorem wf_X7_18 : Cond.fieldLink RX7 18 "WheatRunLaw$Told" "f" "[[I" ∈ AL := al_at 859 (by decide +kernel) rfl
theorem wf_X7_22 : Cond.fieldLink RX7 22 "WheatRunLaw$Told" "c" "[[I" ∈ AL := al_at 861 (by decide +kernel) rfl
theorem wf_X7_25 : Cond.fieldLink RX7 25 "WheatRunLaw$Told" "t" "[[I" ∈ AL := al_at 862 (by decide +kernel) rfl
theorem wf_X7_28 : Cond.fieldLink RX7 28 "WheatRunLaw$Told" "e" "[[I" ∈ AL := al_at 863 (by decide +kernel) rfl
theorem wf_X7_31 : Cond.fieldLink RX7 31 "WheatRunLaw$Told" "tickets" "[[I" ∈ AL := al_at 864 (by decide +kernel) rfl
theorem wa_int : Cond.arrayClass .int ∈ AL := al_at 893 (by decide +kernel) rfl
theorem wf_X7_34 : Cond.fieldLink RX7 34 "WheatRunLaw$Told" "owed" "[I" ∈ AL := al_at 865 (by decide +kernel) rfl
theorem wf_X7_37 : Cond.fieldLink RX7 37 "WheatRunLaw$Told" "price" "I" ∈ AL := al_at 866 (by decide +kernel) rfl
theorem wf_X7_41 : Cond.fieldLink RX7 41 "WheatRunLaw$Told" "money" "I" ∈ AL := al_at 867 (by decide +kernel) rfl
theorem wf_X7_44 : Cond.fieldLink RX7 44 "WheatRunLaw$Told" "s" "[I" ∈ AL := al_at 857 (by decide +kernel) rfl
theorem wf_X7_47 : Cond.fieldLink RX7 47 "WheatRunLaw$Told" "draws" "I" ∈ AL := al_at 858 (by decide +kernel) rfl
theorem wm_X7_9 : Cond.methodLink RX7 9 yX6_init ∈ AL := al_at 775 (by decide +kernel) rfl
theorem wi_X6_init : Cond.instanceMethod yX6_init ∈ AL := al_at 776 (by decide +kernel) rfl
theorem wc_X6_init : Cond.code yX6_init cX6_init 1 none ∈ AL := al_at 777 (by decide +kernel) rfl
theorem wm_X6_1 : Cond.methodLink RX6 1 objectInit ∈ AL := al_at 778 (by decide +kernel) rfl
theorem wk_X6_7 : Cond.classLink RX6 7 RX3 ∈ AL := al_at 779 (by decide +kernel) rfl
theorem wb_X3 : Cond.instantiable RX3 9 ∈ AL := al_at 292 (by decide +kernel) rfl
theorem wn_X3 : Cond.initialized RX3 ∈ AL := al_at 20 (by decide +kernel) rfl
theorem wf_X6_12 : Cond.fieldLink RX6 12 "WheatRun" "land" "LWheatRun$Land;" ∈ AL := al_at 843 (by decide +kernel) rfl
theorem wf_X6_18 : Cond.fieldLink RX6 18 "WheatRun" "trial" "LWheatRun$Land;" ∈ AL := al_at 844 (by decide +kernel) rfl
theorem wk_X6_21 : Cond.classLink RX6 21 RX2 ∈ AL := al_at 502 (by decide +kernel) rfl
theorem wb_X2 : Cond.instantiable RX2 13 ∈ AL := al_at 232 (by decide +kernel) rfl
theorem wn_X2 : Cond.initialized RX2 ∈ AL := al_at 24 (by decide +kernel) rfl
theorem wf_X6_26 : Cond.fieldLink RX6 26 "WheatRun" "trialField" "LWheatRun$Field;" ∈ AL := al_at 845 (by decide +kernel) rfl
theorem wm_X6_9 : Cond.methodLink RX6 9 yX3_init ∈ AL := al_at 780 (by decide +kernel) rfl
theorem wi_X3_init : Cond.instanceMethod yX3_init ∈ AL := al_at 781 (by decide +kernel) rfl
theorem wc_X3_init : Cond.code yX3_init cX3_init 2 none ∈ AL := al_at 782 (by decide +kernel) rfl
theorem wm_X3_3 : Cond.methodLink RX3 3 objectInit ∈ AL := al_at 783 (by decide +kernel) rfl
theorem wk_X3_9 : Cond.classLink RX3 9 RJx4a65c ∈ AL := al_at 784 (by decide +kernel) rfl
theorem wb_Jx4a65c : Cond.instantiable RJx4a65c 3 ∈ AL := al_at 383 (by decide +kernel) rfl
theorem wn_Jx4a65c : Cond.initialized RJx4a65c ∈ AL := al_at 23 (by decide +kernel) rfl
theorem wf_X3_12 : Cond.fieldLink RX3 12 "WheatRun$Land" "fields" "Ljava/util/ArrayList;" ∈ AL := al_at 807 (by decide +kernel) rfl
theorem wf_X3_18 : Cond.fieldLink RX3 18 "WheatRun$Land" "combines" "Ljava/util/ArrayList;" ∈ AL := al_at 809 (by decide +kernel) rfl
theorem wf_X3_21 : Cond.fieldLink RX3 21 "WheatRun$Land" "trucks" "Ljava/util/ArrayList;" ∈ AL := al_at 811 (by decide +kernel) rfl
theorem wf_X3_24 : Cond.fieldLink RX3 24 "WheatRun$Land" "elevators" "Ljava/util/ArrayList;" ∈ AL := al_at 813 (by decide +kernel) rfl
theorem wf_X3_27 : Cond.fieldLink RX3 27 "WheatRun$Land" "tickets" "Ljava/util/ArrayList;" ∈ AL := al_at 815 (by decide +kernel) rfl
theorem wf_X3_30 : Cond.fieldLink RX3 30 "WheatRun$Land" "price" "I" ∈ AL := al_at 820 (by decide +kernel) rfl
theorem wf_X3_34 : Cond.fieldLink RX3 34 "WheatRun$Land" "money" "I" ∈ AL := al_at 821 (by decide +kernel) rfl
theorem wf_X3_37 : Cond.fieldLink RX3 37 "WheatRun$Land" "isTrial" "Z" ∈ AL := al_at 817 (by decide +kernel) rfl
theorem wm_X3_11 : Cond.methodLink RX3 11 yJx4a65c_init_da8c8 ∈ AL := al_at 785 (by decide +kernel) rfl
theorem wi_Jx4a65c_init_da8c8 : Cond.instanceMethod yJx4a65c_init_da8c8 ∈ AL := al_at 786 (by decide +kernel) rfl
theorem wc_Jx4a65c_init_da8c8 : Cond.code yJx4a65c_init_da8c8 cJx4a65c_init_da8c8 1 none ∈ AL := al_at 787 (by decide +kernel) rfl
theorem wf_Jx4a65c_39 : Cond.fieldLink RJx4a65c 39 "java/util/ArrayList" "DEFAULTCAPACITY_EMPTY_ELEMENTDATA" "[Ljava/lang/Object;" ∈ AL := al_at 393 (by decide +kernel) rfl
theorem wf_Jx4a65c_9 : Cond.fieldLink RJx4a65c 9 "java/util/ArrayList" "elementData" "[Ljava/lang/Object;" ∈ AL := al_at 795 (by decide +kernel) rfl
theorem wm_Jx4a65c_1 : Cond.methodLink RJx4a65c 1 yJxc12de_init_da8c8 ∈ AL := al_at 788 (by decide +kernel) rfl
theorem wi_Jxc12de_init_da8c8 : Cond.instanceMethod yJxc12de_init_da8c8 ∈ AL := al_at 789 (by decide +kernel) rfl
theorem wn_Jxc12de : Cond.initialized RJxc12de ∈ AL := al_at 22 (by decide +kernel) rfl
theorem wc_Jxc12de_init_da8c8 : Cond.code yJxc12de_init_da8c8 cJxc12de_init_da8c8 1 none ∈ AL := al_at 790 (by decide +kernel) rfl
theorem wf_Jxc12de_7 : Cond.fieldLink RJxc12de 7 "java/util/AbstractList" "modCount" "I" ∈ AL := al_at 797 (by decide +kernel) rfl
theorem wm_Jxc12de_1 : Cond.methodLink RJxc12de 1 yJxa1e45_init_da8c8 ∈ AL := al_at 791 (by decide +kernel) rfl
theorem wi_Jxa1e45_init_da8c8 : Cond.instanceMethod yJxa1e45_init_da8c8 ∈ AL := al_at 792 (by decide +kernel) rfl
theorem wn_Jxa1e45 : Cond.initialized RJxa1e45 ∈ AL := al_at 21 (by decide +kernel) rfl
theorem wc_Jxa1e45_init_da8c8 : Cond.code yJxa1e45_init_da8c8 cJxa1e45_init_da8c8 1 none ∈ AL := al_at 793 (by decide +kernel) rfl
theorem wm_Jxa1e45_1 : Cond.methodLink RJxa1e45 1 objectInit ∈ AL := al_at 794 (by decide +kernel) rfl
theorem wm_X6_23 : Cond.methodLink RX6 23 yX2_init ∈ AL := al_at 842 (by decide +kernel) rfl
theorem wi_X2_init : Cond.instanceMethod yX2_init ∈ AL := al_at 518 (by decide +kernel) rfl
theorem wc_X2_init : Cond.code yX2_init cX2_init 6 none ∈ AL := al_at 519 (by decide +kernel) rfl
theorem wm_X2_3 : Cond.methodLink RX2 3 objectInit ∈ AL := al_at 520 (by decide +kernel) rfl
theorem wf_X2_9 : Cond.fieldLink RX2 9 "WheatRun$Field" "damp" "I" ∈ AL := al_at 535 (by decide +kernel) rfl
theorem wf_X2_15 : Cond.fieldLink RX2 15 "WheatRun$Field" "farmer" "I" ∈ AL := al_at 521 (by decide +kernel) rfl
theorem wf_X2_18 : Cond.fieldLink RX2 18 "WheatRun$Field" "mile" "I" ∈ AL := al_at 523 (by decide +kernel) rfl
theorem wf_X2_21 : Cond.fieldLink RX2 21 "WheatRun$Field" "acres" "I" ∈ AL := al_at 526 (by decide +kernel) rfl
theorem wf_X2_24 : Cond.fieldLink RX2 24 "WheatRun$Field" "bushels" "I" ∈ AL := al_at 528 (by decide +kernel) rfl
theorem wf_X2_27 : Cond.fieldLink RX2 27 "WheatRun$Field" "share" "I" ∈ AL := al_at 529 (by decide +kernel) rfl
theorem wm_L_18 : Cond.methodLink RL 18 yX7_found ∈ AL := al_at 906 (by decide +kernel) rfl
theorem wi_X7_found : Cond.instanceMethod yX7_found ∈ AL := al_at 907 (by decide +kernel) rfl
theorem wl_X7_found : Cond.selects RX7 yX7_found yX7_found ∈ AL := al_at 908 (by decide +kernel) rfl
theorem wc_X7_found : Cond.code yX7_found cX7_found 3 (some .boolean) ∈ AL := al_at 909 (by decide +kernel) rfl
theorem wm_X7_142 : Cond.methodLink RX7 142 yX7_draw ∈ AL := al_at 910 (by decide +kernel) rfl
theorem wi_X7_draw : Cond.instanceMethod yX7_draw ∈ AL := al_at 895 (by decide +kernel) rfl
theorem wl_X7_draw : Cond.selects RX7 yX7_draw yX7_draw ∈ AL := al_at 896 (by decide +kernel) rfl
theorem wc_X7_draw : Cond.code yX7_draw cX7_draw 3 (some .int) ∈ AL := al_at 897 (by decide +kernel) rfl
theorem wt_L_cell : Cond.static yL_cell ∈ AL := al_at 899 (by decide +kernel) rfl
theorem wn_L : Cond.initialized RL ∈ AL := al_at 17 (by decide +kernel) rfl
theorem wc_L_cell : Cond.code yL_cell cL_cell 2 (some .int) ∈ AL := al_at 900 (by decide +kernel) rfl
theorem wq_L_8 : Cond.constant RL 8 (790386105) ∈ AL := al_at 901 (by decide +kernel) rfl
theorem wt_L_below : Cond.static yL_below ∈ AL := al_at 903 (by decide +kernel) rfl
theorem wc_L_below : Cond.code yL_below cL_below 2 (some .int) ∈ AL := al_at 904 (by decide +kernel) rfl
theorem wq_L_7 : Cond.constant RL 7 (2147483647) ∈ AL := al_at 905 (by decide +kernel) rfl
theorem wm_X7_145 : Cond.methodLink RX7 145 yX7_field ∈ AL := al_at 911 (by decide +kernel) rfl
theorem wi_X7_field : Cond.instanceMethod yX7_field ∈ AL := al_at 912 (by decide +kernel) rfl
theorem wl_X7_field : Cond.selects RX7 yX7_field yX7_field ∈ AL := al_at 913 (by decide +kernel) rfl
theorem wc_X7_field : Cond.code yX7_field cX7_field 6 (some .boolean) ∈ AL := al_at 914 (by decide +kernel) rfl
theorem wm_X7_66 : Cond.methodLink RX7 66 yX7_plus ∈ AL := al_at 915 (by decide +kernel) rfl
theorem wt_X7_plus : Cond.static yX7_plus ∈ AL := al_at 916 (by decide +kernel) rfl
theorem wc_X7_plus : Cond.code yX7_plus cX7_plus 3 (some (.array (.array .int))) ∈ AL := al_at 917 (by decide +kernel) rfl
theorem wm_X7_60 : Cond.methodLink RX7 60 arraycopyName ∈ AL := al_at 918 (by decide +kernel) rfl
theorem wv_acopy : Cond.native arraycopyName ∈ AL := al_at 431 (by decide +kernel) rfl
theorem wt_acopy : Cond.static arraycopyName ∈ AL := al_at 430 (by decide +kernel) rfl
theorem wn_java_lang_System : Cond.initialized "java/lang/System" ∈ AL := al_at 25 (by decide +kernel) rfl
theorem wm_X7_70 : Cond.methodLink RX7 70 yX6_field ∈ AL := al_at 919 (by decide +kernel) rfl
theorem wi_X6_field : Cond.instanceMethod yX6_field ∈ AL := al_at 920 (by decide +kernel) rfl
theorem wl_X6_field : Cond.selects RX6 yX6_field yX6_field ∈ AL := al_at 921 (by decide +kernel) rfl
theorem wc_X6_field : Cond.code yX6_field cX6_field 6 (some .int) ∈ AL := al_at 922 (by decide +kernel) rfl
theorem wk_X6_34 : Cond.classLink RX6 34 "java/lang/IndexOutOfBoundsException" ∈ AL := al_at 68 (by decide +kernel) rfl
theorem wn_java_lang_IndexOutOfBoundsException : Cond.initialized "java/lang/IndexOutOfBoundsException" ∈ AL := al_at 29 (by decide +kernel) rfl
theorem wk_X6_41 : Cond.classLink RX6 41 "java/lang/IllegalArgumentException" ∈ AL := al_at 184 (by decide +kernel) rfl
theorem wn_java_lang_IllegalArgumentException : Cond.initialized "java/lang/IllegalArgumentException" ∈ AL := al_at 30 (by decide +kernel) rfl
theorem wk_X6_56 : Cond.classLink RX6 56 "java/lang/IllegalStateException" ∈ AL := al_at 200 (by decide +kernel) rfl
theorem wn_java_lang_IllegalStateException : Cond.initialized "java/lang/IllegalStateException" ∈ AL := al_at 31 (by decide +kernel) rfl
theorem wf_X6_46 : Cond.fieldLink RX6 46 "WheatRun$Land" "fields" "Ljava/util/ArrayList;" ∈ AL := al_at 808 (by decide +kernel) rfl
theorem wm_X6_30 : Cond.methodLink RX6 30 yX6_isOutside ∈ AL := al_at 178 (by decide +kernel) rfl
theorem wt_X6_isOutside : Cond.static yX6_isOutside ∈ AL := al_at 179 (by decide +kernel) rfl
theorem wc_X6_isOutside : Cond.code yX6_isOutside cX6_isOutside 3 (some .boolean) ∈ AL := al_at 180 (by decide +kernel) rfl
theorem wm_X6_50 : Cond.methodLink RX6 50 yJx4a65c_size_8abf5 ∈ AL := al_at 216 (by decide +kernel) rfl
theorem wi_Jx4a65c_size_8abf5 : Cond.instanceMethod yJx4a65c_size_8abf5 ∈ AL := al_at 50 (by decide +kernel) rfl
theorem wl_Jx4a65c_size_8abf5 : Cond.selects RJx4a65c yJx4a65c_size_8abf5 yJx4a65c_size_8abf5 ∈ AL := al_at 51 (by decide +kernel) rfl
theorem wc_Jx4a65c_size_8abf5 : Cond.code yJx4a65c_size_8abf5 cJx4a65c_size_8abf5 1 (some .int) ∈ AL := al_at 52 (by decide +kernel) rfl
theorem wf_Jx4a65c_48 : Cond.fieldLink RJx4a65c 48 "java/util/ArrayList" "size" "I" ∈ AL := al_at 796 (by decide +kernel) rfl
theorem wm_X6_61 : Cond.methodLink RX6 61 yJx4a65c_add_9ea2d ∈ AL := al_at 925 (by decide +kernel) rfl
theorem wi_Jx4a65c_add_9ea2d : Cond.instanceMethod yJx4a65c_add_9ea2d ∈ AL := al_at 377 (by decide +kernel) rfl
theorem wl_Jx4a65c_add_9ea2d : Cond.selects RJx4a65c yJx4a65c_add_9ea2d yJx4a65c_add_9ea2d ∈ AL := al_at 378 (by decide +kernel) rfl
theorem wc_Jx4a65c_add_9ea2d : Cond.code yJx4a65c_add_9ea2d cJx4a65c_add_9ea2d 2 (some .boolean) ∈ AL := al_at 379 (by decide +kernel) rfl
theorem wf_Jx4a65c_63 : Cond.fieldLink RJx4a65c 63 "java/util/ArrayList" "modCount" "I" ∈ AL := al_at 798 (by decide +kernel) rfl
theorem ws_java_util_ArrayList_java_util_AbstractList_modCount_I : Cond.sameField "java/util/ArrayList" "java/util/AbstractList" "modCount" "I" ∈ AL := al_at 799 (by decide +kernel) rfl
theorem wm_Jx4a65c_131 : Cond.methodLink RJx4a65c 131 yJx4a65c_add_72be8 ∈ AL := al_at 380 (by decide +kernel) rfl
theorem wi_Jx4a65c_add_72be8 : Cond.instanceMethod yJx4a65c_add_72be8 ∈ AL := al_at 382 (by decide +kernel) rfl
theorem wl_Jx4a65c_add_72be8 : Cond.selects RJx4a65c yJx4a65c_add_72be8 yJx4a65c_add_72be8 ∈ AL := al_at 12 (by decide +kernel) rfl
theorem wc_Jx4a65c_add_72be8 : Cond.code yJx4a65c_add_72be8 cJx4a65c_add_72be8 4 none ∈ AL := al_at 384 (by decide +kernel) rfl
theorem wm_Jx4a65c_129 : Cond.methodLink RJx4a65c 129 yJx4a65c_grow_d5877 ∈ AL := al_at 385 (by decide +kernel) rfl
theorem wi_Jx4a65c_grow_d5877 : Cond.instanceMethod yJx4a65c_grow_d5877 ∈ AL := al_at 387 (by decide +kernel) rfl
theorem wl_Jx4a65c_grow_d5877 : Cond.selects RJx4a65c yJx4a65c_grow_d5877 yJx4a65c_grow_d5877 ∈ AL := al_at 13 (by decide +kernel) rfl
theorem wc_Jx4a65c_grow_d5877 : Cond.code yJx4a65c_grow_d5877 cJx4a65c_grow_d5877 1 (some (.array (.object "java/lang/Object"))) ∈ AL := al_at 388 (by decide +kernel) rfl
theorem wm_Jx4a65c_69 : Cond.methodLink RJx4a65c 69 yJx4a65c_grow_92f84 ∈ AL := al_at 389 (by decide +kernel) rfl
theorem wi_Jx4a65c_grow_92f84 : Cond.instanceMethod yJx4a65c_grow_92f84 ∈ AL := al_at 391 (by decide +kernel) rfl
theorem wl_Jx4a65c_grow_92f84 : Cond.selects RJx4a65c yJx4a65c_grow_92f84 yJx4a65c_grow_92f84 ∈ AL := al_at 14 (by decide +kernel) rfl
theorem wc_Jx4a65c_grow_92f84 : Cond.code yJx4a65c_grow_92f84 cJx4a65c_grow_92f84 4 (some (.array (.object "java/lang/Object"))) ∈ AL := al_at 392 (by decide +kernel) rfl
theorem wm_Jx4a65c_79 : Cond.methodLink RJx4a65c 79 Lib.Math.max.name ∈ AL := al_at 432 (by decide +kernel) rfl
theorem wt_mmax : Cond.static Lib.Math.max.name ∈ AL := al_at 242 (by decide +kernel) rfl
theorem wn_java_lang_Math : Cond.initialized "java/lang/Math" ∈ AL := al_at 33 (by decide +kernel) rfl
theorem wc_mmax : Cond.code Lib.Math.max.name Lib.Math.max.code 2 (some .int) ∈ AL := al_at 243 (by decide +kernel) rfl
theorem wk_Jx4a65c_7 : Cond.classLink RJx4a65c 7 "java/lang/Object" ∈ AL := al_at 433 (by decide +kernel) rfl
theorem wm_Jx4a65c_73 : Cond.methodLink RJx4a65c 73 yJ8_newLength_cabcc ∈ AL := al_at 395 (by decide +kernel) rfl
theorem wt_J8_newLength_cabcc : Cond.static yJ8_newLength_cabcc ∈ AL := al_at 396 (by decide +kernel) rfl
theorem wn_J8 : Cond.initialized RJ8 ∈ AL := al_at 32 (by decide +kernel) rfl
theorem wc_J8_newLength_cabcc : Cond.code yJ8_newLength_cabcc cJ8_newLength_cabcc 4 (some .int) ∈ AL := al_at 397 (by decide +kernel) rfl
theorem wm_J8_194 : Cond.methodLink RJ8 194 Lib.Math.max.name ∈ AL := al_at 398 (by decide +kernel) rfl
theorem wq_J8_200 : Cond.constant RJ8 200 (2147483639) ∈ AL := al_at 399 (by decide +kernel) rfl
theorem wm_J8_201 : Cond.methodLink RJ8 201 yJ8_hugeLength_7cf53 ∈ AL := al_at 400 (by decide +kernel) rfl
theorem wt_J8_hugeLength_7cf53 : Cond.static yJ8_hugeLength_7cf53 ∈ AL := al_at 401 (by decide +kernel) rfl
theorem wc_J8_hugeLength_7cf53 : Cond.code yJ8_hugeLength_7cf53 cJ8_hugeLength_7cf53 3 (some .int) ∈ AL := al_at 402 (by decide +kernel) rfl
theorem wm_Jx4a65c_66 : Cond.methodLink RJx4a65c 66 yJ7_copyOf_1904c ∈ AL := al_at 403 (by decide +kernel) rfl
theorem wt_J7_copyOf_1904c : Cond.static yJ7_copyOf_1904c ∈ AL := al_at 404 (by decide +kernel) rfl
theorem wn_J7 : Cond.initialized RJ7 ∈ AL := al_at 34 (by decide +kernel) rfl
theorem wc_J7_copyOf_1904c : Cond.code yJ7_copyOf_1904c cJ7_copyOf_1904c 2 (some (.array (.object "java/lang/Object"))) ∈ AL := al_at 405 (by decide +kernel) rfl
theorem wm_J7_86 : Cond.methodLink RJ7 86 ⟨"java/lang/Object", "getClass", "()Ljava/lang/Class;"⟩ ∈ AL := al_at 406 (by decide +kernel) rfl
theorem wl_getClass_on_arr : Cond.selects "[Ljava/lang/Object;" ⟨"java/lang/Object", "getClass", "()Ljava/lang/Class;"⟩ ⟨"java/lang/Object", "getClass", "()Ljava/lang/Class;"⟩ ∈ AL := al_at 989 (by decide +kernel) rfl
theorem wi_getClass : Cond.instanceMethod ⟨"java/lang/Object", "getClass", "()Ljava/lang/Class;"⟩ ∈ AL := al_at 407 (by decide +kernel) rfl
theorem wv_getClass : Cond.native ⟨"java/lang/Object", "getClass", "()Ljava/lang/Class;"⟩ ∈ AL := al_at 421 (by decide +kernel) rfl
theorem wm_J7_300 : Cond.methodLink RJ7 300 yJ7_copyOf_6403c ∈ AL := al_at 422 (by decide +kernel) rfl
theorem wt_J7_copyOf_6403c : Cond.static yJ7_copyOf_6403c ∈ AL := al_at 423 (by decide +kernel) rfl
theorem wc_J7_copyOf_6403c : Cond.code yJ7_copyOf_6403c cJ7_copyOf_6403c 4 (some (.array (.object "java/lang/Object"))) ∈ AL := al_at 424 (by decide +kernel) rfl
theorem wk_J7_110 : Cond.classLink RJ7 110 "[Ljava/lang/Object;" ∈ AL := al_at 425 (by decide +kernel) rfl
theorem wk_J7_2 : Cond.classLink RJ7 2 "java/lang/Object" ∈ AL := al_at 427 (by decide +kernel) rfl
theorem wm_J7_304 : Cond.methodLink RJ7 304 Lib.Math.min.name ∈ AL := al_at 428 (by decide +kernel) rfl
theorem wt_mmin : Cond.static Lib.Math.min.name ∈ AL := al_at 235 (by decide +kernel) rfl
theorem wc_mmin : Cond.code Lib.Math.min.name Lib.Math.min.code 2 (some .int) ∈ AL := al_at 236 (by decide +kernel) rfl
theorem wm_J7_150 : Cond.methodLink RJ7 150 arraycopyName ∈ AL := al_at 429 (by decide +kernel) rfl
theorem wm_X7_148 : Cond.methodLink RX7 148 yX7_crop ∈ AL := al_at 926 (by decide +kernel) rfl
theorem wi_X7_crop : Cond.instanceMethod yX7_crop ∈ AL := al_at 927 (by decide +kernel) rfl
theorem wl_X7_crop : Cond.selects RX7 yX7_crop yX7_crop ∈ AL := al_at 928 (by decide +kernel) rfl
theorem wc_X7_crop : Cond.code yX7_crop cX7_crop 5 (some .boolean) ∈ AL := al_at 929 (by decide +kernel) rfl
theorem wm_X7_74 : Cond.methodLink RX7 74 yX6_crop ∈ AL := al_at 930 (by decide +kernel) rfl
theorem wi_X6_crop : Cond.instanceMethod yX6_crop ∈ AL := al_at 931 (by decide +kernel) rfl
theorem wl_X6_crop : Cond.selects RX6 yX6_crop yX6_crop ∈ AL := al_at 932 (by decide +kernel) rfl
theorem wc_X6_crop : Cond.code yX6_crop cX6_crop 6 (some .int) ∈ AL := al_at 933 (by decide +kernel) rfl
theorem wf_X6_73 : Cond.fieldLink RX6 73 "WheatRun$Field" "ripe" "I" ∈ AL := al_at 534 (by decide +kernel) rfl
theorem wf_X6_77 : Cond.fieldLink RX6 77 "WheatRun$Field" "damp" "I" ∈ AL := al_at 536 (by decide +kernel) rfl
theorem wm_X6_65 : Cond.methodLink RX6 65 yX3_fieldAt ∈ AL := al_at 138 (by decide +kernel) rfl
theorem wi_X3_fieldAt : Cond.instanceMethod yX3_fieldAt ∈ AL := al_at 139 (by decide +kernel) rfl
theorem wl_X3_fieldAt : Cond.selects RX3 yX3_fieldAt yX3_fieldAt ∈ AL := al_at 140 (by decide +kernel) rfl
theorem wc_X3_fieldAt : Cond.code yX3_fieldAt cX3_fieldAt 2 (some (.object "WheatRun$Field")) ∈ AL := al_at 141 (by decide +kernel) rfl
theorem wk_X3_56 : Cond.classLink RX3 56 "WheatRun$Field" ∈ AL := al_at 142 (by decide +kernel) rfl
theorem wm_X3_48 : Cond.methodLink RX3 48 yJx4a65c_size_8abf5 ∈ AL := al_at 49 (by decide +kernel) rfl
theorem wm_X3_52 : Cond.methodLink RX3 52 yJx4a65c_get_915e3 ∈ AL := al_at 53 (by decide +kernel) rfl
theorem wi_Jx4a65c_get_915e3 : Cond.instanceMethod yJx4a65c_get_915e3 ∈ AL := al_at 54 (by decide +kernel) rfl
theorem wl_Jx4a65c_get_915e3 : Cond.selects RJx4a65c yJx4a65c_get_915e3 yJx4a65c_get_915e3 ∈ AL := al_at 55 (by decide +kernel) rfl
theorem wc_Jx4a65c_get_915e3 : Cond.code yJx4a65c_get_915e3 cJx4a65c_get_915e3 2 (some (.object "java/lang/Object")) ∈ AL := al_at 56 (by decide +kernel) rfl
theorem wm_Jx4a65c_118 : Cond.methodLink RJx4a65c 118 yJ15_checkIndex_7cf53 ∈ AL := al_at 57 (by decide +kernel) rfl
theorem wt_J15_checkIndex_7cf53 : Cond.static yJ15_checkIndex_7cf53 ∈ AL := al_at 58 (by decide +kernel) rfl
theorem wn_J15 : Cond.initialized RJ15 ∈ AL := al_at 35 (by decide +kernel) rfl
theorem wc_J15_checkIndex_7cf53 : Cond.code yJ15_checkIndex_7cf53 cJ15_checkIndex_7cf53 2 (some .int) ∈ AL := al_at 59 (by decide +kernel) rfl
theorem wm_J15_105 : Cond.methodLink RJ15 105 yJ3_checkIndex_8e157 ∈ AL := al_at 60 (by decide +kernel) rfl
theorem wt_J3_checkIndex_8e157 : Cond.static yJ3_checkIndex_8e157 ∈ AL := al_at 61 (by decide +kernel) rfl
theorem wn_J3 : Cond.initialized RJ3 ∈ AL := al_at 36 (by decide +kernel) rfl
theorem wc_J3_checkIndex_8e157 : Cond.code yJ3_checkIndex_8e157 cJ3_checkIndex_8e157 3 (some .int) ∈ AL := al_at 62 (by decide +kernel) rfl
theorem wm_Jx4a65c_123 : Cond.methodLink RJx4a65c 123 yJx4a65c_elementData_915e3 ∈ AL := al_at 63 (by decide +kernel) rfl
theorem wi_Jx4a65c_elementData_915e3 : Cond.instanceMethod yJx4a65c_elementData_915e3 ∈ AL := al_at 64 (by decide +kernel) rfl
theorem wl_Jx4a65c_elementData_915e3 : Cond.selects RJx4a65c yJx4a65c_elementData_915e3 yJx4a65c_elementData_915e3 ∈ AL := al_at 65 (by decide +kernel) rfl
theorem wc_Jx4a65c_elementData_915e3 : Cond.code yJx4a65c_elementData_915e3 cJx4a65c_elementData_915e3 2 (some (.object "java/lang/Object")) ∈ AL := al_at 66 (by decide +kernel) rfl
theorem wm_X7_151 : Cond.methodLink RX7 151 yX7_combine ∈ AL := al_at 935 (by decide +kernel) rfl
theorem wi_X7_combine : Cond.instanceMethod yX7_combine ∈ AL := al_at 936 (by decide +kernel) rfl
theorem wl_X7_combine : Cond.selects RX7 yX7_combine yX7_combine ∈ AL := al_at 937 (by decide +kernel) rfl
theorem wc_X7_combine : Cond.code yX7_combine cX7_combine 3 (some .boolean) ∈ AL := al_at 938 (by decide +kernel) rfl
theorem wm_X7_78 : Cond.methodLink RX7 78 yX6_combine ∈ AL := al_at 939 (by decide +kernel) rfl
theorem wi_X6_combine : Cond.instanceMethod yX6_combine ∈ AL := al_at 940 (by decide +kernel) rfl
theorem wl_X6_combine : Cond.selects RX6 yX6_combine yX6_combine ∈ AL := al_at 941 (by decide +kernel) rfl
theorem wc_X6_combine : Cond.code yX6_combine cX6_combine 3 (some .int) ∈ AL := al_at 942 (by decide +kernel) rfl
theorem wf_X6_82 : Cond.fieldLink RX6 82 "WheatRun$Land" "combines" "Ljava/util/ArrayList;" ∈ AL := al_at 810 (by decide +kernel) rfl
theorem wk_X6_87 : Cond.classLink RX6 87 RX0 ∈ AL := al_at 945 (by decide +kernel) rfl
theorem wb_X0 : Cond.instantiable RX0 12 ∈ AL := al_at 261 (by decide +kernel) rfl
theorem wn_X0 : Cond.initialized RX0 ∈ AL := al_at 37 (by decide +kernel) rfl
theorem wm_X6_89 : Cond.methodLink RX6 89 yX0_init ∈ AL := al_at 946 (by decide +kernel) rfl
theorem wi_X0_init : Cond.instanceMethod yX0_init ∈ AL := al_at 577 (by decide +kernel) rfl
theorem wc_X0_init : Cond.code yX0_init cX0_init 4 none ∈ AL := al_at 578 (by decide +kernel) rfl
theorem wm_X0_3 : Cond.methodLink RX0 3 objectInit ∈ AL := al_at 579 (by decide +kernel) rfl
theorem wf_X0_9 : Cond.fieldLink RX0 9 "WheatRun$Combine" "tankField" "I" ∈ AL := al_at 589 (by decide +kernel) rfl
theorem wf_X0_15 : Cond.fieldLink RX0 15 "WheatRun$Combine" "goal" "I" ∈ AL := al_at 603 (by decide +kernel) rfl
theorem wf_X0_18 : Cond.fieldLink RX0 18 "WheatRun$Combine" "number" "I" ∈ AL := al_at 580 (by decide +kernel) rfl
theorem wf_X0_21 : Cond.fieldLink RX0 21 "WheatRun$Combine" "mile" "I" ∈ AL := al_at 581 (by decide +kernel) rfl
theorem wf_X0_24 : Cond.fieldLink RX0 24 "WheatRun$Combine" "pace" "I" ∈ AL := al_at 584 (by decide +kernel) rfl
theorem wm_X7_154 : Cond.methodLink RX7 154 yX7_truck ∈ AL := al_at 947 (by decide +kernel) rfl
theorem wi_X7_truck : Cond.instanceMethod yX7_truck ∈ AL := al_at 948 (by decide +kernel) rfl
theorem wl_X7_truck : Cond.selects RX7 yX7_truck yX7_truck ∈ AL := al_at 949 (by decide +kernel) rfl
theorem wc_X7_truck : Cond.code yX7_truck cX7_truck 2 (some .boolean) ∈ AL := al_at 950 (by decide +kernel) rfl
theorem wm_X7_81 : Cond.methodLink RX7 81 yX6_truck ∈ AL := al_at 951 (by decide +kernel) rfl
theorem wi_X6_truck : Cond.instanceMethod yX6_truck ∈ AL := al_at 952 (by decide +kernel) rfl
theorem wl_X6_truck : Cond.selects RX6 yX6_truck yX6_truck ∈ AL := al_at 953 (by decide +kernel) rfl
theorem wc_X6_truck : Cond.code yX6_truck cX6_truck 2 (some .int) ∈ AL := al_at 954 (by decide +kernel) rfl
theorem wf_X6_94 : Cond.fieldLink RX6 94 "WheatRun$Land" "trucks" "Ljava/util/ArrayList;" ∈ AL := al_at 812 (by decide +kernel) rfl
theorem wk_X6_99 : Cond.classLink RX6 99 RX5 ∈ AL := al_at 957 (by decide +kernel) rfl
theorem wb_X5 : Cond.instantiable RX5 10 ∈ AL := al_at 635 (by decide +kernel) rfl
theorem wn_X5 : Cond.initialized RX5 ∈ AL := al_at 38 (by decide +kernel) rfl
theorem wm_X6_101 : Cond.methodLink RX6 101 yX5_init ∈ AL := al_at 958 (by decide +kernel) rfl
theorem wi_X5_init : Cond.instanceMethod yX5_init ∈ AL := al_at 637 (by decide +kernel) rfl
theorem wc_X5_init : Cond.code yX5_init cX5_init 2 none ∈ AL := al_at 638 (by decide +kernel) rfl
theorem wm_X5_3 : Cond.methodLink RX5 3 objectInit ∈ AL := al_at 639 (by decide +kernel) rfl
theorem wf_X5_9 : Cond.fieldLink RX5 9 "WheatRun$Truck" "loadField" "I" ∈ AL := al_at 650 (by decide +kernel) rfl
theorem wf_X5_15 : Cond.fieldLink RX5 15 "WheatRun$Truck" "toCombine" "I" ∈ AL := al_at 664 (by decide +kernel) rfl
theorem wf_X5_18 : Cond.fieldLink RX5 18 "WheatRun$Truck" "toElevator" "I" ∈ AL := al_at 667 (by decide +kernel) rfl
theorem wf_X5_21 : Cond.fieldLink RX5 21 "WheatRun$Truck" "mile" "I" ∈ AL := al_at 640 (by decide +kernel) rfl
theorem wm_X7_157 : Cond.methodLink RX7 157 yX7_elevator ∈ AL := al_at 959 (by decide +kernel) rfl
theorem wi_X7_elevator : Cond.instanceMethod yX7_elevator ∈ AL := al_at 960 (by decide +kernel) rfl
theorem wl_X7_elevator : Cond.selects RX7 yX7_elevator yX7_elevator ∈ AL := al_at 961 (by decide +kernel) rfl
theorem wc_X7_elevator : Cond.code yX7_elevator cX7_elevator 7 (some .boolean) ∈ AL := al_at 962 (by decide +kernel) rfl
theorem wm_X7_85 : Cond.methodLink RX7 85 yX6_elevator ∈ AL := al_at 963 (by decide +kernel) rfl
theorem wi_X6_elevator : Cond.instanceMethod yX6_elevator ∈ AL := al_at 964 (by decide +kernel) rfl
theorem wl_X6_elevator : Cond.selects RX6 yX6_elevator yX6_elevator ∈ AL := al_at 965 (by decide +kernel) rfl
theorem wc_X6_elevator : Cond.code yX6_elevator cX6_elevator 7 (some .int) ∈ AL := al_at 966 (by decide +kernel) rfl
theorem wf_X6_110 : Cond.fieldLink RX6 110 "WheatRun$Land" "elevators" "Ljava/util/ArrayList;" ∈ AL := al_at 814 (by decide +kernel) rfl
theorem wk_X6_115 : Cond.classLink RX6 115 RX1 ∈ AL := al_at 971 (by decide +kernel) rfl
theorem wb_X1 : Cond.instantiable RX1 6 ∈ AL := al_at 327 (by decide +kernel) rfl
theorem wn_X1 : Cond.initialized RX1 ∈ AL := al_at 39 (by decide +kernel) rfl
theorem wm_X6_117 : Cond.methodLink RX6 117 yX1_init ∈ AL := al_at 972 (by decide +kernel) rfl
theorem wi_X1_init : Cond.instanceMethod yX1_init ∈ AL := al_at 695 (by decide +kernel) rfl
theorem wc_X1_init : Cond.code yX1_init cX1_init 7 none ∈ AL := al_at 696 (by decide +kernel) rfl
theorem wm_X1_1 : Cond.methodLink RX1 1 objectInit ∈ AL := al_at 697 (by decide +kernel) rfl
theorem wf_X1_7 : Cond.fieldLink RX1 7 "WheatRun$Elevator" "mile" "I" ∈ AL := al_at 698 (by decide +kernel) rfl
theorem wf_X1_13 : Cond.fieldLink RX1 13 "WheatRun$Elevator" "room" "I" ∈ AL := al_at 701 (by decide +kernel) rfl
theorem wf_X1_16 : Cond.fieldLink RX1 16 "WheatRun$Elevator" "from" "I" ∈ AL := al_at 703 (by decide +kernel) rfl
theorem wf_X1_19 : Cond.fieldLink RX1 19 "WheatRun$Elevator" "to" "I" ∈ AL := al_at 704 (by decide +kernel) rfl
theorem wf_X1_22 : Cond.fieldLink RX1 22 "WheatRun$Elevator" "least" "I" ∈ AL := al_at 705 (by decide +kernel) rfl
theorem wf_X1_25 : Cond.fieldLink RX1 25 "WheatRun$Elevator" "greatest" "I" ∈ AL := al_at 706 (by decide +kernel) rfl
theorem wm_L_22 : Cond.methodLink RL 22 yX7_draw ∈ AL := al_at 894 (by decide +kernel) rfl
theorem wm_L_26 : Cond.methodLink RL 26 yX6_digest ∈ AL := al_at 738 (by decide +kernel) rfl
theorem wi_X6_digest : Cond.instanceMethod yX6_digest ∈ AL := al_at 739 (by decide +kernel) rfl
theorem wl_X6_digest : Cond.selects RX6 yX6_digest yX6_digest ∈ AL := al_at 740 (by decide +kernel) rfl
theorem wc_X6_digest : Cond.code yX6_digest cX6_digest 5 (some .long) ∈ AL := al_at 741 (by decide +kernel) rfl
theorem wq_X6_346 : Cond.constantLong RX6 346 (7812) ∈ AL := al_at 742 (by decide +kernel) rfl
theorem wq_X6_348 : Cond.constantLong RX6 348 (31) ∈ AL := al_at 743 (by decide +kernel) rfl
theorem wf_X6_201 : Cond.fieldLink RX6 201 "WheatRun$Land" "tickets" "Ljava/util/ArrayList;" ∈ AL := al_at 816 (by decide +kernel) rfl
theorem wm_X6_350 : Cond.methodLink RX6 350 yX6_many ∈ AL := al_at 744 (by decide +kernel) rfl
theorem wi_X6_many : Cond.instanceMethod yX6_many ∈ AL := al_at 456 (by decide +kernel) rfl
theorem wl_X6_many : Cond.selects RX6 yX6_many yX6_many ∈ AL := al_at 457 (by decide +kernel) rfl
theorem wc_X6_many : Cond.code yX6_many cX6_many 2 (some .int) ∈ AL := al_at 458 (by decide +kernel) rfl
theorem wf_X6_196 : Cond.fieldLink RX6 196 "WheatRun$Land" "now" "I" ∈ AL := al_at 819 (by decide +kernel) rfl
theorem wf_X6_172 : Cond.fieldLink RX6 172 "WheatRun$Land" "money" "I" ∈ AL := al_at 822 (by decide +kernel) rfl
theorem wm_X6_297 : Cond.methodLink RX6 297 yX3_uncutAcres ∈ AL := al_at 459 (by decide +kernel) rfl
theorem wi_X3_uncutAcres : Cond.instanceMethod yX3_uncutAcres ∈ AL := al_at 460 (by decide +kernel) rfl
theorem wl_X3_uncutAcres : Cond.selects RX3 yX3_uncutAcres yX3_uncutAcres ∈ AL := al_at 461 (by decide +kernel) rfl
theorem wc_X3_uncutAcres : Cond.code yX3_uncutAcres cX3_uncutAcres 3 (some .int) ∈ AL := al_at 462 (by decide +kernel) rfl
theorem wm_X3_199 : Cond.methodLink RX3 199 yX2_uncut ∈ AL := al_at 463 (by decide +kernel) rfl
theorem wi_X2_uncut : Cond.instanceMethod yX2_uncut ∈ AL := al_at 264 (by decide +kernel) rfl
theorem wl_X2_uncut : Cond.selects RX2 yX2_uncut yX2_uncut ∈ AL := al_at 265 (by decide +kernel) rfl
theorem wc_X2_uncut : Cond.code yX2_uncut cX2_uncut 1 (some .int) ∈ AL := al_at 266 (by decide +kernel) rfl
theorem wf_X2_30 : Cond.fieldLink RX2 30 "WheatRun$Field" "acresCut" "I" ∈ AL := al_at 530 (by decide +kernel) rfl
theorem wm_X6_300 : Cond.methodLink RX6 300 yX3_brokenCombines ∈ AL := al_at 464 (by decide +kernel) rfl
theorem wi_X3_brokenCombines : Cond.instanceMethod yX3_brokenCombines ∈ AL := al_at 465 (by decide +kernel) rfl
theorem wl_X3_brokenCombines : Cond.selects RX3 yX3_brokenCombines yX3_brokenCombines ∈ AL := al_at 466 (by decide +kernel) rfl
theorem wc_X3_brokenCombines : Cond.code yX3_brokenCombines cX3_brokenCombines 3 (some .int) ∈ AL := al_at 467 (by decide +kernel) rfl
theorem wk_X3_62 : Cond.classLink RX3 62 "WheatRun$Combine" ∈ AL := al_at 67 (by decide +kernel) rfl
theorem wf_X3_202 : Cond.fieldLink RX3 202 "WheatRun$Combine" "isBroken" "Z" ∈ AL := al_at 599 (by decide +kernel) rfl
theorem wm_X6_303 : Cond.methodLink RX6 303 yX3_allRoom ∈ AL := al_at 468 (by decide +kernel) rfl
theorem wi_X3_allRoom : Cond.instanceMethod yX3_allRoom ∈ AL := al_at 469 (by decide +kernel) rfl
theorem wl_X3_allRoom : Cond.selects RX3 yX3_allRoom yX3_allRoom ∈ AL := al_at 470 (by decide +kernel) rfl
theorem wc_X3_allRoom : Cond.code yX3_allRoom cX3_allRoom 3 (some .int) ∈ AL := al_at 471 (by decide +kernel) rfl
theorem wk_X3_72 : Cond.classLink RX3 72 "WheatRun$Elevator" ∈ AL := al_at 169 (by decide +kernel) rfl
theorem wf_X3_161 : Cond.fieldLink RX3 161 "WheatRun$Elevator" "room" "I" ∈ AL := al_at 702 (by decide +kernel) rfl
theorem wm_X6_306 : Cond.methodLink RX6 306 yX3_allOnTheWay ∈ AL := al_at 472 (by decide +kernel) rfl
theorem wi_X3_allOnTheWay : Cond.instanceMethod yX3_allOnTheWay ∈ AL := al_at 473 (by decide +kernel) rfl
theorem wl_X3_allOnTheWay : Cond.selects RX3 yX3_allOnTheWay yX3_allOnTheWay ∈ AL := al_at 474 (by decide +kernel) rfl
theorem wc_X3_allOnTheWay : Cond.code yX3_allOnTheWay cX3_allOnTheWay 3 (some .int) ∈ AL := al_at 475 (by decide +kernel) rfl
theorem wf_X3_193 : Cond.fieldLink RX3 193 "WheatRun$Combine" "tank" "I" ∈ AL := al_at 587 (by decide +kernel) rfl
theorem wk_X3_67 : Cond.classLink RX3 67 "WheatRun$Truck" ∈ AL := al_at 156 (by decide +kernel) rfl
theorem wf_X3_147 : Cond.fieldLink RX3 147 "WheatRun$Truck" "load" "I" ∈ AL := al_at 648 (by decide +kernel) rfl
theorem wm_X6_309 : Cond.methodLink RX6 309 yX3_allIdle ∈ AL := al_at 476 (by decide +kernel) rfl
theorem wi_X3_allIdle : Cond.instanceMethod yX3_allIdle ∈ AL := al_at 477 (by decide +kernel) rfl
theorem wl_X3_allIdle : Cond.selects RX3 yX3_allIdle yX3_allIdle ∈ AL := al_at 478 (by decide +kernel) rfl
theorem wc_X3_allIdle : Cond.code yX3_allIdle cX3_allIdle 3 (some .int) ∈ AL := al_at 479 (by decide +kernel) rfl
theorem wf_X3_205 : Cond.fieldLink RX3 205 "WheatRun$Combine" "idle" "I" ∈ AL := al_at 602 (by decide +kernel) rfl
theorem wm_X6_312 : Cond.methodLink RX6 312 yX3_allQueued ∈ AL := al_at 480 (by decide +kernel) rfl
theorem wi_X3_allQueued : Cond.instanceMethod yX3_allQueued ∈ AL := al_at 481 (by decide +kernel) rfl
theorem wl_X3_allQueued : Cond.selects RX3 yX3_allQueued yX3_allQueued ∈ AL := al_at 482 (by decide +kernel) rfl
theorem wc_X3_allQueued : Cond.code yX3_allQueued cX3_allQueued 3 (some .int) ∈ AL := al_at 483 (by decide +kernel) rfl
theorem wf_X3_158 : Cond.fieldLink RX3 158 "WheatRun$Truck" "queued" "I" ∈ AL := al_at 662 (by decide +kernel) rfl
theorem wm_X6_353 : Cond.methodLink RX6 353 yX6_ofField ∈ AL := al_at 745 (by decide +kernel) rfl
theorem wi_X6_ofField : Cond.instanceMethod yX6_ofField ∈ AL := al_at 439 (by decide +kernel) rfl
theorem wl_X6_ofField : Cond.selects RX6 yX6_ofField yX6_ofField ∈ AL := al_at 440 (by decide +kernel) rfl
theorem wc_X6_ofField : Cond.code yX6_ofField cX6_ofField 4 (some .int) ∈ AL := al_at 441 (by decide +kernel) rfl
theorem wf_X6_209 : Cond.fieldLink RX6 209 "WheatRun$Field" "farmer" "I" ∈ AL := al_at 522 (by decide +kernel) rfl
theorem wf_X6_212 : Cond.fieldLink RX6 212 "WheatRun$Field" "mile" "I" ∈ AL := al_at 525 (by decide +kernel) rfl
theorem wf_X6_213 : Cond.fieldLink RX6 213 "WheatRun$Field" "acres" "I" ∈ AL := al_at 527 (by decide +kernel) rfl
theorem wf_X6_216 : Cond.fieldLink RX6 216 "WheatRun$Field" "acresCut" "I" ∈ AL := al_at 532 (by decide +kernel) rfl
theorem wf_X6_219 : Cond.fieldLink RX6 219 "WheatRun$Field" "lost" "I" ∈ AL := al_at 539 (by decide +kernel) rfl
theorem wf_X6_222 : Cond.fieldLink RX6 222 "WheatRun$Field" "map" "I" ∈ AL := al_at 542 (by decide +kernel) rfl
theorem wf_X6_225 : Cond.fieldLink RX6 225 "WheatRun$Field" "sold" "I" ∈ AL := al_at 544 (by decide +kernel) rfl
theorem wm_X6_228 : Cond.methodLink RX6 228 yX3_onTheWay ∈ AL := al_at 443 (by decide +kernel) rfl
theorem wi_X3_onTheWay : Cond.instanceMethod yX3_onTheWay ∈ AL := al_at 444 (by decide +kernel) rfl
theorem wl_X3_onTheWay : Cond.selects RX3 yX3_onTheWay yX3_onTheWay ∈ AL := al_at 445 (by decide +kernel) rfl
theorem wc_X3_onTheWay : Cond.code yX3_onTheWay cX3_onTheWay 5 (some .int) ∈ AL := al_at 446 (by decide +kernel) rfl
theorem wf_X3_190 : Cond.fieldLink RX3 190 "WheatRun$Combine" "tankField" "I" ∈ AL := al_at 591 (by decide +kernel) rfl
theorem wf_X3_196 : Cond.fieldLink RX3 196 "WheatRun$Truck" "loadField" "I" ∈ AL := al_at 652 (by decide +kernel) rfl
theorem wm_X6_231 : Cond.methodLink RX6 231 yX2_correction ∈ AL := al_at 447 (by decide +kernel) rfl
theorem wi_X2_correction : Cond.instanceMethod yX2_correction ∈ AL := al_at 448 (by decide +kernel) rfl
theorem wl_X2_correction : Cond.selects RX2 yX2_correction yX2_correction ∈ AL := al_at 449 (by decide +kernel) rfl
theorem wc_X2_correction : Cond.code yX2_correction cX2_correction 2 (some .int) ∈ AL := al_at 450 (by decide +kernel) rfl
theorem wf_X2_39 : Cond.fieldLink RX2 39 "WheatRun$Field" "map" "I" ∈ AL := al_at 540 (by decide +kernel) rfl
theorem wf_X2_42 : Cond.fieldLink RX2 42 "WheatRun$Field" "sold" "I" ∈ AL := al_at 543 (by decide +kernel) rfl
theorem wm_X6_134 : Cond.methodLink RX6 134 yX3_combinesSentTo ∈ AL := al_at 144 (by decide +kernel) rfl
theorem wi_X3_combinesSentTo : Cond.instanceMethod yX3_combinesSentTo ∈ AL := al_at 145 (by decide +kernel) rfl
theorem wl_X3_combinesSentTo : Cond.selects RX3 yX3_combinesSentTo yX3_combinesSentTo ∈ AL := al_at 146 (by decide +kernel) rfl
theorem wc_X3_combinesSentTo : Cond.code yX3_combinesSentTo cX3_combinesSentTo 4 (some .int) ∈ AL := al_at 147 (by decide +kernel) rfl
theorem wf_X3_102 : Cond.fieldLink RX3 102 "WheatRun$Combine" "goal" "I" ∈ AL := al_at 605 (by decide +kernel) rfl
theorem wm_X6_356 : Cond.methodLink RX6 356 yX6_readyIn ∈ AL := al_at 746 (by decide +kernel) rfl
theorem wi_X6_readyIn : Cond.instanceMethod yX6_readyIn ∈ AL := al_at 485 (by decide +kernel) rfl
theorem wl_X6_readyIn : Cond.selects RX6 yX6_readyIn yX6_readyIn ∈ AL := al_at 486 (by decide +kernel) rfl
theorem wc_X6_readyIn : Cond.code yX6_readyIn cX6_readyIn 7 (some .int) ∈ AL := al_at 487 (by decide +kernel) rfl
theorem wm_X6_318 : Cond.methodLink RX6 318 yX6_isNoWeather ∈ AL := al_at 181 (by decide +kernel) rfl
theorem wt_X6_isNoWeather : Cond.static yX6_isNoWeather ∈ AL := al_at 182 (by decide +kernel) rfl
theorem wc_X6_isNoWeather : Cond.code yX6_isNoWeather cX6_isNoWeather 3 (some .boolean) ∈ AL := al_at 183 (by decide +kernel) rfl
theorem wm_X6_323 : Cond.methodLink RX6 323 yX2_copyFrom ∈ AL := al_at 489 (by decide +kernel) rfl
theorem wi_X2_copyFrom : Cond.instanceMethod yX2_copyFrom ∈ AL := al_at 490 (by decide +kernel) rfl
theorem wl_X2_copyFrom : Cond.selects RX2 yX2_copyFrom yX2_copyFrom ∈ AL := al_at 491 (by decide +kernel) rfl
theorem wc_X2_copyFrom : Cond.code yX2_copyFrom cX2_copyFrom 2 none ∈ AL := al_at 492 (by decide +kernel) rfl
theorem wf_X2_33 : Cond.fieldLink RX2 33 "WheatRun$Field" "ripe" "I" ∈ AL := al_at 533 (by decide +kernel) rfl
theorem wf_X2_36 : Cond.fieldLink RX2 36 "WheatRun$Field" "lost" "I" ∈ AL := al_at 538 (by decide +kernel) rfl
theorem wf_X2_45 : Cond.fieldLink RX2 45 "WheatRun$Field" "forFarmer" "I" ∈ AL := al_at 545 (by decide +kernel) rfl
theorem wf_X2_48 : Cond.fieldLink RX2 48 "WheatRun$Field" "forLandlord" "I" ∈ AL := al_at 547 (by decide +kernel) rfl
theorem wm_X6_327 : Cond.methodLink RX6 327 yX3_clock ∈ AL := al_at 493 (by decide +kernel) rfl
theorem wi_X3_clock : Cond.instanceMethod yX3_clock ∈ AL := al_at 222 (by decide +kernel) rfl
theorem wl_X3_clock : Cond.selects RX3 yX3_clock yX3_clock ∈ AL := al_at 223 (by decide +kernel) rfl
theorem wc_X3_clock : Cond.code yX3_clock cX3_clock 1 (some .int) ∈ AL := al_at 224 (by decide +kernel) rfl
theorem wf_X3_41 : Cond.fieldLink RX3 41 "WheatRun$Land" "now" "I" ∈ AL := al_at 818 (by decide +kernel) rfl
theorem wm_X6_330 : Cond.methodLink RX6 330 yX2_isFit ∈ AL := al_at 494 (by decide +kernel) rfl
theorem wi_X2_isFit : Cond.instanceMethod yX2_isFit ∈ AL := al_at 273 (by decide +kernel) rfl
theorem wl_X2_isFit : Cond.selects RX2 yX2_isFit yX2_isFit ∈ AL := al_at 274 (by decide +kernel) rfl
theorem wc_X2_isFit : Cond.code yX2_isFit cX2_isFit 2 (some .boolean) ∈ AL := al_at 275 (by decide +kernel) rfl
theorem wm_X6_334 : Cond.methodLink RX6 334 yX2_passHour ∈ AL := al_at 495 (by decide +kernel) rfl
theorem wi_X2_passHour : Cond.instanceMethod yX2_passHour ∈ AL := al_at 226 (by decide +kernel) rfl
theorem wl_X2_passHour : Cond.selects RX2 yX2_passHour yX2_passHour ∈ AL := al_at 227 (by decide +kernel) rfl
theorem wc_X2_passHour : Cond.code yX2_passHour cX2_passHour 5 none ∈ AL := al_at 228 (by decide +kernel) rfl
theorem wm_X2_51 : Cond.methodLink RX2 51 yX2_ripen ∈ AL := al_at 229 (by decide +kernel) rfl
theorem wi_X2_ripen : Cond.instanceMethod yX2_ripen ∈ AL := al_at 231 (by decide +kernel) rfl
theorem wl_X2_ripen : Cond.selects RX2 yX2_ripen yX2_ripen ∈ AL := al_at 1 (by decide +kernel) rfl
theorem wc_X2_ripen : Cond.code yX2_ripen cX2_ripen 3 none ∈ AL := al_at 233 (by decide +kernel) rfl
theorem wm_X2_62 : Cond.methodLink RX2 62 Lib.Math.min.name ∈ AL := al_at 234 (by decide +kernel) rfl
theorem wm_X2_55 : Cond.methodLink RX2 55 yX2_soakOrDry ∈ AL := al_at 237 (by decide +kernel) rfl
theorem wi_X2_soakOrDry : Cond.instanceMethod yX2_soakOrDry ∈ AL := al_at 239 (by decide +kernel) rfl
theorem wl_X2_soakOrDry : Cond.selects RX2 yX2_soakOrDry yX2_soakOrDry ∈ AL := al_at 2 (by decide +kernel) rfl
theorem wc_X2_soakOrDry : Cond.code yX2_soakOrDry cX2_soakOrDry 3 none ∈ AL := al_at 240 (by decide +kernel) rfl
theorem wm_X2_68 : Cond.methodLink RX2 68 Lib.Math.max.name ∈ AL := al_at 241 (by decide +kernel) rfl
theorem wm_X2_59 : Cond.methodLink RX2 59 yX2_shatter ∈ AL := al_at 244 (by decide +kernel) rfl
theorem wi_X2_shatter : Cond.instanceMethod yX2_shatter ∈ AL := al_at 246 (by decide +kernel) rfl
theorem wl_X2_shatter : Cond.selects RX2 yX2_shatter yX2_shatter ∈ AL := al_at 3 (by decide +kernel) rfl
theorem wc_X2_shatter : Cond.code yX2_shatter cX2_shatter 3 none ∈ AL := al_at 247 (by decide +kernel) rfl
theorem wm_X6_360 : Cond.methodLink RX6 360 yX6_waiting ∈ AL := al_at 747 (by decide +kernel) rfl
theorem wi_X6_waiting : Cond.instanceMethod yX6_waiting ∈ AL := al_at 734 (by decide +kernel) rfl
theorem wl_X6_waiting : Cond.selects RX6 yX6_waiting yX6_waiting ∈ AL := al_at 735 (by decide +kernel) rfl
theorem wc_X6_waiting : Cond.code yX6_waiting cX6_waiting 8 (some .int) ∈ AL := al_at 736 (by decide +kernel) rfl
theorem wm_X6_190 : Cond.methodLink RX6 190 yX6_isNoForecast ∈ AL := al_at 175 (by decide +kernel) rfl
theorem wt_X6_isNoForecast : Cond.static yX6_isNoForecast ∈ AL := al_at 176 (by decide +kernel) rfl
theorem wc_X6_isNoForecast : Cond.code yX6_isNoForecast cX6_isNoForecast 4 (some .boolean) ∈ AL := al_at 177 (by decide +kernel) rfl
theorem wm_X6_315 : Cond.methodLink RX6 315 yX2_uncut ∈ AL := al_at 503 (by decide +kernel) rfl
theorem wm_X6_343 : Cond.methodLink RX6 343 yX2_brings ∈ AL := al_at 737 (by decide +kernel) rfl
theorem wi_X2_brings : Cond.instanceMethod yX2_brings ∈ AL := al_at 269 (by decide +kernel) rfl
theorem wl_X2_brings : Cond.selects RX2 yX2_brings yX2_brings ∈ AL := al_at 270 (by decide +kernel) rfl
theorem wc_X2_brings : Cond.code yX2_brings cX2_brings 1 (some .int) ∈ AL := al_at 271 (by decide +kernel) rfl
theorem wm_X6_363 : Cond.methodLink RX6 363 yX6_ofCombine ∈ AL := al_at 748 (by decide +kernel) rfl
theorem wi_X6_ofCombine : Cond.instanceMethod yX6_ofCombine ∈ AL := al_at 452 (by decide +kernel) rfl
theorem wl_X6_ofCombine : Cond.selects RX6 yX6_ofCombine yX6_ofCombine ∈ AL := al_at 453 (by decide +kernel) rfl
theorem wc_X6_ofCombine : Cond.code yX6_ofCombine cX6_ofCombine 4 (some .int) ∈ AL := al_at 454 (by decide +kernel) rfl
theorem wf_X6_150 : Cond.fieldLink RX6 150 "WheatRun$Combine" "mile" "I" ∈ AL := al_at 582 (by decide +kernel) rfl
theorem wf_X6_234 : Cond.fieldLink RX6 234 "WheatRun$Combine" "tank" "I" ∈ AL := al_at 588 (by decide +kernel) rfl
theorem wf_X6_237 : Cond.fieldLink RX6 237 "WheatRun$Combine" "tankField" "I" ∈ AL := al_at 592 (by decide +kernel) rfl
theorem wf_X6_169 : Cond.fieldLink RX6 169 "WheatRun$Combine" "wear" "I" ∈ AL := al_at 596 (by decide +kernel) rfl
theorem wf_X6_177 : Cond.fieldLink RX6 177 "WheatRun$Combine" "isBroken" "Z" ∈ AL := al_at 598 (by decide +kernel) rfl
theorem wf_X6_131 : Cond.fieldLink RX6 131 "WheatRun$Combine" "goal" "I" ∈ AL := al_at 604 (by decide +kernel) rfl
theorem wf_X6_240 : Cond.fieldLink RX6 240 "WheatRun$Combine" "acresCut" "I" ∈ AL := al_at 607 (by decide +kernel) rfl
theorem wf_X6_241 : Cond.fieldLink RX6 241 "WheatRun$Combine" "idle" "I" ∈ AL := al_at 601 (by decide +kernel) rfl
theorem wm_X6_125 : Cond.methodLink RX6 125 yX3_combineAt ∈ AL := al_at 45 (by decide +kernel) rfl
theorem wi_X3_combineAt : Cond.instanceMethod yX3_combineAt ∈ AL := al_at 46 (by decide +kernel) rfl
theorem wl_X3_combineAt : Cond.selects RX3 yX3_combineAt yX3_combineAt ∈ AL := al_at 47 (by decide +kernel) rfl
theorem wc_X3_combineAt : Cond.code yX3_combineAt cX3_combineAt 2 (some (.object "WheatRun$Combine")) ∈ AL := al_at 48 (by decide +kernel) rfl
theorem wm_X6_366 : Cond.methodLink RX6 366 yX6_nextField ∈ AL := al_at 749 (by decide +kernel) rfl
theorem wi_X6_nextField : Cond.instanceMethod yX6_nextField ∈ AL := al_at 497 (by decide +kernel) rfl
theorem wl_X6_nextField : Cond.selects RX6 yX6_nextField yX6_nextField ∈ AL := al_at 498 (by decide +kernel) rfl
theorem wc_X6_nextField : Cond.code yX6_nextField cX6_nextField 11 (some .int) ∈ AL := al_at 499 (by decide +kernel) rfl
theorem wm_X6_287 : Cond.methodLink RX6 287 yJx4a65c_get_915e3 ∈ AL := al_at 501 (by decide +kernel) rfl
theorem wm_X6_339 : Cond.methodLink RX6 339 yX6_bushelsIfSent ∈ AL := al_at 504 (by decide +kernel) rfl
theorem wi_X6_bushelsIfSent : Cond.instanceMethod yX6_bushelsIfSent ∈ AL := al_at 506 (by decide +kernel) rfl
theorem wl_X6_bushelsIfSent : Cond.selects RX6 yX6_bushelsIfSent yX6_bushelsIfSent ∈ AL := al_at 15 (by decide +kernel) rfl
theorem wc_X6_bushelsIfSent : Cond.code yX6_bushelsIfSent cX6_bushelsIfSent 9 (some .int) ∈ AL := al_at 508 (by decide +kernel) rfl
theorem wf_X6_386 : Cond.fieldLink RX6 386 "WheatRun$Combine" "bushelsCut" "I" ∈ AL := al_at 609 (by decide +kernel) rfl
theorem wm_X6_383 : Cond.methodLink RX6 383 yX3_copyFrom ∈ AL := al_at 509 (by decide +kernel) rfl
theorem wi_X3_copyFrom : Cond.instanceMethod yX3_copyFrom ∈ AL := al_at 510 (by decide +kernel) rfl
theorem wl_X3_copyFrom : Cond.selects RX3 yX3_copyFrom yX3_copyFrom ∈ AL := al_at 511 (by decide +kernel) rfl
theorem wc_X3_copyFrom : Cond.code yX3_copyFrom cX3_copyFrom 3 none ∈ AL := al_at 512 (by decide +kernel) rfl
theorem wm_X3_44 : Cond.methodLink RX3 44 yX3_addRowsAs ∈ AL := al_at 513 (by decide +kernel) rfl
theorem wi_X3_addRowsAs : Cond.instanceMethod yX3_addRowsAs ∈ AL := al_at 515 (by decide +kernel) rfl
theorem wl_X3_addRowsAs : Cond.selects RX3 yX3_addRowsAs yX3_addRowsAs ∈ AL := al_at 16 (by decide +kernel) rfl
theorem wc_X3_addRowsAs : Cond.code yX3_addRowsAs cX3_addRowsAs 3 none ∈ AL := al_at 516 (by decide +kernel) rfl
theorem wm_X3_77 : Cond.methodLink RX3 77 yX2_init ∈ AL := al_at 517 (by decide +kernel) rfl
theorem wm_X3_80 : Cond.methodLink RX3 80 yJx4a65c_add_9ea2d ∈ AL := al_at 376 (by decide +kernel) rfl
theorem wm_X3_84 : Cond.methodLink RX3 84 yX0_init ∈ AL := al_at 576 (by decide +kernel) rfl
theorem wm_X3_87 : Cond.methodLink RX3 87 yX5_init ∈ AL := al_at 636 (by decide +kernel) rfl
theorem wm_X3_90 : Cond.methodLink RX3 90 yX1_init ∈ AL := al_at 694 (by decide +kernel) rfl
theorem wm_X3_58 : Cond.methodLink RX3 58 yX2_copyFrom ∈ AL := al_at 720 (by decide +kernel) rfl
theorem wm_X3_64 : Cond.methodLink RX3 64 yX0_copyFrom ∈ AL := al_at 721 (by decide +kernel) rfl
theorem wi_X0_copyFrom : Cond.instanceMethod yX0_copyFrom ∈ AL := al_at 722 (by decide +kernel) rfl
theorem wl_X0_copyFrom : Cond.selects RX0 yX0_copyFrom yX0_copyFrom ∈ AL := al_at 723 (by decide +kernel) rfl
theorem wc_X0_copyFrom : Cond.code yX0_copyFrom cX0_copyFrom 2 none ∈ AL := al_at 724 (by decide +kernel) rfl
theorem wf_X0_27 : Cond.fieldLink RX0 27 "WheatRun$Combine" "tank" "I" ∈ AL := al_at 585 (by decide +kernel) rfl
theorem wf_X0_30 : Cond.fieldLink RX0 30 "WheatRun$Combine" "tankDamp" "I" ∈ AL := al_at 593 (by decide +kernel) rfl
theorem wf_X0_33 : Cond.fieldLink RX0 33 "WheatRun$Combine" "wear" "I" ∈ AL := al_at 595 (by decide +kernel) rfl
theorem wf_X0_36 : Cond.fieldLink RX0 36 "WheatRun$Combine" "isBroken" "Z" ∈ AL := al_at 597 (by decide +kernel) rfl
theorem wf_X0_40 : Cond.fieldLink RX0 40 "WheatRun$Combine" "idle" "I" ∈ AL := al_at 600 (by decide +kernel) rfl
theorem wf_X0_43 : Cond.fieldLink RX0 43 "WheatRun$Combine" "acresCut" "I" ∈ AL := al_at 606 (by decide +kernel) rfl
theorem wf_X0_46 : Cond.fieldLink RX0 46 "WheatRun$Combine" "bushelsCut" "I" ∈ AL := al_at 608 (by decide +kernel) rfl
theorem wm_X3_69 : Cond.methodLink RX3 69 yX5_copyFrom ∈ AL := al_at 725 (by decide +kernel) rfl
theorem wi_X5_copyFrom : Cond.instanceMethod yX5_copyFrom ∈ AL := al_at 726 (by decide +kernel) rfl
theorem wl_X5_copyFrom : Cond.selects RX5 yX5_copyFrom yX5_copyFrom ∈ AL := al_at 727 (by decide +kernel) rfl
theorem wc_X5_copyFrom : Cond.code yX5_copyFrom cX5_copyFrom 2 none ∈ AL := al_at 728 (by decide +kernel) rfl
theorem wf_X5_24 : Cond.fieldLink RX5 24 "WheatRun$Truck" "hours" "I" ∈ AL := al_at 643 (by decide +kernel) rfl
theorem wf_X5_27 : Cond.fieldLink RX5 27 "WheatRun$Truck" "load" "I" ∈ AL := al_at 646 (by decide +kernel) rfl
theorem wf_X5_30 : Cond.fieldLink RX5 30 "WheatRun$Truck" "damp" "I" ∈ AL := al_at 655 (by decide +kernel) rfl
theorem wf_X5_33 : Cond.fieldLink RX5 33 "WheatRun$Truck" "rest" "I" ∈ AL := al_at 659 (by decide +kernel) rfl
theorem wf_X5_36 : Cond.fieldLink RX5 36 "WheatRun$Truck" "queued" "I" ∈ AL := al_at 661 (by decide +kernel) rfl
theorem wf_X5_39 : Cond.fieldLink RX5 39 "WheatRun$Truck" "driven" "I" ∈ AL := al_at 671 (by decide +kernel) rfl
theorem wm_X3_74 : Cond.methodLink RX3 74 yX1_copyFrom ∈ AL := al_at 729 (by decide +kernel) rfl
theorem wi_X1_copyFrom : Cond.instanceMethod yX1_copyFrom ∈ AL := al_at 730 (by decide +kernel) rfl
theorem wl_X1_copyFrom : Cond.selects RX1 yX1_copyFrom yX1_copyFrom ∈ AL := al_at 731 (by decide +kernel) rfl
theorem wc_X1_copyFrom : Cond.code yX1_copyFrom cX1_copyFrom 2 none ∈ AL := al_at 732 (by decide +kernel) rfl
theorem wm_X6_204 : Cond.methodLink RX6 204 yX3_passHour ∈ AL := al_at 217 (by decide +kernel) rfl
theorem wi_X3_passHour : Cond.instanceMethod yX3_passHour ∈ AL := al_at 218 (by decide +kernel) rfl
theorem wl_X3_passHour : Cond.selects RX3 yX3_passHour yX3_passHour ∈ AL := al_at 219 (by decide +kernel) rfl
theorem wc_X3_passHour : Cond.code yX3_passHour cX3_passHour 6 none ∈ AL := al_at 220 (by decide +kernel) rfl
theorem wm_X3_95 : Cond.methodLink RX3 95 yX3_clock ∈ AL := al_at 221 (by decide +kernel) rfl
theorem wm_X3_98 : Cond.methodLink RX3 98 yX2_passHour ∈ AL := al_at 225 (by decide +kernel) rfl
theorem wm_X3_105 : Cond.methodLink RX3 105 yX3_fieldAt ∈ AL := al_at 248 (by decide +kernel) rfl
theorem wm_X3_109 : Cond.methodLink RX3 109 yX0_passHour ∈ AL := al_at 249 (by decide +kernel) rfl
theorem wi_X0_passHour : Cond.instanceMethod yX0_passHour ∈ AL := al_at 250 (by decide +kernel) rfl
theorem wl_X0_passHour : Cond.selects RX0 yX0_passHour yX0_passHour ∈ AL := al_at 251 (by decide +kernel) rfl
theorem wc_X0_passHour : Cond.code yX0_passHour cX0_passHour 5 none ∈ AL := al_at 252 (by decide +kernel) rfl
theorem wf_X0_49 : Cond.fieldLink RX0 49 "WheatRun$Field" "mile" "I" ∈ AL := al_at 524 (by decide +kernel) rfl
theorem wt_X6_towards : Cond.static yX6_towards ∈ AL := al_at 254 (by decide +kernel) rfl
theorem wc_X6_towards : Cond.code yX6_towards cX6_towards 3 (some .int) ∈ AL := al_at 255 (by decide +kernel) rfl
theorem wm_X6_186 : Cond.methodLink RX6 186 Lib.Math.min.name ∈ AL := al_at 256 (by decide +kernel) rfl
theorem wm_X6_380 : Cond.methodLink RX6 380 Lib.Math.max.name ∈ AL := al_at 257 (by decide +kernel) rfl
theorem wm_X0_56 : Cond.methodLink RX0 56 yX0_acresAtOnce ∈ AL := al_at 258 (by decide +kernel) rfl
theorem wi_X0_acresAtOnce : Cond.instanceMethod yX0_acresAtOnce ∈ AL := al_at 260 (by decide +kernel) rfl
theorem wl_X0_acresAtOnce : Cond.selects RX0 yX0_acresAtOnce yX0_acresAtOnce ∈ AL := al_at 4 (by decide +kernel) rfl
theorem wc_X0_acresAtOnce : Cond.code yX0_acresAtOnce cX0_acresAtOnce 4 (some .int) ∈ AL := al_at 262 (by decide +kernel) rfl
theorem wm_X0_76 : Cond.methodLink RX0 76 Lib.Math.min.name ∈ AL := al_at 267 (by decide +kernel) rfl
theorem wm_X0_72 : Cond.methodLink RX0 72 yX2_uncut ∈ AL := al_at 263 (by decide +kernel) rfl
theorem wm_X0_82 : Cond.methodLink RX0 82 yX2_brings ∈ AL := al_at 268 (by decide +kernel) rfl
theorem wm_X0_60 : Cond.methodLink RX0 60 yX2_isFit ∈ AL := al_at 272 (by decide +kernel) rfl
theorem wm_X0_64 : Cond.methodLink RX0 64 yX0_holdsAnother ∈ AL := al_at 276 (by decide +kernel) rfl
theorem wi_X0_holdsAnother : Cond.instanceMethod yX0_holdsAnother ∈ AL := al_at 278 (by decide +kernel) rfl
theorem wl_X0_holdsAnother : Cond.selects RX0 yX0_holdsAnother yX0_holdsAnother ∈ AL := al_at 5 (by decide +kernel) rfl
theorem wc_X0_holdsAnother : Cond.code yX0_holdsAnother cX0_holdsAnother 1 (some .boolean) ∈ AL := al_at 279 (by decide +kernel) rfl
theorem wm_X0_68 : Cond.methodLink RX0 68 yX0_harvest ∈ AL := al_at 280 (by decide +kernel) rfl
theorem wi_X0_harvest : Cond.instanceMethod yX0_harvest ∈ AL := al_at 282 (by decide +kernel) rfl
theorem wl_X0_harvest : Cond.selects RX0 yX0_harvest yX0_harvest ∈ AL := al_at 6 (by decide +kernel) rfl
theorem wc_X0_harvest : Cond.code yX0_harvest cX0_harvest 4 none ∈ AL := al_at 283 (by decide +kernel) rfl
theorem wf_X0_85 : Cond.fieldLink RX0 85 "WheatRun$Field" "acresCut" "I" ∈ AL := al_at 531 (by decide +kernel) rfl
theorem wf_X0_86 : Cond.fieldLink RX0 86 "WheatRun$Field" "map" "I" ∈ AL := al_at 541 (by decide +kernel) rfl
theorem wf_X0_93 : Cond.fieldLink RX0 93 "WheatRun$Field" "damp" "I" ∈ AL := al_at 537 (by decide +kernel) rfl
theorem wm_X0_96 : Cond.methodLink RX0 96 Lib.Math.max.name ∈ AL := al_at 288 (by decide +kernel) rfl
theorem wm_X0_89 : Cond.methodLink RX0 89 yX0_metered ∈ AL := al_at 284 (by decide +kernel) rfl
theorem wi_X0_metered : Cond.instanceMethod yX0_metered ∈ AL := al_at 286 (by decide +kernel) rfl
theorem wl_X0_metered : Cond.selects RX0 yX0_metered yX0_metered ∈ AL := al_at 7 (by decide +kernel) rfl
theorem wc_X0_metered : Cond.code yX0_metered cX0_metered 3 (some .int) ∈ AL := al_at 287 (by decide +kernel) rfl
theorem wm_X3_112 : Cond.methodLink RX3 112 yX3_passTruckHour ∈ AL := al_at 289 (by decide +kernel) rfl
theorem wi_X3_passTruckHour : Cond.instanceMethod yX3_passTruckHour ∈ AL := al_at 291 (by decide +kernel) rfl
theorem wl_X3_passTruckHour : Cond.selects RX3 yX3_passTruckHour yX3_passTruckHour ∈ AL := al_at 8 (by decide +kernel) rfl
theorem wc_X3_passTruckHour : Cond.code yX3_passTruckHour cX3_passTruckHour 4 none ∈ AL := al_at 293 (by decide +kernel) rfl
theorem wf_X3_115 : Cond.fieldLink RX3 115 "WheatRun$Truck" "toCombine" "I" ∈ AL := al_at 666 (by decide +kernel) rfl
theorem wf_X3_122 : Cond.fieldLink RX3 122 "WheatRun$Truck" "toElevator" "I" ∈ AL := al_at 670 (by decide +kernel) rfl
theorem wf_X3_136 : Cond.fieldLink RX3 136 "WheatRun$Truck" "mile" "I" ∈ AL := al_at 642 (by decide +kernel) rfl
theorem wf_X3_139 : Cond.fieldLink RX3 139 "WheatRun$Combine" "mile" "I" ∈ AL := al_at 583 (by decide +kernel) rfl
theorem wf_X3_146 : Cond.fieldLink RX3 146 "WheatRun$Elevator" "mile" "I" ∈ AL := al_at 700 (by decide +kernel) rfl
theorem wm_X3_118 : Cond.methodLink RX3 118 yX3_combineAt ∈ AL := al_at 294 (by decide +kernel) rfl
theorem wm_X3_125 : Cond.methodLink RX3 125 yX3_elevatorAt ∈ AL := al_at 295 (by decide +kernel) rfl
theorem wi_X3_elevatorAt : Cond.instanceMethod yX3_elevatorAt ∈ AL := al_at 166 (by decide +kernel) rfl
theorem wl_X3_elevatorAt : Cond.selects RX3 yX3_elevatorAt yX3_elevatorAt ∈ AL := al_at 167 (by decide +kernel) rfl
theorem wc_X3_elevatorAt : Cond.code yX3_elevatorAt cX3_elevatorAt 2 (some (.object "WheatRun$Elevator")) ∈ AL := al_at 168 (by decide +kernel) rfl
theorem wm_X3_129 : Cond.methodLink RX3 129 yX5_mustRest ∈ AL := al_at 296 (by decide +kernel) rfl
theorem wi_X5_mustRest : Cond.instanceMethod yX5_mustRest ∈ AL := al_at 297 (by decide +kernel) rfl
theorem wl_X5_mustRest : Cond.selects RX5 yX5_mustRest yX5_mustRest ∈ AL := al_at 298 (by decide +kernel) rfl
theorem wc_X5_mustRest : Cond.code yX5_mustRest cX5_mustRest 2 (some .boolean) ∈ AL := al_at 299 (by decide +kernel) rfl
theorem wm_X3_133 : Cond.methodLink RX3 133 yX5_sleepHour ∈ AL := al_at 300 (by decide +kernel) rfl
theorem wi_X5_sleepHour : Cond.instanceMethod yX5_sleepHour ∈ AL := al_at 301 (by decide +kernel) rfl
theorem wl_X5_sleepHour : Cond.selects RX5 yX5_sleepHour yX5_sleepHour ∈ AL := al_at 302 (by decide +kernel) rfl
theorem wc_X5_sleepHour : Cond.code yX5_sleepHour cX5_sleepHour 1 none ∈ AL := al_at 303 (by decide +kernel) rfl
theorem wm_X3_140 : Cond.methodLink RX3 140 yX5_drive ∈ AL := al_at 304 (by decide +kernel) rfl
theorem wi_X5_drive : Cond.instanceMethod yX5_drive ∈ AL := al_at 305 (by decide +kernel) rfl
theorem wl_X5_drive : Cond.selects RX5 yX5_drive yX5_drive ∈ AL := al_at 306 (by decide +kernel) rfl
theorem wc_X5_drive : Cond.code yX5_drive cX5_drive 3 none ∈ AL := al_at 307 (by decide +kernel) rfl
theorem wm_X5_46 : Cond.methodLink RX5 46 Lib.Math.abs.name ∈ AL := al_at 309 (by decide +kernel) rfl
theorem wt_mabs : Cond.static Lib.Math.abs.name ∈ AL := al_at 159 (by decide +kernel) rfl
theorem wc_mabs : Cond.code Lib.Math.abs.name Lib.Math.abs.code 1 (some .int) ∈ AL := al_at 160 (by decide +kernel) rfl
theorem wm_X3_143 : Cond.methodLink RX3 143 yX5_takeFrom ∈ AL := al_at 310 (by decide +kernel) rfl
theorem wi_X5_takeFrom : Cond.instanceMethod yX5_takeFrom ∈ AL := al_at 311 (by decide +kernel) rfl
theorem wl_X5_takeFrom : Cond.selects RX5 yX5_takeFrom yX5_takeFrom ∈ AL := al_at 312 (by decide +kernel) rfl
theorem wc_X5_takeFrom : Cond.code yX5_takeFrom cX5_takeFrom 3 none ∈ AL := al_at 313 (by decide +kernel) rfl
theorem wf_X5_52 : Cond.fieldLink RX5 52 "WheatRun$Combine" "tankField" "I" ∈ AL := al_at 590 (by decide +kernel) rfl
theorem wf_X5_57 : Cond.fieldLink RX5 57 "WheatRun$Combine" "tank" "I" ∈ AL := al_at 586 (by decide +kernel) rfl
theorem wm_X5_60 : Cond.methodLink RX5 60 Lib.Math.min.name ∈ AL := al_at 314 (by decide +kernel) rfl
theorem wf_X5_64 : Cond.fieldLink RX5 64 "WheatRun$Combine" "tankDamp" "I" ∈ AL := al_at 594 (by decide +kernel) rfl
theorem wm_X5_67 : Cond.methodLink RX5 67 Lib.Math.max.name ∈ AL := al_at 315 (by decide +kernel) rfl
theorem wm_X3_150 : Cond.methodLink RX3 150 yX3_unload ∈ AL := al_at 316 (by decide +kernel) rfl
theorem wi_X3_unload : Cond.instanceMethod yX3_unload ∈ AL := al_at 318 (by decide +kernel) rfl
theorem wl_X3_unload : Cond.selects RX3 yX3_unload yX3_unload ∈ AL := al_at 9 (by decide +kernel) rfl
theorem wc_X3_unload : Cond.code yX3_unload cX3_unload 3 none ∈ AL := al_at 319 (by decide +kernel) rfl
theorem wm_X3_154 : Cond.methodLink RX3 154 yX1_takes ∈ AL := al_at 320 (by decide +kernel) rfl
theorem wi_X1_takes : Cond.instanceMethod yX1_takes ∈ AL := al_at 321 (by decide +kernel) rfl
theorem wl_X1_takes : Cond.selects RX1 yX1_takes yX1_takes ∈ AL := al_at 322 (by decide +kernel) rfl
theorem wc_X1_takes : Cond.code yX1_takes cX1_takes 3 (some .boolean) ∈ AL := al_at 323 (by decide +kernel) rfl
theorem wf_X1_32 : Cond.fieldLink RX1 32 "WheatRun$Truck" "damp" "I" ∈ AL := al_at 656 (by decide +kernel) rfl
theorem wf_X1_37 : Cond.fieldLink RX1 37 "WheatRun$Truck" "load" "I" ∈ AL := al_at 647 (by decide +kernel) rfl
theorem wm_X1_28 : Cond.methodLink RX1 28 yX1_isOpen ∈ AL := al_at 324 (by decide +kernel) rfl
theorem wi_X1_isOpen : Cond.instanceMethod yX1_isOpen ∈ AL := al_at 326 (by decide +kernel) rfl
theorem wl_X1_isOpen : Cond.selects RX1 yX1_isOpen yX1_isOpen ∈ AL := al_at 10 (by decide +kernel) rfl
theorem wc_X1_isOpen : Cond.code yX1_isOpen cX1_isOpen 2 (some .boolean) ∈ AL := al_at 328 (by decide +kernel) rfl
theorem wm_X3_164 : Cond.methodLink RX3 164 yX3_writeTicket ∈ AL := al_at 329 (by decide +kernel) rfl
theorem wi_X3_writeTicket : Cond.instanceMethod yX3_writeTicket ∈ AL := al_at 331 (by decide +kernel) rfl
theorem wl_X3_writeTicket : Cond.selects RX3 yX3_writeTicket yX3_writeTicket ∈ AL := al_at 11 (by decide +kernel) rfl
theorem wc_X3_writeTicket : Cond.code yX3_writeTicket cX3_writeTicket 5 none ∈ AL := al_at 332 (by decide +kernel) rfl
theorem wk_X3_93 : Cond.classLink RX3 93 RX4 ∈ AL := al_at 333 (by decide +kernel) rfl
theorem wb_X4 : Cond.instantiable RX4 7 ∈ AL := al_at 334 (by decide +kernel) rfl
theorem wn_X4 : Cond.initialized RX4 ∈ AL := al_at 40 (by decide +kernel) rfl
theorem wf_X3_167 : Cond.fieldLink RX3 167 "WheatRun$Truck" "damp" "I" ∈ AL := al_at 657 (by decide +kernel) rfl
theorem wf_X3_177 : Cond.fieldLink RX3 177 "WheatRun$Ticket" "bushels" "I" ∈ AL := al_at 348 (by decide +kernel) rfl
theorem wf_X3_180 : Cond.fieldLink RX3 180 "WheatRun$Ticket" "field" "I" ∈ AL := al_at 345 (by decide +kernel) rfl
theorem wf_X3_183 : Cond.fieldLink RX3 183 "WheatRun$Ticket" "worth" "I" ∈ AL := al_at 359 (by decide +kernel) rfl
theorem wm_X3_170 : Cond.methodLink RX3 170 yX1_discount ∈ AL := al_at 335 (by decide +kernel) rfl
theorem wi_X1_discount : Cond.instanceMethod yX1_discount ∈ AL := al_at 336 (by decide +kernel) rfl
theorem wl_X1_discount : Cond.selects RX1 yX1_discount yX1_discount ∈ AL := al_at 337 (by decide +kernel) rfl
theorem wc_X1_discount : Cond.code yX1_discount cX1_discount 2 (some .int) ∈ AL := al_at 338 (by decide +kernel) rfl
theorem wm_X1_40 : Cond.methodLink RX1 40 Lib.Math.max.name ∈ AL := al_at 339 (by decide +kernel) rfl
theorem wm_X3_174 : Cond.methodLink RX3 174 yX4_init ∈ AL := al_at 340 (by decide +kernel) rfl
theorem wi_X4_init : Cond.instanceMethod yX4_init ∈ AL := al_at 341 (by decide +kernel) rfl
theorem wc_X4_init : Cond.code yX4_init cX4_init 5 none ∈ AL := al_at 342 (by decide +kernel) rfl
theorem wm_X4_1 : Cond.methodLink RX4 1 objectInit ∈ AL := al_at 343 (by decide +kernel) rfl
theorem wf_X4_7 : Cond.fieldLink RX4 7 "WheatRun$Truck" "loadField" "I" ∈ AL := al_at 651 (by decide +kernel) rfl
theorem wf_X4_13 : Cond.fieldLink RX4 13 "WheatRun$Ticket" "field" "I" ∈ AL := al_at 344 (by decide +kernel) rfl
theorem wf_X4_18 : Cond.fieldLink RX4 18 "WheatRun$Truck" "load" "I" ∈ AL := al_at 645 (by decide +kernel) rfl
theorem wf_X4_21 : Cond.fieldLink RX4 21 "WheatRun$Ticket" "bushels" "I" ∈ AL := al_at 347 (by decide +kernel) rfl
theorem wf_X4_24 : Cond.fieldLink RX4 24 "WheatRun$Truck" "damp" "I" ∈ AL := al_at 654 (by decide +kernel) rfl
theorem wf_X4_27 : Cond.fieldLink RX4 27 "WheatRun$Ticket" "damp" "I" ∈ AL := al_at 350 (by decide +kernel) rfl
theorem wf_X4_28 : Cond.fieldLink RX4 28 "WheatRun$Ticket" "discount" "I" ∈ AL := al_at 352 (by decide +kernel) rfl
theorem wf_X4_31 : Cond.fieldLink RX4 31 "WheatRun$Truck" "toElevator" "I" ∈ AL := al_at 668 (by decide +kernel) rfl
theorem wf_X4_34 : Cond.fieldLink RX4 34 "WheatRun$Ticket" "elevator" "I" ∈ AL := al_at 354 (by decide +kernel) rfl
theorem wf_X4_37 : Cond.fieldLink RX4 37 "WheatRun$Ticket" "hour" "I" ∈ AL := al_at 356 (by decide +kernel) rfl
theorem wf_X4_40 : Cond.fieldLink RX4 40 "WheatRun$Ticket" "worth" "I" ∈ AL := al_at 358 (by decide +kernel) rfl
theorem wm_X3_186 : Cond.methodLink RX3 186 yX2_credit ∈ AL := al_at 434 (by decide +kernel) rfl
theorem wi_X2_credit : Cond.instanceMethod yX2_credit ∈ AL := al_at 435 (by decide +kernel) rfl
theorem wl_X2_credit : Cond.selects RX2 yX2_credit yX2_credit ∈ AL := al_at 436 (by decide +kernel) rfl
theorem wc_X2_credit : Cond.code yX2_credit cX2_credit 4 none ∈ AL := al_at 437 (by decide +kernel) rfl
theorem wm_X6_370 : Cond.methodLink RX6 370 yX6_ofTruck ∈ AL := al_at 750 (by decide +kernel) rfl
theorem wi_X6_ofTruck : Cond.instanceMethod yX6_ofTruck ∈ AL := al_at 751 (by decide +kernel) rfl
theorem wl_X6_ofTruck : Cond.selects RX6 yX6_ofTruck yX6_ofTruck ∈ AL := al_at 752 (by decide +kernel) rfl
theorem wc_X6_ofTruck : Cond.code yX6_ofTruck cX6_ofTruck 4 (some .int) ∈ AL := al_at 753 (by decide +kernel) rfl
theorem wf_X6_153 : Cond.fieldLink RX6 153 "WheatRun$Truck" "mile" "I" ∈ AL := al_at 641 (by decide +kernel) rfl
theorem wf_X6_244 : Cond.fieldLink RX6 244 "WheatRun$Truck" "load" "I" ∈ AL := al_at 649 (by decide +kernel) rfl
theorem wf_X6_247 : Cond.fieldLink RX6 247 "WheatRun$Truck" "loadField" "I" ∈ AL := al_at 653 (by decide +kernel) rfl
theorem wf_X6_250 : Cond.fieldLink RX6 250 "WheatRun$Truck" "damp" "I" ∈ AL := al_at 658 (by decide +kernel) rfl
theorem wf_X6_166 : Cond.fieldLink RX6 166 "WheatRun$Truck" "hours" "I" ∈ AL := al_at 644 (by decide +kernel) rfl
theorem wf_X6_251 : Cond.fieldLink RX6 251 "WheatRun$Truck" "rest" "I" ∈ AL := al_at 660 (by decide +kernel) rfl
theorem wf_X6_254 : Cond.fieldLink RX6 254 "WheatRun$Truck" "queued" "I" ∈ AL := al_at 663 (by decide +kernel) rfl
theorem wf_X6_257 : Cond.fieldLink RX6 257 "WheatRun$Truck" "driven" "I" ∈ AL := al_at 672 (by decide +kernel) rfl
theorem wm_X6_138 : Cond.methodLink RX6 138 yX3_truckAt ∈ AL := al_at 152 (by decide +kernel) rfl
theorem wi_X3_truckAt : Cond.instanceMethod yX3_truckAt ∈ AL := al_at 153 (by decide +kernel) rfl
theorem wl_X3_truckAt : Cond.selects RX3 yX3_truckAt yX3_truckAt ∈ AL := al_at 154 (by decide +kernel) rfl
theorem wc_X3_truckAt : Cond.code yX3_truckAt cX3_truckAt 2 (some (.object "WheatRun$Truck")) ∈ AL := al_at 155 (by decide +kernel) rfl
theorem wm_X6_373 : Cond.methodLink RX6 373 yX6_ofTicket ∈ AL := al_at 754 (by decide +kernel) rfl
theorem wi_X6_ofTicket : Cond.instanceMethod yX6_ofTicket ∈ AL := al_at 755 (by decide +kernel) rfl
theorem wl_X6_ofTicket : Cond.selects RX6 yX6_ofTicket yX6_ofTicket ∈ AL := al_at 756 (by decide +kernel) rfl
theorem wc_X6_ofTicket : Cond.code yX6_ofTicket cX6_ofTicket 4 (some .int) ∈ AL := al_at 757 (by decide +kernel) rfl
theorem wf_X6_266 : Cond.fieldLink RX6 266 "WheatRun$Ticket" "field" "I" ∈ AL := al_at 346 (by decide +kernel) rfl
theorem wf_X6_271 : Cond.fieldLink RX6 271 "WheatRun$Ticket" "bushels" "I" ∈ AL := al_at 349 (by decide +kernel) rfl
theorem wf_X6_274 : Cond.fieldLink RX6 274 "WheatRun$Ticket" "damp" "I" ∈ AL := al_at 351 (by decide +kernel) rfl
theorem wf_X6_275 : Cond.fieldLink RX6 275 "WheatRun$Ticket" "discount" "I" ∈ AL := al_at 353 (by decide +kernel) rfl
theorem wf_X6_278 : Cond.fieldLink RX6 278 "WheatRun$Ticket" "elevator" "I" ∈ AL := al_at 355 (by decide +kernel) rfl
theorem wf_X6_281 : Cond.fieldLink RX6 281 "WheatRun$Ticket" "hour" "I" ∈ AL := al_at 357 (by decide +kernel) rfl
theorem wf_X6_284 : Cond.fieldLink RX6 284 "WheatRun$Ticket" "worth" "I" ∈ AL := al_at 360 (by decide +kernel) rfl
theorem wm_X6_260 : Cond.methodLink RX6 260 yX3_ticketAt ∈ AL := al_at 758 (by decide +kernel) rfl
theorem wi_X3_ticketAt : Cond.instanceMethod yX3_ticketAt ∈ AL := al_at 759 (by decide +kernel) rfl
theorem wl_X3_ticketAt : Cond.selects RX3 yX3_ticketAt yX3_ticketAt ∈ AL := al_at 760 (by decide +kernel) rfl
theorem wc_X3_ticketAt : Cond.code yX3_ticketAt cX3_ticketAt 2 (some (.object "WheatRun$Ticket")) ∈ AL := al_at 761 (by decide +kernel) rfl
theorem wm_X6_376 : Cond.methodLink RX6 376 yX6_owed ∈ AL := al_at 763 (by decide +kernel) rfl
theorem wi_X6_owed : Cond.instanceMethod yX6_owed ∈ AL := al_at 764 (by decide +kernel) rfl
theorem wl_X6_owed : Cond.selects RX6 yX6_owed yX6_owed ∈ AL := al_at 765 (by decide +kernel) rfl
theorem wc_X6_owed : Cond.code yX6_owed cX6_owed 6 (some .int) ∈ AL := al_at 766 (by decide +kernel) rfl
theorem wf_X6_291 : Cond.fieldLink RX6 291 "WheatRun$Field" "forLandlord" "I" ∈ AL := al_at 548 (by decide +kernel) rfl
theorem wf_X6_294 : Cond.fieldLink RX6 294 "WheatRun$Field" "forFarmer" "I" ∈ AL := al_at 546 (by decide +kernel) rfl
theorem wm_L_32 : Cond.methodLink RL 32 yX6_readyIn ∈ AL := al_at 484 (by decide +kernel) rfl
theorem wm_L_36 : Cond.methodLink RL 36 yX6_waiting ∈ AL := al_at 733 (by decide +kernel) rfl
theorem wm_L_40 : Cond.methodLink RL 40 yX6_nextField ∈ AL := al_at 496 (by decide +kernel) rfl
theorem wm_L_44 : Cond.methodLink RL 44 yX6_ofField ∈ AL := al_at 438 (by decide +kernel) rfl
theorem wm_L_48 : Cond.methodLink RL 48 yX6_cut ∈ AL := al_at 41 (by decide +kernel) rfl
theorem wi_X6_cut : Cond.instanceMethod yX6_cut ∈ AL := al_at 42 (by decide +kernel) rfl
theorem wl_X6_cut : Cond.selects RX6 yX6_cut yX6_cut ∈ AL := al_at 43 (by decide +kernel) rfl
theorem wc_X6_cut : Cond.code yX6_cut cX6_cut 4 (some .int) ∈ AL := al_at 44 (by decide +kernel) rfl
theorem wm_L_51 : Cond.methodLink RL 51 yX6_ofCombine ∈ AL := al_at 451 (by decide +kernel) rfl
theorem wm_L_54 : Cond.methodLink RL 54 yX6_many ∈ AL := al_at 455 (by decide +kernel) rfl
theorem wm_L_57 : Cond.methodLink RL 57 yX6_pass ∈ AL := al_at 171 (by decide +kernel) rfl
theorem wi_X6_pass : Cond.instanceMethod yX6_pass ∈ AL := al_at 172 (by decide +kernel) rfl
theorem wl_X6_pass : Cond.selects RX6 yX6_pass yX6_pass ∈ AL := al_at 173 (by decide +kernel) rfl
theorem wc_X6_pass : Cond.code yX6_pass cX6_pass 7 (some .int) ∈ AL := al_at 174 (by decide +kernel) rfl
theorem wm_L_64 : Cond.methodLink RL 64 yX6_fetch ∈ AL := al_at 148 (by decide +kernel) rfl
theorem wi_X6_fetch : Cond.instanceMethod yX6_fetch ∈ AL := al_at 149 (by decide +kernel) rfl
theorem wl_X6_fetch : Cond.selects RX6 yX6_fetch yX6_fetch ∈ AL := al_at 150 (by decide +kernel) rfl
theorem wc_X6_fetch : Cond.code yX6_fetch cX6_fetch 5 (some .int) ∈ AL := al_at 151 (by decide +kernel) rfl
theorem wf_X6_144 : Cond.fieldLink RX6 144 "WheatRun$Truck" "toCombine" "I" ∈ AL := al_at 665 (by decide +kernel) rfl
theorem wf_X6_147 : Cond.fieldLink RX6 147 "WheatRun$Truck" "toElevator" "I" ∈ AL := al_at 669 (by decide +kernel) rfl
theorem wm_X6_154 : Cond.methodLink RX6 154 Lib.Math.abs.name ∈ AL := al_at 158 (by decide +kernel) rfl
theorem wm_L_67 : Cond.methodLink RL 67 yX6_haul ∈ AL := al_at 161 (by decide +kernel) rfl
theorem wi_X6_haul : Cond.instanceMethod yX6_haul ∈ AL := al_at 162 (by decide +kernel) rfl
theorem wl_X6_haul : Cond.selects RX6 yX6_haul yX6_haul ∈ AL := al_at 163 (by decide +kernel) rfl
theorem wc_X6_haul : Cond.code yX6_haul cX6_haul 5 (some .int) ∈ AL := al_at 164 (by decide +kernel) rfl
theorem wf_X6_165 : Cond.fieldLink RX6 165 "WheatRun$Elevator" "mile" "I" ∈ AL := al_at 699 (by decide +kernel) rfl
theorem wm_X6_159 : Cond.methodLink RX6 159 yX3_elevatorAt ∈ AL := al_at 165 (by decide +kernel) rfl
end
section
theorem dX0_init_0 : decode cX0_init 0 = .ok (.aload_n 0, 1) := by decide +kernel
theorem dX0_init_1 : decode cX0_init 1 = .ok (.invokespecial 3, 3) := by decide +kernel
theorem dX0_init_4 : decode cX0_init 4 = .ok (.aload_n 0, 1) := by decide +kernel
theorem dX0_init_5 : decode cX0_init 5 = .ok (.iconst (-1), 1) := by decide +kernel
theorem dX0_init_6 : decode cX0_init 6 = .ok (.putfield 9, 3) := by decide +kernel
theorem dX0_init_9 : decode cX0_init 9 = .ok (.aload_n 0, 1) := by decide +kernel
theorem dX0_init_10 : decode cX0_init 10 = .ok (.iconst (-1), 1) := by decide +kernel
theorem dX0_init_11 : decode cX0_init 11 = .ok (.putfield 15, 3) := by decide +kernel
theorem dX0_init_14 : decode cX0_init 14 = .ok (.aload_n 0, 1) := by decide +kernel
theorem dX0_init_15 : decode cX0_init 15 = .ok (.iload_n 1, 1) := by decide +kernel
theorem dX0_init_16 : decode cX0_init 16 = .ok (.putfield 18, 3) := by decide +kernel
theorem dX0_init_19 : decode cX0_init 19 = .ok (.aload_n 0, 1) := by decide +kernel
theorem dX0_init_20 : decode cX0_init 20 = .ok (.iload_n 2, 1) := by decide +kernel
theorem dX0_init_21 : decode cX0_init 21 = .ok (.putfield 21, 3) := by decide +kernel
theorem dX0_init_24 : decode cX0_init 24 = .ok (.aload_n 0, 1) := by decide +kernel
theorem dX0_init_25 : decode cX0_init 25 = .ok (.iload_n 3, 1) := by decide +kernel
theorem dX0_init_26 : decode cX0_init 26 = .ok (.putfield 24, 3) := by decide +kernel
theorem dX0_init_29 : decode cX0_init 29 = .ok (.return_, 1) := by decide +kernel
theorem dX0_copyFrom_0 : decode cX0_copyFrom 0 = .ok (.aload_n 0, 1) := by decide +kernel
theorem dX0_copyFrom_1 : decode cX0_copyFrom 1 = .ok (.aload_n 1, 1) := by decide +kernel
theorem dX0_copyFrom_2 : decode cX0_copyFrom 2 = .ok (.getfield 18, 3) := by decide +kernel
theorem dX0_copyFrom_5 : decode cX0_copyFrom 5 = .ok (.putfield 18, 3) := by decide +kernel
theorem dX0_copyFrom_8 : decode cX0_copyFrom 8 = .ok (.aload_n 0, 1) := by decide +kernel
theorem dX0_copyFrom_9 : decode cX0_copyFrom 9 = .ok (.aload_n 1, 1) := by decide +kernel
theorem dX0_copyFrom_10 : decode cX0_copyFrom 10 = .ok (.getfield 21, 3) := by decide +kernel
theorem dX0_copyFrom_13 : decode cX0_copyFrom 13 = .ok (.putfield 21, 3) := by decide +kernel
theorem dX0_copyFrom_16 : decode cX0_copyFrom 16 = .ok (.aload_n 0, 1) := by decide +kernel
theorem dX0_copyFrom_17 : decode cX0_copyFrom 17 = .ok (.aload_n 1, 1) := by decide +kernel
theorem dX0_copyFrom_18 : decode cX0_copyFrom 18 = .ok (.getfield 24, 3) := by decide +kernel
theorem dX0_copyFrom_21 : decode cX0_copyFrom 21 = .ok (.putfield 24, 3) := by decide +kernel
theorem dX0_copyFrom_24 : decode cX0_copyFrom 24 = .ok (.aload_n 0, 1) := by decide +kernel
theorem dX0_copyFrom_25 : decode cX0_copyFrom 25 = .ok (.aload_n 1, 1) := by decide +kernel
theorem dX0_copyFrom_26 : decode cX0_copyFrom 26 = .ok (.getfield 27, 3) := by decide +kernel
theorem dX0_copyFrom_29 : decode cX0_copyFrom 29 = .ok (.putfield 27, 3) := by decide +kernel
theorem dX0_copyFrom_32 : decode cX0_copyFrom 32 = .ok (.aload_n 0, 1) := by decide +kernel
theorem dX0_copyFrom_33 : decode cX0_copyFrom 33 = .ok (.aload_n 1, 1) := by decide +kernel
theorem dX0_copyFrom_34 : decode cX0_copyFrom 34 = .ok (.getfield 9, 3) := by decide +kernel
theorem dX0_copyFrom_37 : decode cX0_copyFrom 37 = .ok (.putfield 9, 3) := by decide +kernel
theorem dX0_copyFrom_40 : decode cX0_copyFrom 40 = .ok (.aload_n 0, 1) := by decide +kernel
theorem dX0_copyFrom_41 : decode cX0_copyFrom 41 = .ok (.aload_n 1, 1) := by decide +kernel
theorem dX0_copyFrom_42 : decode cX0_copyFrom 42 = .ok (.getfield 30, 3) := by decide +kernel
theorem dX0_copyFrom_45 : decode cX0_copyFrom 45 = .ok (.putfield 30, 3) := by decide +kernel
theorem dX0_copyFrom_48 : decode cX0_copyFrom 48 = .ok (.aload_n 0, 1) := by decide +kernel
theorem dX0_copyFrom_49 : decode cX0_copyFrom 49 = .ok (.aload_n 1, 1) := by decide +kernel
theorem dX0_copyFrom_50 : decode cX0_copyFrom 50 = .ok (.getfield 33, 3) := by decide +kernel
theorem dX0_copyFrom_53 : decode cX0_copyFrom 53 = .ok (.putfield 33, 3) := by decide +kernel
theorem dX0_copyFrom_56 : decode cX0_copyFrom 56 = .ok (.aload_n 0, 1) := by decide +kernel
theorem dX0_copyFrom_57 : decode cX0_copyFrom 57 = .ok (.aload_n 1, 1) := by decide +kernel
theorem dX0_copyFrom_58 : decode cX0_copyFrom 58 = .ok (.getfield 36, 3) := by decide +kernel
theorem dX0_copyFrom_61 : decode cX0_copyFrom 61 = .ok (.putfield 36, 3) := by decide +kernel
theorem dX0_copyFrom_64 : decode cX0_copyFrom 64 = .ok (.aload_n 0, 1) := by decide +kernel
theorem dX0_copyFrom_65 : decode cX0_copyFrom 65 = .ok (.aload_n 1, 1) := by decide +kernel
theorem dX0_copyFrom_66 : decode cX0_copyFrom 66 = .ok (.getfield 40, 3) := by decide +kernel
theorem dX0_copyFrom_69 : decode cX0_copyFrom 69 = .ok (.putfield 40, 3) := by decide +kernel
theorem dX0_copyFrom_72 : decode cX0_copyFrom 72 = .ok (.aload_n 0, 1) := by decide +kernel
theorem dX0_copyFrom_73 : decode cX0_copyFrom 73 = .ok (.aload_n 1, 1) := by decide +kernel
theorem dX0_copyFrom_74 : decode cX0_copyFrom 74 = .ok (.getfield 15, 3) := by decide +kernel
theorem dX0_copyFrom_77 : decode cX0_copyFrom 77 = .ok (.putfield 15, 3) := by decide +kernel
theorem dX0_copyFrom_80 : decode cX0_copyFrom 80 = .ok (.aload_n 0, 1) := by decide +kernel
theorem dX0_copyFrom_81 : decode cX0_copyFrom 81 = .ok (.aload_n 1, 1) := by decide +kernel
theorem dX0_copyFrom_82 : decode cX0_copyFrom 82 = .ok (.getfield 43, 3) := by decide +kernel
theorem dX0_copyFrom_85 : decode cX0_copyFrom 85 = .ok (.putfield 43, 3) := by decide +kernel
theorem dX0_copyFrom_88 : decode cX0_copyFrom 88 = .ok (.aload_n 0, 1) := by decide +kernel
theorem dX0_copyFrom_89 : decode cX0_copyFrom 89 = .ok (.aload_n 1, 1) := by decide +kernel
theorem dX0_copyFrom_90 : decode cX0_copyFrom 90 = .ok (.getfield 46, 3) := by decide +kernel
theorem dX0_copyFrom_93 : decode cX0_copyFrom 93 = .ok (.putfield 46, 3) := by decide +kernel
theorem dX0_copyFrom_96 : decode cX0_copyFrom 96 = .ok (.return_, 1) := by decide +kernel
theorem dX0_passHour_0 : decode cX0_passHour 0 = .ok (.aload_n 0, 1) := by decide +kernel
theorem dX0_passHour_1 : decode cX0_passHour 1 = .ok (.getfield 36, 3) := by decide +kernel
theorem dX0_passHour_4 : decode cX0_passHour 4 = .ok (.ifCond .ne 7, 3) := by decide +kernel
theorem dX0_passHour_7 : decode cX0_passHour 7 = .ok (.aload_n 1, 1) := by decide +kernel
theorem dX0_passHour_8 : decode cX0_passHour 8 = .ok (.ifnonnull 4, 3) := by decide +kernel
theorem dX0_passHour_11 : decode cX0_passHour 11 = .ok (.return_, 1) := by decide +kernel
theorem dX0_passHour_12 : decode cX0_passHour 12 = .ok (.aload_n 0, 1) := by decide +kernel
theorem dX0_passHour_13 : decode cX0_passHour 13 = .ok (.getfield 21, 3) := by decide +kernel
theorem dX0_passHour_16 : decode cX0_passHour 16 = .ok (.aload_n 1, 1) := by decide +kernel
theorem dX0_passHour_17 : decode cX0_passHour 17 = .ok (.getfield 49, 3) := by decide +kernel
theorem dX0_passHour_20 : decode cX0_passHour 20 = .ok (.if_icmp .eq 21, 3) := by decide +kernel
theorem dX0_passHour_23 : decode cX0_passHour 23 = .ok (.aload_n 0, 1) := by decide +kernel
theorem dX0_passHour_24 : decode cX0_passHour 24 = .ok (.aload_n 0, 1) := by decide +kernel
theorem dX0_passHour_25 : decode cX0_passHour 25 = .ok (.getfield 21, 3) := by decide +kernel
theorem dX0_passHour_28 : decode cX0_passHour 28 = .ok (.aload_n 1, 1) := by decide +kernel
theorem dX0_passHour_29 : decode cX0_passHour 29 = .ok (.getfield 49, 3) := by decide +kernel
theorem dX0_passHour_32 : decode cX0_passHour 32 = .ok (.bipush 20, 2) := by decide +kernel
theorem dX0_passHour_34 : decode cX0_passHour 34 = .ok (.invokestatic 52, 3) := by decide +kernel
theorem dX0_passHour_37 : decode cX0_passHour 37 = .ok (.putfield 21, 3) := by decide +kernel
theorem dX0_passHour_40 : decode cX0_passHour 40 = .ok (.return_, 1) := by decide +kernel
theorem dX0_passHour_41 : decode cX0_passHour 41 = .ok (.aload_n 0, 1) := by decide +kernel
theorem dX0_passHour_42 : decode cX0_passHour 42 = .ok (.aload_n 1, 1) := by decide +kernel
theorem dX0_passHour_43 : decode cX0_passHour 43 = .ok (.invokevirtual 56, 3) := by decide +kernel
theorem dX0_passHour_46 : decode cX0_passHour 46 = .ok (.istore 4, 2) := by decide +kernel
theorem dX0_passHour_48 : decode cX0_passHour 48 = .ok (.iload_n 3, 1) := by decide +kernel
theorem dX0_passHour_49 : decode cX0_passHour 49 = .ok (.ifCond .gt 23, 3) := by decide +kernel
theorem dX0_passHour_52 : decode cX0_passHour 52 = .ok (.aload_n 1, 1) := by decide +kernel
theorem dX0_passHour_53 : decode cX0_passHour 53 = .ok (.iload_n 2, 1) := by decide +kernel
theorem dX0_passHour_54 : decode cX0_passHour 54 = .ok (.invokevirtual 60, 3) := by decide +kernel
theorem dX0_passHour_57 : decode cX0_passHour 57 = .ok (.ifCond .eq 15, 3) := by decide +kernel
theorem dX0_passHour_60 : decode cX0_passHour 60 = .ok (.aload_n 0, 1) := by decide +kernel
theorem dX0_passHour_61 : decode cX0_passHour 61 = .ok (.invokevirtual 64, 3) := by decide +kernel
theorem dX0_passHour_64 : decode cX0_passHour 64 = .ok (.ifCond .ne 8, 3) := by decide +kernel
theorem dX0_passHour_67 : decode cX0_passHour 67 = .ok (.iload 4, 2) := by decide +kernel
theorem dX0_passHour_69 : decode cX0_passHour 69 = .ok (.ifCond .ne 16, 3) := by decide +kernel
theorem dX0_passHour_72 : decode cX0_passHour 72 = .ok (.aload_n 0, 1) := by decide +kernel
theorem dX0_passHour_73 : decode cX0_passHour 73 = .ok (.dup, 1) := by decide +kernel
theorem dX0_passHour_74 : decode cX0_passHour 74 = .ok (.getfield 40, 3) := by decide +kernel
theorem dX0_passHour_77 : decode cX0_passHour 77 = .ok (.iconst 1, 1) := by decide +kernel
theorem dX0_passHour_78 : decode cX0_passHour 78 = .ok (.iadd, 1) := by decide +kernel
theorem dX0_passHour_79 : decode cX0_passHour 79 = .ok (.putfield 40, 3) := by decide +kernel
theorem dX0_passHour_82 : decode cX0_passHour 82 = .ok (.goto 10, 3) := by decide +kernel
theorem dX0_passHour_85 : decode cX0_passHour 85 = .ok (.aload_n 0, 1) := by decide +kernel
theorem dX0_passHour_86 : decode cX0_passHour 86 = .ok (.aload_n 1, 1) := by decide +kernel
theorem dX0_passHour_87 : decode cX0_passHour 87 = .ok (.iload 4, 2) := by decide +kernel
theorem dX0_passHour_89 : decode cX0_passHour 89 = .ok (.invokevirtual 68, 3) := by decide +kernel
theorem dX0_passHour_92 : decode cX0_passHour 92 = .ok (.return_, 1) := by decide +kernel
theorem dX0_holdsAnother_0 : decode cX0_holdsAnother 0 = .ok (.aload_n 0, 1) := by decide +kernel
theorem dX0_holdsAnother_1 : decode cX0_holdsAnother 1 = .ok (.getfield 27, 3) := by decide +kernel
theorem dX0_holdsAnother_4 : decode cX0_holdsAnother 4 = .ok (.ifCond .le 18, 3) := by decide +kernel
theorem dX0_holdsAnother_7 : decode cX0_holdsAnother 7 = .ok (.aload_n 0, 1) := by decide +kernel
theorem dX0_holdsAnother_8 : decode cX0_holdsAnother 8 = .ok (.getfield 9, 3) := by decide +kernel
theorem dX0_holdsAnother_11 : decode cX0_holdsAnother 11 = .ok (.aload_n 0, 1) := by decide +kernel
theorem dX0_holdsAnother_12 : decode cX0_holdsAnother 12 = .ok (.getfield 15, 3) := by decide +kernel
theorem dX0_holdsAnother_15 : decode cX0_holdsAnother 15 = .ok (.if_icmp .eq 7, 3) := by decide +kernel
theorem dX0_holdsAnother_18 : decode cX0_holdsAnother 18 = .ok (.iconst 1, 1) := by decide +kernel
theorem dX0_holdsAnother_19 : decode cX0_holdsAnother 19 = .ok (.goto 4, 3) := by decide +kernel
theorem dX0_holdsAnother_22 : decode cX0_holdsAnother 22 = .ok (.iconst 0, 1) := by decide +kernel
theorem dX0_holdsAnother_23 : decode cX0_holdsAnother 23 = .ok (.ireturn, 1) := by decide +kernel
theorem dX0_acresAtOnce_0 : decode cX0_acresAtOnce 0 = .ok (.aload_n 0, 1) := by decide +kernel
theorem dX0_acresAtOnce_1 : decode cX0_acresAtOnce 1 = .ok (.getfield 24, 3) := by decide +kernel
theorem dX0_acresAtOnce_4 : decode cX0_acresAtOnce 4 = .ok (.aload_n 1, 1) := by decide +kernel
theorem dX0_acresAtOnce_5 : decode cX0_acresAtOnce 5 = .ok (.invokevirtual 72, 3) := by decide +kernel
theorem dX0_acresAtOnce_8 : decode cX0_acresAtOnce 8 = .ok (.invokestatic 76, 3) := by decide +kernel
theorem dX0_acresAtOnce_11 : decode cX0_acresAtOnce 11 = .ok (.istore_n 2, 1) := by decide +kernel
theorem dX0_acresAtOnce_12 : decode cX0_acresAtOnce 12 = .ok (.aload_n 1, 1) := by decide +kernel
theorem dX0_acresAtOnce_13 : decode cX0_acresAtOnce 13 = .ok (.invokevirtual 82, 3) := by decide +kernel
theorem dX0_acresAtOnce_16 : decode cX0_acresAtOnce 16 = .ok (.istore_n 3, 1) := by decide +kernel
theorem dX0_acresAtOnce_17 : decode cX0_acresAtOnce 17 = .ok (.iload_n 3, 1) := by decide +kernel
theorem dX0_acresAtOnce_18 : decode cX0_acresAtOnce 18 = .ok (.ifCond .le 20, 3) := by decide +kernel
theorem dX0_acresAtOnce_21 : decode cX0_acresAtOnce 21 = .ok (.iload_n 2, 1) := by decide +kernel
theorem dX0_acresAtOnce_22 : decode cX0_acresAtOnce 22 = .ok (.sipush 400, 3) := by decide +kernel
theorem dX0_acresAtOnce_25 : decode cX0_acresAtOnce 25 = .ok (.aload_n 0, 1) := by decide +kernel
theorem dX0_acresAtOnce_26 : decode cX0_acresAtOnce 26 = .ok (.getfield 27, 3) := by decide +kernel
theorem dX0_acresAtOnce_29 : decode cX0_acresAtOnce 29 = .ok (.isub, 1) := by decide +kernel
theorem dX0_acresAtOnce_30 : decode cX0_acresAtOnce 30 = .ok (.iload_n 3, 1) := by decide +kernel
theorem dX0_acresAtOnce_31 : decode cX0_acresAtOnce 31 = .ok (.idiv, 1) := by decide +kernel
theorem dX0_acresAtOnce_32 : decode cX0_acresAtOnce 32 = .ok (.invokestatic 76, 3) := by decide +kernel
theorem dX0_acresAtOnce_35 : decode cX0_acresAtOnce 35 = .ok (.goto 4, 3) := by decide +kernel
theorem dX0_acresAtOnce_38 : decode cX0_acresAtOnce 38 = .ok (.iload_n 2, 1) := by decide +kernel
theorem dX0_acresAtOnce_39 : decode cX0_acresAtOnce 39 = .ok (.ireturn, 1) := by decide +kernel
theorem dX0_harvest_0 : decode cX0_harvest 0 = .ok (.iload_n 2, 1) := by decide +kernel
theorem dX0_harvest_1 : decode cX0_harvest 1 = .ok (.aload_n 1, 1) := by decide +kernel
theorem dX0_harvest_2 : decode cX0_harvest 2 = .ok (.invokevirtual 82, 3) := by decide +kernel
theorem dX0_harvest_5 : decode cX0_harvest 5 = .ok (.imul, 1) := by decide +kernel
theorem dX0_harvest_6 : decode cX0_harvest 6 = .ok (.istore_n 3, 1) := by decide +kernel
theorem dX0_harvest_7 : decode cX0_harvest 7 = .ok (.aload_n 1, 1) := by decide +kernel
theorem dX0_harvest_8 : decode cX0_harvest 8 = .ok (.dup, 1) := by decide +kernel
theorem dX0_harvest_9 : decode cX0_harvest 9 = .ok (.getfield 85, 3) := by decide +kernel
theorem dX0_harvest_12 : decode cX0_harvest 12 = .ok (.iload_n 2, 1) := by decide +kernel
theorem dX0_harvest_13 : decode cX0_harvest 13 = .ok (.iadd, 1) := by decide +kernel
theorem dX0_harvest_14 : decode cX0_harvest 14 = .ok (.putfield 85, 3) := by decide +kernel
theorem dX0_harvest_17 : decode cX0_harvest 17 = .ok (.aload_n 1, 1) := by decide +kernel
theorem dX0_harvest_18 : decode cX0_harvest 18 = .ok (.dup, 1) := by decide +kernel
theorem dX0_harvest_19 : decode cX0_harvest 19 = .ok (.getfield 86, 3) := by decide +kernel
theorem dX0_harvest_22 : decode cX0_harvest 22 = .ok (.aload_n 0, 1) := by decide +kernel
theorem dX0_harvest_23 : decode cX0_harvest 23 = .ok (.iload_n 3, 1) := by decide +kernel
theorem dX0_harvest_24 : decode cX0_harvest 24 = .ok (.invokevirtual 89, 3) := by decide +kernel
theorem dX0_harvest_27 : decode cX0_harvest 27 = .ok (.iadd, 1) := by decide +kernel
theorem dX0_harvest_28 : decode cX0_harvest 28 = .ok (.putfield 86, 3) := by decide +kernel
theorem dX0_harvest_31 : decode cX0_harvest 31 = .ok (.iload_n 3, 1) := by decide +kernel
theorem dX0_harvest_32 : decode cX0_harvest 32 = .ok (.ifCond .le 50, 3) := by decide +kernel
theorem dX0_harvest_35 : decode cX0_harvest 35 = .ok (.aload_n 0, 1) := by decide +kernel
theorem dX0_harvest_36 : decode cX0_harvest 36 = .ok (.aload_n 0, 1) := by decide +kernel
theorem dX0_harvest_37 : decode cX0_harvest 37 = .ok (.getfield 27, 3) := by decide +kernel
theorem dX0_harvest_40 : decode cX0_harvest 40 = .ok (.ifCond .le 17, 3) := by decide +kernel
theorem dX0_harvest_43 : decode cX0_harvest 43 = .ok (.aload_n 0, 1) := by decide +kernel
theorem dX0_harvest_44 : decode cX0_harvest 44 = .ok (.getfield 30, 3) := by decide +kernel
theorem dX0_harvest_47 : decode cX0_harvest 47 = .ok (.aload_n 1, 1) := by decide +kernel
theorem dX0_harvest_48 : decode cX0_harvest 48 = .ok (.getfield 93, 3) := by decide +kernel
theorem dX0_harvest_51 : decode cX0_harvest 51 = .ok (.invokestatic 96, 3) := by decide +kernel
theorem dX0_harvest_54 : decode cX0_harvest 54 = .ok (.goto 7, 3) := by decide +kernel
theorem dX0_harvest_57 : decode cX0_harvest 57 = .ok (.aload_n 1, 1) := by decide +kernel
theorem dX0_harvest_58 : decode cX0_harvest 58 = .ok (.getfield 93, 3) := by decide +kernel
theorem dX0_harvest_61 : decode cX0_harvest 61 = .ok (.putfield 30, 3) := by decide +kernel
theorem dX0_harvest_64 : decode cX0_harvest 64 = .ok (.aload_n 0, 1) := by decide +kernel
theorem dX0_harvest_65 : decode cX0_harvest 65 = .ok (.aload_n 0, 1) := by decide +kernel
theorem dX0_harvest_66 : decode cX0_harvest 66 = .ok (.getfield 15, 3) := by decide +kernel
theorem dX0_harvest_69 : decode cX0_harvest 69 = .ok (.putfield 9, 3) := by decide +kernel
theorem dX0_harvest_72 : decode cX0_harvest 72 = .ok (.aload_n 0, 1) := by decide +kernel
theorem dX0_harvest_73 : decode cX0_harvest 73 = .ok (.dup, 1) := by decide +kernel
theorem dX0_harvest_74 : decode cX0_harvest 74 = .ok (.getfield 27, 3) := by decide +kernel
theorem dX0_harvest_77 : decode cX0_harvest 77 = .ok (.iload_n 3, 1) := by decide +kernel
theorem dX0_harvest_78 : decode cX0_harvest 78 = .ok (.iadd, 1) := by decide +kernel
theorem dX0_harvest_79 : decode cX0_harvest 79 = .ok (.putfield 27, 3) := by decide +kernel
theorem dX0_harvest_82 : decode cX0_harvest 82 = .ok (.aload_n 0, 1) := by decide +kernel
theorem dX0_harvest_83 : decode cX0_harvest 83 = .ok (.dup, 1) := by decide +kernel
theorem dX0_harvest_84 : decode cX0_harvest 84 = .ok (.getfield 43, 3) := by decide +kernel
theorem dX0_harvest_87 : decode cX0_harvest 87 = .ok (.iload_n 2, 1) := by decide +kernel
theorem dX0_harvest_88 : decode cX0_harvest 88 = .ok (.iadd, 1) := by decide +kernel
theorem dX0_harvest_89 : decode cX0_harvest 89 = .ok (.putfield 43, 3) := by decide +kernel
theorem dX0_harvest_92 : decode cX0_harvest 92 = .ok (.aload_n 0, 1) := by decide +kernel
theorem dX0_harvest_93 : decode cX0_harvest 93 = .ok (.dup, 1) := by decide +kernel
theorem dX0_harvest_94 : decode cX0_harvest 94 = .ok (.getfield 46, 3) := by decide +kernel
theorem dX0_harvest_97 : decode cX0_harvest 97 = .ok (.iload_n 3, 1) := by decide +kernel
theorem dX0_harvest_98 : decode cX0_harvest 98 = .ok (.iadd, 1) := by decide +kernel
theorem dX0_harvest_99 : decode cX0_harvest 99 = .ok (.putfield 46, 3) := by decide +kernel
theorem dX0_harvest_102 : decode cX0_harvest 102 = .ok (.aload_n 0, 1) := by decide +kernel
theorem dX0_harvest_103 : decode cX0_harvest 103 = .ok (.dup, 1) := by decide +kernel
theorem dX0_harvest_104 : decode cX0_harvest 104 = .ok (.getfield 33, 3) := by decide +kernel
theorem dX0_harvest_107 : decode cX0_harvest 107 = .ok (.iload_n 2, 1) := by decide +kernel
theorem dX0_harvest_108 : decode cX0_harvest 108 = .ok (.iadd, 1) := by decide +kernel
theorem dX0_harvest_109 : decode cX0_harvest 109 = .ok (.putfield 33, 3) := by decide +kernel
theorem dX0_harvest_112 : decode cX0_harvest 112 = .ok (.aload_n 0, 1) := by decide +kernel
theorem dX0_harvest_113 : decode cX0_harvest 113 = .ok (.aload_n 0, 1) := by decide +kernel
theorem dX0_harvest_114 : decode cX0_harvest 114 = .ok (.getfield 33, 3) := by decide +kernel
theorem dX0_harvest_117 : decode cX0_harvest 117 = .ok (.bipush 100, 2) := by decide +kernel
theorem dX0_harvest_119 : decode cX0_harvest 119 = .ok (.if_icmp .lt 7, 3) := by decide +kernel
theorem dX0_harvest_122 : decode cX0_harvest 122 = .ok (.iconst 1, 1) := by decide +kernel
theorem dX0_harvest_123 : decode cX0_harvest 123 = .ok (.goto 4, 3) := by decide +kernel
theorem dX0_harvest_126 : decode cX0_harvest 126 = .ok (.iconst 0, 1) := by decide +kernel
theorem dX0_harvest_127 : decode cX0_harvest 127 = .ok (.putfield 36, 3) := by decide +kernel
theorem dX0_harvest_130 : decode cX0_harvest 130 = .ok (.return_, 1) := by decide +kernel
theorem dX0_metered_0 : decode cX0_metered 0 = .ok (.iconst 3, 1) := by decide +kernel
theorem dX0_metered_1 : decode cX0_metered 1 = .ok (.aload_n 0, 1) := by decide +kernel
theorem dX0_metered_2 : decode cX0_metered 2 = .ok (.getfield 18, 3) := by decide +kernel
theorem dX0_metered_5 : decode cX0_metered 5 = .ok (.imul, 1) := by decide +kernel
theorem dX0_metered_6 : decode cX0_metered 6 = .ok (.aload_n 0, 1) := by decide +kernel
theorem dX0_metered_7 : decode cX0_metered 7 = .ok (.getfield 33, 3) := by decide +kernel
theorem dX0_metered_10 : decode cX0_metered 10 = .ok (.bipush 20, 2) := by decide +kernel
theorem dX0_metered_12 : decode cX0_metered 12 = .ok (.idiv, 1) := by decide +kernel
theorem dX0_metered_13 : decode cX0_metered 13 = .ok (.iadd, 1) := by decide +kernel
theorem dX0_metered_14 : decode cX0_metered 14 = .ok (.iconst 4, 1) := by decide +kernel
theorem dX0_metered_15 : decode cX0_metered 15 = .ok (.isub, 1) := by decide +kernel
theorem dX0_metered_16 : decode cX0_metered 16 = .ok (.istore_n 2, 1) := by decide +kernel
theorem dX0_metered_17 : decode cX0_metered 17 = .ok (.iload_n 1, 1) := by decide +kernel
theorem dX0_metered_18 : decode cX0_metered 18 = .ok (.bipush 100, 2) := by decide +kernel
theorem dX0_metered_20 : decode cX0_metered 20 = .ok (.iload_n 2, 1) := by decide +kernel
theorem dX0_metered_21 : decode cX0_metered 21 = .ok (.iadd, 1) := by decide +kernel
theorem dX0_metered_22 : decode cX0_metered 22 = .ok (.imul, 1) := by decide +kernel
theorem dX0_metered_23 : decode cX0_metered 23 = .ok (.bipush 100, 2) := by decide +kernel
theorem dX0_metered_25 : decode cX0_metered 25 = .ok (.idiv, 1) := by decide +kernel
theorem dX0_metered_26 : decode cX0_metered 26 = .ok (.ireturn, 1) := by decide +kernel
theorem dX1_init_0 : decode cX1_init 0 = .ok (.aload_n 0, 1) := by decide +kernel
theorem dX1_init_1 : decode cX1_init 1 = .ok (.invokespecial 1, 3) := by decide +kernel
theorem dX1_init_4 : decode cX1_init 4 = .ok (.aload_n 0, 1) := by decide +kernel
theorem dX1_init_5 : decode cX1_init 5 = .ok (.iload_n 1, 1) := by decide +kernel
theorem dX1_init_6 : decode cX1_init 6 = .ok (.putfield 7, 3) := by decide +kernel
theorem dX1_init_9 : decode cX1_init 9 = .ok (.aload_n 0, 1) := by decide +kernel
theorem dX1_init_10 : decode cX1_init 10 = .ok (.iload_n 2, 1) := by decide +kernel
theorem dX1_init_11 : decode cX1_init 11 = .ok (.putfield 13, 3) := by decide +kernel
theorem dX1_init_14 : decode cX1_init 14 = .ok (.aload_n 0, 1) := by decide +kernel
theorem dX1_init_15 : decode cX1_init 15 = .ok (.iload_n 3, 1) := by decide +kernel
theorem dX1_init_16 : decode cX1_init 16 = .ok (.putfield 16, 3) := by decide +kernel
theorem dX1_init_19 : decode cX1_init 19 = .ok (.aload_n 0, 1) := by decide +kernel
theorem dX1_init_20 : decode cX1_init 20 = .ok (.iload 4, 2) := by decide +kernel
theorem dX1_init_22 : decode cX1_init 22 = .ok (.putfield 19, 3) := by decide +kernel
theorem dX1_init_25 : decode cX1_init 25 = .ok (.aload_n 0, 1) := by decide +kernel
theorem dX1_init_26 : decode cX1_init 26 = .ok (.iload 5, 2) := by decide +kernel
theorem dX1_init_28 : decode cX1_init 28 = .ok (.putfield 22, 3) := by decide +kernel
theorem dX1_init_31 : decode cX1_init 31 = .ok (.aload_n 0, 1) := by decide +kernel
theorem dX1_init_32 : decode cX1_init 32 = .ok (.iload 6, 2) := by decide +kernel
theorem dX1_init_34 : decode cX1_init 34 = .ok (.putfield 25, 3) := by decide +kernel
theorem dX1_init_37 : decode cX1_init 37 = .ok (.return_, 1) := by decide +kernel
theorem dX1_copyFrom_0 : decode cX1_copyFrom 0 = .ok (.aload_n 0, 1) := by decide +kernel
theorem dX1_copyFrom_1 : decode cX1_copyFrom 1 = .ok (.aload_n 1, 1) := by decide +kernel
theorem dX1_copyFrom_2 : decode cX1_copyFrom 2 = .ok (.getfield 7, 3) := by decide +kernel
theorem dX1_copyFrom_5 : decode cX1_copyFrom 5 = .ok (.putfield 7, 3) := by decide +kernel
theorem dX1_copyFrom_8 : decode cX1_copyFrom 8 = .ok (.aload_n 0, 1) := by decide +kernel
theorem dX1_copyFrom_9 : decode cX1_copyFrom 9 = .ok (.aload_n 1, 1) := by decide +kernel
theorem dX1_copyFrom_10 : decode cX1_copyFrom 10 = .ok (.getfield 13, 3) := by decide +kernel
theorem dX1_copyFrom_13 : decode cX1_copyFrom 13 = .ok (.putfield 13, 3) := by decide +kernel
theorem dX1_copyFrom_16 : decode cX1_copyFrom 16 = .ok (.aload_n 0, 1) := by decide +kernel
theorem dX1_copyFrom_17 : decode cX1_copyFrom 17 = .ok (.aload_n 1, 1) := by decide +kernel
theorem dX1_copyFrom_18 : decode cX1_copyFrom 18 = .ok (.getfield 16, 3) := by decide +kernel
theorem dX1_copyFrom_21 : decode cX1_copyFrom 21 = .ok (.putfield 16, 3) := by decide +kernel
theorem dX1_copyFrom_24 : decode cX1_copyFrom 24 = .ok (.aload_n 0, 1) := by decide +kernel
theorem dX1_copyFrom_25 : decode cX1_copyFrom 25 = .ok (.aload_n 1, 1) := by decide +kernel
theorem dX1_copyFrom_26 : decode cX1_copyFrom 26 = .ok (.getfield 19, 3) := by decide +kernel
theorem dX1_copyFrom_29 : decode cX1_copyFrom 29 = .ok (.putfield 19, 3) := by decide +kernel
theorem dX1_copyFrom_32 : decode cX1_copyFrom 32 = .ok (.aload_n 0, 1) := by decide +kernel
theorem dX1_copyFrom_33 : decode cX1_copyFrom 33 = .ok (.aload_n 1, 1) := by decide +kernel
theorem dX1_copyFrom_34 : decode cX1_copyFrom 34 = .ok (.getfield 22, 3) := by decide +kernel
theorem dX1_copyFrom_37 : decode cX1_copyFrom 37 = .ok (.putfield 22, 3) := by decide +kernel
theorem dX1_copyFrom_40 : decode cX1_copyFrom 40 = .ok (.aload_n 0, 1) := by decide +kernel
theorem dX1_copyFrom_41 : decode cX1_copyFrom 41 = .ok (.aload_n 1, 1) := by decide +kernel
theorem dX1_copyFrom_42 : decode cX1_copyFrom 42 = .ok (.getfield 25, 3) := by decide +kernel
theorem dX1_copyFrom_45 : decode cX1_copyFrom 45 = .ok (.putfield 25, 3) := by decide +kernel
theorem dX1_copyFrom_48 : decode cX1_copyFrom 48 = .ok (.return_, 1) := by decide +kernel
theorem dX1_takes_0 : decode cX1_takes 0 = .ok (.aload_n 0, 1) := by decide +kernel
theorem dX1_takes_1 : decode cX1_takes 1 = .ok (.iload_n 2, 1) := by decide +kernel
theorem dX1_takes_2 : decode cX1_takes 2 = .ok (.invokevirtual 28, 3) := by decide +kernel
theorem dX1_takes_5 : decode cX1_takes 5 = .ok (.ifCond .eq 29, 3) := by decide +kernel
theorem dX1_takes_8 : decode cX1_takes 8 = .ok (.aload_n 0, 1) := by decide +kernel
theorem dX1_takes_9 : decode cX1_takes 9 = .ok (.getfield 25, 3) := by decide +kernel
theorem dX1_takes_12 : decode cX1_takes 12 = .ok (.aload_n 1, 1) := by decide +kernel
theorem dX1_takes_13 : decode cX1_takes 13 = .ok (.getfield 32, 3) := by decide +kernel
theorem dX1_takes_16 : decode cX1_takes 16 = .ok (.if_icmp .lt 18, 3) := by decide +kernel
theorem dX1_takes_19 : decode cX1_takes 19 = .ok (.aload_n 0, 1) := by decide +kernel
theorem dX1_takes_20 : decode cX1_takes 20 = .ok (.getfield 13, 3) := by decide +kernel
theorem dX1_takes_23 : decode cX1_takes 23 = .ok (.aload_n 1, 1) := by decide +kernel
theorem dX1_takes_24 : decode cX1_takes 24 = .ok (.getfield 37, 3) := by decide +kernel
theorem dX1_takes_27 : decode cX1_takes 27 = .ok (.if_icmp .lt 7, 3) := by decide +kernel
theorem dX1_takes_30 : decode cX1_takes 30 = .ok (.iconst 1, 1) := by decide +kernel
theorem dX1_takes_31 : decode cX1_takes 31 = .ok (.goto 4, 3) := by decide +kernel
theorem dX1_takes_34 : decode cX1_takes 34 = .ok (.iconst 0, 1) := by decide +kernel
theorem dX1_takes_35 : decode cX1_takes 35 = .ok (.ireturn, 1) := by decide +kernel
theorem dX1_isOpen_0 : decode cX1_isOpen 0 = .ok (.aload_n 0, 1) := by decide +kernel
theorem dX1_isOpen_1 : decode cX1_isOpen 1 = .ok (.getfield 16, 3) := by decide +kernel
theorem dX1_isOpen_4 : decode cX1_isOpen 4 = .ok (.aload_n 0, 1) := by decide +kernel
theorem dX1_isOpen_5 : decode cX1_isOpen 5 = .ok (.getfield 19, 3) := by decide +kernel
theorem dX1_isOpen_8 : decode cX1_isOpen 8 = .ok (.if_icmp .ge 27, 3) := by decide +kernel
theorem dX1_isOpen_11 : decode cX1_isOpen 11 = .ok (.iload_n 1, 1) := by decide +kernel
theorem dX1_isOpen_12 : decode cX1_isOpen 12 = .ok (.aload_n 0, 1) := by decide +kernel
theorem dX1_isOpen_13 : decode cX1_isOpen 13 = .ok (.getfield 16, 3) := by decide +kernel
theorem dX1_isOpen_16 : decode cX1_isOpen 16 = .ok (.if_icmp .lt 15, 3) := by decide +kernel
theorem dX1_isOpen_19 : decode cX1_isOpen 19 = .ok (.iload_n 1, 1) := by decide +kernel
theorem dX1_isOpen_20 : decode cX1_isOpen 20 = .ok (.aload_n 0, 1) := by decide +kernel
theorem dX1_isOpen_21 : decode cX1_isOpen 21 = .ok (.getfield 19, 3) := by decide +kernel
theorem dX1_isOpen_24 : decode cX1_isOpen 24 = .ok (.if_icmp .ge 7, 3) := by decide +kernel
theorem dX1_isOpen_27 : decode cX1_isOpen 27 = .ok (.iconst 1, 1) := by decide +kernel
theorem dX1_isOpen_28 : decode cX1_isOpen 28 = .ok (.goto 28, 3) := by decide +kernel
theorem dX1_isOpen_31 : decode cX1_isOpen 31 = .ok (.iconst 0, 1) := by decide +kernel
theorem dX1_isOpen_32 : decode cX1_isOpen 32 = .ok (.goto 24, 3) := by decide +kernel
theorem dX1_isOpen_35 : decode cX1_isOpen 35 = .ok (.iload_n 1, 1) := by decide +kernel
theorem dX1_isOpen_36 : decode cX1_isOpen 36 = .ok (.aload_n 0, 1) := by decide +kernel
theorem dX1_isOpen_37 : decode cX1_isOpen 37 = .ok (.getfield 16, 3) := by decide +kernel
theorem dX1_isOpen_40 : decode cX1_isOpen 40 = .ok (.if_icmp .ge 11, 3) := by decide +kernel
theorem dX1_isOpen_43 : decode cX1_isOpen 43 = .ok (.iload_n 1, 1) := by decide +kernel
theorem dX1_isOpen_44 : decode cX1_isOpen 44 = .ok (.aload_n 0, 1) := by decide +kernel
theorem dX1_isOpen_45 : decode cX1_isOpen 45 = .ok (.getfield 19, 3) := by decide +kernel
theorem dX1_isOpen_48 : decode cX1_isOpen 48 = .ok (.if_icmp .ge 7, 3) := by decide +kernel
theorem dX1_isOpen_51 : decode cX1_isOpen 51 = .ok (.iconst 1, 1) := by decide +kernel
theorem dX1_isOpen_52 : decode cX1_isOpen 52 = .ok (.goto 4, 3) := by decide +kernel
theorem dX1_isOpen_55 : decode cX1_isOpen 55 = .ok (.iconst 0, 1) := by decide +kernel
theorem dX1_isOpen_56 : decode cX1_isOpen 56 = .ok (.ireturn, 1) := by decide +kernel
theorem dX1_discount_0 : decode cX1_discount 0 = .ok (.iconst 2, 1) := by decide +kernel
theorem dX1_discount_1 : decode cX1_discount 1 = .ok (.iload_n 1, 1) := by decide +kernel
theorem dX1_discount_2 : decode cX1_discount 2 = .ok (.aload_n 0, 1) := by decide +kernel
theorem dX1_discount_3 : decode cX1_discount 3 = .ok (.getfield 22, 3) := by decide +kernel
theorem dX1_discount_6 : decode cX1_discount 6 = .ok (.isub, 1) := by decide +kernel
theorem dX1_discount_7 : decode cX1_discount 7 = .ok (.iconst 0, 1) := by decide +kernel
theorem dX1_discount_8 : decode cX1_discount 8 = .ok (.invokestatic 40, 3) := by decide +kernel
theorem dX1_discount_11 : decode cX1_discount 11 = .ok (.imul, 1) := by decide +kernel
theorem dX1_discount_12 : decode cX1_discount 12 = .ok (.ireturn, 1) := by decide +kernel
theorem dX2_init_0 : decode cX2_init 0 = .ok (.aload_n 0, 1) := by decide +kernel
theorem dX2_init_1 : decode cX2_init 1 = .ok (.invokespecial 3, 3) := by decide +kernel
theorem dX2_init_4 : decode cX2_init 4 = .ok (.aload_n 0, 1) := by decide +kernel
theorem dX2_init_5 : decode cX2_init 5 = .ok (.bipush 30, 2) := by decide +kernel
theorem dX2_init_7 : decode cX2_init 7 = .ok (.putfield 9, 3) := by decide +kernel
theorem dX2_init_10 : decode cX2_init 10 = .ok (.aload_n 0, 1) := by decide +kernel
theorem dX2_init_11 : decode cX2_init 11 = .ok (.iload_n 1, 1) := by decide +kernel
theorem dX2_init_12 : decode cX2_init 12 = .ok (.putfield 15, 3) := by decide +kernel
theorem dX2_init_15 : decode cX2_init 15 = .ok (.aload_n 0, 1) := by decide +kernel
theorem dX2_init_16 : decode cX2_init 16 = .ok (.iload_n 2, 1) := by decide +kernel
theorem dX2_init_17 : decode cX2_init 17 = .ok (.putfield 18, 3) := by decide +kernel
theorem dX2_init_20 : decode cX2_init 20 = .ok (.aload_n 0, 1) := by decide +kernel
theorem dX2_init_21 : decode cX2_init 21 = .ok (.iload_n 3, 1) := by decide +kernel
theorem dX2_init_22 : decode cX2_init 22 = .ok (.putfield 21, 3) := by decide +kernel
theorem dX2_init_25 : decode cX2_init 25 = .ok (.aload_n 0, 1) := by decide +kernel
theorem dX2_init_26 : decode cX2_init 26 = .ok (.iload 4, 2) := by decide +kernel
theorem dX2_init_28 : decode cX2_init 28 = .ok (.putfield 24, 3) := by decide +kernel
theorem dX2_init_31 : decode cX2_init 31 = .ok (.aload_n 0, 1) := by decide +kernel
theorem dX2_init_32 : decode cX2_init 32 = .ok (.iload 5, 2) := by decide +kernel
theorem dX2_init_34 : decode cX2_init 34 = .ok (.putfield 27, 3) := by decide +kernel
theorem dX2_init_37 : decode cX2_init 37 = .ok (.return_, 1) := by decide +kernel
theorem dX2_copyFrom_0 : decode cX2_copyFrom 0 = .ok (.aload_n 0, 1) := by decide +kernel
theorem dX2_copyFrom_1 : decode cX2_copyFrom 1 = .ok (.aload_n 1, 1) := by decide +kernel
theorem dX2_copyFrom_2 : decode cX2_copyFrom 2 = .ok (.getfield 15, 3) := by decide +kernel
theorem dX2_copyFrom_5 : decode cX2_copyFrom 5 = .ok (.putfield 15, 3) := by decide +kernel
theorem dX2_copyFrom_8 : decode cX2_copyFrom 8 = .ok (.aload_n 0, 1) := by decide +kernel
theorem dX2_copyFrom_9 : decode cX2_copyFrom 9 = .ok (.aload_n 1, 1) := by decide +kernel
theorem dX2_copyFrom_10 : decode cX2_copyFrom 10 = .ok (.getfield 18, 3) := by decide +kernel
theorem dX2_copyFrom_13 : decode cX2_copyFrom 13 = .ok (.putfield 18, 3) := by decide +kernel
theorem dX2_copyFrom_16 : decode cX2_copyFrom 16 = .ok (.aload_n 0, 1) := by decide +kernel
theorem dX2_copyFrom_17 : decode cX2_copyFrom 17 = .ok (.aload_n 1, 1) := by decide +kernel
theorem dX2_copyFrom_18 : decode cX2_copyFrom 18 = .ok (.getfield 21, 3) := by decide +kernel
theorem dX2_copyFrom_21 : decode cX2_copyFrom 21 = .ok (.putfield 21, 3) := by decide +kernel
theorem dX2_copyFrom_24 : decode cX2_copyFrom 24 = .ok (.aload_n 0, 1) := by decide +kernel
theorem dX2_copyFrom_25 : decode cX2_copyFrom 25 = .ok (.aload_n 1, 1) := by decide +kernel
theorem dX2_copyFrom_26 : decode cX2_copyFrom 26 = .ok (.getfield 24, 3) := by decide +kernel
theorem dX2_copyFrom_29 : decode cX2_copyFrom 29 = .ok (.putfield 24, 3) := by decide +kernel
theorem dX2_copyFrom_32 : decode cX2_copyFrom 32 = .ok (.aload_n 0, 1) := by decide +kernel
theorem dX2_copyFrom_33 : decode cX2_copyFrom 33 = .ok (.aload_n 1, 1) := by decide +kernel
theorem dX2_copyFrom_34 : decode cX2_copyFrom 34 = .ok (.getfield 27, 3) := by decide +kernel
theorem dX2_copyFrom_37 : decode cX2_copyFrom 37 = .ok (.putfield 27, 3) := by decide +kernel
theorem dX2_copyFrom_40 : decode cX2_copyFrom 40 = .ok (.aload_n 0, 1) := by decide +kernel
theorem dX2_copyFrom_41 : decode cX2_copyFrom 41 = .ok (.aload_n 1, 1) := by decide +kernel
theorem dX2_copyFrom_42 : decode cX2_copyFrom 42 = .ok (.getfield 30, 3) := by decide +kernel
theorem dX2_copyFrom_45 : decode cX2_copyFrom 45 = .ok (.putfield 30, 3) := by decide +kernel
theorem dX2_copyFrom_48 : decode cX2_copyFrom 48 = .ok (.aload_n 0, 1) := by decide +kernel
theorem dX2_copyFrom_49 : decode cX2_copyFrom 49 = .ok (.aload_n 1, 1) := by decide +kernel
theorem dX2_copyFrom_50 : decode cX2_copyFrom 50 = .ok (.getfield 33, 3) := by decide +kernel
theorem dX2_copyFrom_53 : decode cX2_copyFrom 53 = .ok (.putfield 33, 3) := by decide +kernel
theorem dX2_copyFrom_56 : decode cX2_copyFrom 56 = .ok (.aload_n 0, 1) := by decide +kernel
theorem dX2_copyFrom_57 : decode cX2_copyFrom 57 = .ok (.aload_n 1, 1) := by decide +kernel
theorem dX2_copyFrom_58 : decode cX2_copyFrom 58 = .ok (.getfield 9, 3) := by decide +kernel
theorem dX2_copyFrom_61 : decode cX2_copyFrom 61 = .ok (.putfield 9, 3) := by decide +kernel
theorem dX2_copyFrom_64 : decode cX2_copyFrom 64 = .ok (.aload_n 0, 1) := by decide +kernel
theorem dX2_copyFrom_65 : decode cX2_copyFrom 65 = .ok (.aload_n 1, 1) := by decide +kernel
theorem dX2_copyFrom_66 : decode cX2_copyFrom 66 = .ok (.getfield 36, 3) := by decide +kernel
theorem dX2_copyFrom_69 : decode cX2_copyFrom 69 = .ok (.putfield 36, 3) := by decide +kernel
theorem dX2_copyFrom_72 : decode cX2_copyFrom 72 = .ok (.aload_n 0, 1) := by decide +kernel
theorem dX2_copyFrom_73 : decode cX2_copyFrom 73 = .ok (.aload_n 1, 1) := by decide +kernel
theorem dX2_copyFrom_74 : decode cX2_copyFrom 74 = .ok (.getfield 39, 3) := by decide +kernel
theorem dX2_copyFrom_77 : decode cX2_copyFrom 77 = .ok (.putfield 39, 3) := by decide +kernel
theorem dX2_copyFrom_80 : decode cX2_copyFrom 80 = .ok (.aload_n 0, 1) := by decide +kernel
theorem dX2_copyFrom_81 : decode cX2_copyFrom 81 = .ok (.aload_n 1, 1) := by decide +kernel
theorem dX2_copyFrom_82 : decode cX2_copyFrom 82 = .ok (.getfield 42, 3) := by decide +kernel
theorem dX2_copyFrom_85 : decode cX2_copyFrom 85 = .ok (.putfield 42, 3) := by decide +kernel
theorem dX2_copyFrom_88 : decode cX2_copyFrom 88 = .ok (.aload_n 0, 1) := by decide +kernel
theorem dX2_copyFrom_89 : decode cX2_copyFrom 89 = .ok (.aload_n 1, 1) := by decide +kernel
theorem dX2_copyFrom_90 : decode cX2_copyFrom 90 = .ok (.getfield 45, 3) := by decide +kernel
theorem dX2_copyFrom_93 : decode cX2_copyFrom 93 = .ok (.putfield 45, 3) := by decide +kernel
theorem dX2_copyFrom_96 : decode cX2_copyFrom 96 = .ok (.aload_n 0, 1) := by decide +kernel
theorem dX2_copyFrom_97 : decode cX2_copyFrom 97 = .ok (.aload_n 1, 1) := by decide +kernel
theorem dX2_copyFrom_98 : decode cX2_copyFrom 98 = .ok (.getfield 48, 3) := by decide +kernel
theorem dX2_copyFrom_101 : decode cX2_copyFrom 101 = .ok (.putfield 48, 3) := by decide +kernel
theorem dX2_copyFrom_104 : decode cX2_copyFrom 104 = .ok (.return_, 1) := by decide +kernel
theorem dX2_passHour_0 : decode cX2_passHour 0 = .ok (.aload_n 0, 1) := by decide +kernel
theorem dX2_passHour_1 : decode cX2_passHour 1 = .ok (.iload_n 2, 1) := by decide +kernel
theorem dX2_passHour_2 : decode cX2_passHour 2 = .ok (.invokevirtual 51, 3) := by decide +kernel
theorem dX2_passHour_5 : decode cX2_passHour 5 = .ok (.aload_n 0, 1) := by decide +kernel
theorem dX2_passHour_6 : decode cX2_passHour 6 = .ok (.iload_n 3, 1) := by decide +kernel
theorem dX2_passHour_7 : decode cX2_passHour 7 = .ok (.iload 4, 2) := by decide +kernel
theorem dX2_passHour_9 : decode cX2_passHour 9 = .ok (.invokevirtual 55, 3) := by decide +kernel
theorem dX2_passHour_12 : decode cX2_passHour 12 = .ok (.aload_n 0, 1) := by decide +kernel
theorem dX2_passHour_13 : decode cX2_passHour 13 = .ok (.iload_n 1, 1) := by decide +kernel
theorem dX2_passHour_14 : decode cX2_passHour 14 = .ok (.iload 4, 2) := by decide +kernel
theorem dX2_passHour_16 : decode cX2_passHour 16 = .ok (.invokevirtual 59, 3) := by decide +kernel
theorem dX2_passHour_19 : decode cX2_passHour 19 = .ok (.return_, 1) := by decide +kernel
theorem dX2_ripen_0 : decode cX2_ripen 0 = .ok (.iload_n 1, 1) := by decide +kernel
theorem dX2_ripen_1 : decode cX2_ripen 1 = .ok (.bipush 30, 2) := by decide +kernel
theorem dX2_ripen_3 : decode cX2_ripen 3 = .ok (.if_icmp .lt 7, 3) := by decide +kernel
theorem dX2_ripen_6 : decode cX2_ripen 6 = .ok (.iconst 2, 1) := by decide +kernel
theorem dX2_ripen_7 : decode cX2_ripen 7 = .ok (.goto 14, 3) := by decide +kernel
theorem dX2_ripen_10 : decode cX2_ripen 10 = .ok (.iload_n 1, 1) := by decide +kernel
theorem dX2_ripen_11 : decode cX2_ripen 11 = .ok (.bipush 15, 2) := by decide +kernel
theorem dX2_ripen_13 : decode cX2_ripen 13 = .ok (.if_icmp .lt 7, 3) := by decide +kernel
theorem dX2_ripen_16 : decode cX2_ripen 16 = .ok (.iconst 1, 1) := by decide +kernel
theorem dX2_ripen_17 : decode cX2_ripen 17 = .ok (.goto 4, 3) := by decide +kernel
theorem dX2_ripen_20 : decode cX2_ripen 20 = .ok (.iconst 0, 1) := by decide +kernel
theorem dX2_ripen_21 : decode cX2_ripen 21 = .ok (.istore_n 2, 1) := by decide +kernel
theorem dX2_ripen_22 : decode cX2_ripen 22 = .ok (.aload_n 0, 1) := by decide +kernel
theorem dX2_ripen_23 : decode cX2_ripen 23 = .ok (.aload_n 0, 1) := by decide +kernel
theorem dX2_ripen_24 : decode cX2_ripen 24 = .ok (.getfield 33, 3) := by decide +kernel
theorem dX2_ripen_27 : decode cX2_ripen 27 = .ok (.iload_n 2, 1) := by decide +kernel
theorem dX2_ripen_28 : decode cX2_ripen 28 = .ok (.iadd, 1) := by decide +kernel
theorem dX2_ripen_29 : decode cX2_ripen 29 = .ok (.bipush 100, 2) := by decide +kernel
theorem dX2_ripen_31 : decode cX2_ripen 31 = .ok (.invokestatic 62, 3) := by decide +kernel
theorem dX2_ripen_34 : decode cX2_ripen 34 = .ok (.putfield 33, 3) := by decide +kernel
theorem dX2_ripen_37 : decode cX2_ripen 37 = .ok (.return_, 1) := by decide +kernel
theorem dX2_soakOrDry_0 : decode cX2_soakOrDry 0 = .ok (.iload_n 2, 1) := by decide +kernel
theorem dX2_soakOrDry_1 : decode cX2_soakOrDry 1 = .ok (.ifCond .le 21, 3) := by decide +kernel
theorem dX2_soakOrDry_4 : decode cX2_soakOrDry 4 = .ok (.aload_n 0, 1) := by decide +kernel
theorem dX2_soakOrDry_5 : decode cX2_soakOrDry 5 = .ok (.aload_n 0, 1) := by decide +kernel
theorem dX2_soakOrDry_6 : decode cX2_soakOrDry 6 = .ok (.getfield 9, 3) := by decide +kernel
theorem dX2_soakOrDry_9 : decode cX2_soakOrDry 9 = .ok (.iload_n 2, 1) := by decide +kernel
theorem dX2_soakOrDry_10 : decode cX2_soakOrDry 10 = .ok (.iadd, 1) := by decide +kernel
theorem dX2_soakOrDry_11 : decode cX2_soakOrDry 11 = .ok (.bipush 40, 2) := by decide +kernel
theorem dX2_soakOrDry_13 : decode cX2_soakOrDry 13 = .ok (.invokestatic 62, 3) := by decide +kernel
theorem dX2_soakOrDry_16 : decode cX2_soakOrDry 16 = .ok (.putfield 9, 3) := by decide +kernel
theorem dX2_soakOrDry_19 : decode cX2_soakOrDry 19 = .ok (.goto 59, 3) := by decide +kernel
theorem dX2_soakOrDry_22 : decode cX2_soakOrDry 22 = .ok (.aload_n 0, 1) := by decide +kernel
theorem dX2_soakOrDry_23 : decode cX2_soakOrDry 23 = .ok (.getfield 33, 3) := by decide +kernel
theorem dX2_soakOrDry_26 : decode cX2_soakOrDry 26 = .ok (.bipush 60, 2) := by decide +kernel
theorem dX2_soakOrDry_28 : decode cX2_soakOrDry 28 = .ok (.if_icmp .lt 50, 3) := by decide +kernel
theorem dX2_soakOrDry_31 : decode cX2_soakOrDry 31 = .ok (.aload_n 0, 1) := by decide +kernel
theorem dX2_soakOrDry_32 : decode cX2_soakOrDry 32 = .ok (.getfield 9, 3) := by decide +kernel
theorem dX2_soakOrDry_35 : decode cX2_soakOrDry 35 = .ok (.iload_n 1, 1) := by decide +kernel
theorem dX2_soakOrDry_36 : decode cX2_soakOrDry 36 = .ok (.iconst 4, 1) := by decide +kernel
theorem dX2_soakOrDry_37 : decode cX2_soakOrDry 37 = .ok (.idiv, 1) := by decide +kernel
theorem dX2_soakOrDry_38 : decode cX2_soakOrDry 38 = .ok (.if_icmp .ge 16, 3) := by decide +kernel
theorem dX2_soakOrDry_41 : decode cX2_soakOrDry 41 = .ok (.aload_n 0, 1) := by decide +kernel
theorem dX2_soakOrDry_42 : decode cX2_soakOrDry 42 = .ok (.dup, 1) := by decide +kernel
theorem dX2_soakOrDry_43 : decode cX2_soakOrDry 43 = .ok (.getfield 9, 3) := by decide +kernel
theorem dX2_soakOrDry_46 : decode cX2_soakOrDry 46 = .ok (.iconst 1, 1) := by decide +kernel
theorem dX2_soakOrDry_47 : decode cX2_soakOrDry 47 = .ok (.iadd, 1) := by decide +kernel
theorem dX2_soakOrDry_48 : decode cX2_soakOrDry 48 = .ok (.putfield 9, 3) := by decide +kernel
theorem dX2_soakOrDry_51 : decode cX2_soakOrDry 51 = .ok (.goto 27, 3) := by decide +kernel
theorem dX2_soakOrDry_54 : decode cX2_soakOrDry 54 = .ok (.aload_n 0, 1) := by decide +kernel
theorem dX2_soakOrDry_55 : decode cX2_soakOrDry 55 = .ok (.getfield 9, 3) := by decide +kernel
theorem dX2_soakOrDry_58 : decode cX2_soakOrDry 58 = .ok (.iload_n 1, 1) := by decide +kernel
theorem dX2_soakOrDry_59 : decode cX2_soakOrDry 59 = .ok (.iconst 4, 1) := by decide +kernel
theorem dX2_soakOrDry_60 : decode cX2_soakOrDry 60 = .ok (.idiv, 1) := by decide +kernel
theorem dX2_soakOrDry_61 : decode cX2_soakOrDry 61 = .ok (.if_icmp .le 17, 3) := by decide +kernel
theorem dX2_soakOrDry_64 : decode cX2_soakOrDry 64 = .ok (.aload_n 0, 1) := by decide +kernel
theorem dX2_soakOrDry_65 : decode cX2_soakOrDry 65 = .ok (.aload_n 0, 1) := by decide +kernel
theorem dX2_soakOrDry_66 : decode cX2_soakOrDry 66 = .ok (.getfield 9, 3) := by decide +kernel
theorem dX2_soakOrDry_69 : decode cX2_soakOrDry 69 = .ok (.iconst 1, 1) := by decide +kernel
theorem dX2_soakOrDry_70 : decode cX2_soakOrDry 70 = .ok (.isub, 1) := by decide +kernel
theorem dX2_soakOrDry_71 : decode cX2_soakOrDry 71 = .ok (.iconst 5, 1) := by decide +kernel
theorem dX2_soakOrDry_72 : decode cX2_soakOrDry 72 = .ok (.invokestatic 68, 3) := by decide +kernel
theorem dX2_soakOrDry_75 : decode cX2_soakOrDry 75 = .ok (.putfield 9, 3) := by decide +kernel
theorem dX2_soakOrDry_78 : decode cX2_soakOrDry 78 = .ok (.return_, 1) := by decide +kernel
theorem dX2_shatter_0 : decode cX2_shatter 0 = .ok (.aload_n 0, 1) := by decide +kernel
theorem dX2_shatter_1 : decode cX2_shatter 1 = .ok (.getfield 33, 3) := by decide +kernel
theorem dX2_shatter_4 : decode cX2_shatter 4 = .ok (.bipush 100, 2) := by decide +kernel
theorem dX2_shatter_6 : decode cX2_shatter 6 = .ok (.if_icmp .ge 4, 3) := by decide +kernel
theorem dX2_shatter_9 : decode cX2_shatter 9 = .ok (.return_, 1) := by decide +kernel
theorem dX2_shatter_10 : decode cX2_shatter 10 = .ok (.iload_n 1, 1) := by decide +kernel
theorem dX2_shatter_11 : decode cX2_shatter 11 = .ok (.bipush 12, 2) := by decide +kernel
theorem dX2_shatter_13 : decode cX2_shatter 13 = .ok (.if_icmp .lt 28, 3) := by decide +kernel
theorem dX2_shatter_16 : decode cX2_shatter 16 = .ok (.iload_n 1, 1) := by decide +kernel
theorem dX2_shatter_17 : decode cX2_shatter 17 = .ok (.bipush 17, 2) := by decide +kernel
theorem dX2_shatter_19 : decode cX2_shatter 19 = .ok (.if_icmp .gt 22, 3) := by decide +kernel
theorem dX2_shatter_22 : decode cX2_shatter 22 = .ok (.aload_n 0, 1) := by decide +kernel
theorem dX2_shatter_23 : decode cX2_shatter 23 = .ok (.getfield 9, 3) := by decide +kernel
theorem dX2_shatter_26 : decode cX2_shatter 26 = .ok (.bipush 14, 2) := by decide +kernel
theorem dX2_shatter_28 : decode cX2_shatter 28 = .ok (.if_icmp .ge 13, 3) := by decide +kernel
theorem dX2_shatter_31 : decode cX2_shatter 31 = .ok (.aload_n 0, 1) := by decide +kernel
theorem dX2_shatter_32 : decode cX2_shatter 32 = .ok (.dup, 1) := by decide +kernel
theorem dX2_shatter_33 : decode cX2_shatter 33 = .ok (.getfield 36, 3) := by decide +kernel
theorem dX2_shatter_36 : decode cX2_shatter 36 = .ok (.iconst 1, 1) := by decide +kernel
theorem dX2_shatter_37 : decode cX2_shatter 37 = .ok (.iadd, 1) := by decide +kernel
theorem dX2_shatter_38 : decode cX2_shatter 38 = .ok (.putfield 36, 3) := by decide +kernel
theorem dX2_shatter_41 : decode cX2_shatter 41 = .ok (.iload_n 2, 1) := by decide +kernel
theorem dX2_shatter_42 : decode cX2_shatter 42 = .ok (.bipush 10, 2) := by decide +kernel
theorem dX2_shatter_44 : decode cX2_shatter 44 = .ok (.if_icmp .lt 13, 3) := by decide +kernel
theorem dX2_shatter_47 : decode cX2_shatter 47 = .ok (.aload_n 0, 1) := by decide +kernel
theorem dX2_shatter_48 : decode cX2_shatter 48 = .ok (.dup, 1) := by decide +kernel
theorem dX2_shatter_49 : decode cX2_shatter 49 = .ok (.getfield 36, 3) := by decide +kernel
theorem dX2_shatter_52 : decode cX2_shatter 52 = .ok (.iconst 5, 1) := by decide +kernel
theorem dX2_shatter_53 : decode cX2_shatter 53 = .ok (.iadd, 1) := by decide +kernel
theorem dX2_shatter_54 : decode cX2_shatter 54 = .ok (.putfield 36, 3) := by decide +kernel
theorem dX2_shatter_57 : decode cX2_shatter 57 = .ok (.aload_n 0, 1) := by decide +kernel
theorem dX2_shatter_58 : decode cX2_shatter 58 = .ok (.aload_n 0, 1) := by decide +kernel
theorem dX2_shatter_59 : decode cX2_shatter 59 = .ok (.getfield 36, 3) := by decide +kernel
theorem dX2_shatter_62 : decode cX2_shatter 62 = .ok (.bipush 100, 2) := by decide +kernel
theorem dX2_shatter_64 : decode cX2_shatter 64 = .ok (.invokestatic 62, 3) := by decide +kernel
theorem dX2_shatter_67 : decode cX2_shatter 67 = .ok (.putfield 36, 3) := by decide +kernel
theorem dX2_shatter_70 : decode cX2_shatter 70 = .ok (.return_, 1) := by decide +kernel
theorem dX2_isFit_0 : decode cX2_isFit 0 = .ok (.aload_n 0, 1) := by decide +kernel
theorem dX2_isFit_1 : decode cX2_isFit 1 = .ok (.getfield 33, 3) := by decide +kernel
theorem dX2_isFit_4 : decode cX2_isFit 4 = .ok (.bipush 80, 2) := by decide +kernel
theorem dX2_isFit_6 : decode cX2_isFit 6 = .ok (.if_icmp .lt 22, 3) := by decide +kernel
theorem dX2_isFit_9 : decode cX2_isFit 9 = .ok (.aload_n 0, 1) := by decide +kernel
theorem dX2_isFit_10 : decode cX2_isFit 10 = .ok (.getfield 9, 3) := by decide +kernel
theorem dX2_isFit_13 : decode cX2_isFit 13 = .ok (.bipush 20, 2) := by decide +kernel
theorem dX2_isFit_15 : decode cX2_isFit 15 = .ok (.if_icmp .ge 13, 3) := by decide +kernel
theorem dX2_isFit_18 : decode cX2_isFit 18 = .ok (.iload_n 1, 1) := by decide +kernel
theorem dX2_isFit_19 : decode cX2_isFit 19 = .ok (.bipush 8, 2) := by decide +kernel
theorem dX2_isFit_21 : decode cX2_isFit 21 = .ok (.if_icmp .lt 7, 3) := by decide +kernel
theorem dX2_isFit_24 : decode cX2_isFit 24 = .ok (.iconst 1, 1) := by decide +kernel
theorem dX2_isFit_25 : decode cX2_isFit 25 = .ok (.goto 4, 3) := by decide +kernel
theorem dX2_isFit_28 : decode cX2_isFit 28 = .ok (.iconst 0, 1) := by decide +kernel
theorem dX2_isFit_29 : decode cX2_isFit 29 = .ok (.ireturn, 1) := by decide +kernel
theorem dX2_uncut_0 : decode cX2_uncut 0 = .ok (.aload_n 0, 1) := by decide +kernel
theorem dX2_uncut_1 : decode cX2_uncut 1 = .ok (.getfield 21, 3) := by decide +kernel
theorem dX2_uncut_4 : decode cX2_uncut 4 = .ok (.aload_n 0, 1) := by decide +kernel
theorem dX2_uncut_5 : decode cX2_uncut 5 = .ok (.getfield 30, 3) := by decide +kernel
theorem dX2_uncut_8 : decode cX2_uncut 8 = .ok (.isub, 1) := by decide +kernel
theorem dX2_uncut_9 : decode cX2_uncut 9 = .ok (.ireturn, 1) := by decide +kernel
theorem dX2_brings_0 : decode cX2_brings 0 = .ok (.aload_n 0, 1) := by decide +kernel
theorem dX2_brings_1 : decode cX2_brings 1 = .ok (.getfield 24, 3) := by decide +kernel
theorem dX2_brings_4 : decode cX2_brings 4 = .ok (.bipush 100, 2) := by decide +kernel
theorem dX2_brings_6 : decode cX2_brings 6 = .ok (.aload_n 0, 1) := by decide +kernel
theorem dX2_brings_7 : decode cX2_brings 7 = .ok (.getfield 36, 3) := by decide +kernel
theorem dX2_brings_10 : decode cX2_brings 10 = .ok (.isub, 1) := by decide +kernel
theorem dX2_brings_11 : decode cX2_brings 11 = .ok (.imul, 1) := by decide +kernel
theorem dX2_brings_12 : decode cX2_brings 12 = .ok (.bipush 100, 2) := by decide +kernel
theorem dX2_brings_14 : decode cX2_brings 14 = .ok (.idiv, 1) := by decide +kernel
theorem dX2_brings_15 : decode cX2_brings 15 = .ok (.ireturn, 1) := by decide +kernel
theorem dX2_correction_0 : decode cX2_correction 0 = .ok (.aload_n 0, 1) := by decide +kernel
theorem dX2_correction_1 : decode cX2_correction 1 = .ok (.getfield 39, 3) := by decide +kernel
theorem dX2_correction_4 : decode cX2_correction 4 = .ok (.ifCond .eq 7, 3) := by decide +kernel
theorem dX2_correction_7 : decode cX2_correction 7 = .ok (.iload_n 1, 1) := by decide +kernel
theorem dX2_correction_8 : decode cX2_correction 8 = .ok (.ifCond .le 7, 3) := by decide +kernel
theorem dX2_correction_11 : decode cX2_correction 11 = .ok (.iconst (-1), 1) := by decide +kernel
theorem dX2_correction_12 : decode cX2_correction 12 = .ok (.goto 16, 3) := by decide +kernel
theorem dX2_correction_15 : decode cX2_correction 15 = .ok (.aload_n 0, 1) := by decide +kernel
theorem dX2_correction_16 : decode cX2_correction 16 = .ok (.getfield 42, 3) := by decide +kernel
theorem dX2_correction_19 : decode cX2_correction 19 = .ok (.sipush 1000, 3) := by decide +kernel
theorem dX2_correction_22 : decode cX2_correction 22 = .ok (.imul, 1) := by decide +kernel
theorem dX2_correction_23 : decode cX2_correction 23 = .ok (.aload_n 0, 1) := by decide +kernel
theorem dX2_correction_24 : decode cX2_correction 24 = .ok (.getfield 39, 3) := by decide +kernel
theorem dX2_correction_27 : decode cX2_correction 27 = .ok (.idiv, 1) := by decide +kernel
theorem dX2_correction_28 : decode cX2_correction 28 = .ok (.ireturn, 1) := by decide +kernel
theorem dX2_credit_0 : decode cX2_credit 0 = .ok (.iload_n 2, 1) := by decide +kernel
theorem dX2_credit_1 : decode cX2_credit 1 = .ok (.aload_n 0, 1) := by decide +kernel
theorem dX2_credit_2 : decode cX2_credit 2 = .ok (.getfield 27, 3) := by decide +kernel
theorem dX2_credit_5 : decode cX2_credit 5 = .ok (.imul, 1) := by decide +kernel
theorem dX2_credit_6 : decode cX2_credit 6 = .ok (.bipush 100, 2) := by decide +kernel
theorem dX2_credit_8 : decode cX2_credit 8 = .ok (.idiv, 1) := by decide +kernel
theorem dX2_credit_9 : decode cX2_credit 9 = .ok (.istore_n 3, 1) := by decide +kernel
theorem dX2_credit_10 : decode cX2_credit 10 = .ok (.aload_n 0, 1) := by decide +kernel
theorem dX2_credit_11 : decode cX2_credit 11 = .ok (.dup, 1) := by decide +kernel
theorem dX2_credit_12 : decode cX2_credit 12 = .ok (.getfield 42, 3) := by decide +kernel
theorem dX2_credit_15 : decode cX2_credit 15 = .ok (.iload_n 1, 1) := by decide +kernel
theorem dX2_credit_16 : decode cX2_credit 16 = .ok (.iadd, 1) := by decide +kernel
theorem dX2_credit_17 : decode cX2_credit 17 = .ok (.putfield 42, 3) := by decide +kernel
theorem dX2_credit_20 : decode cX2_credit 20 = .ok (.aload_n 0, 1) := by decide +kernel
theorem dX2_credit_21 : decode cX2_credit 21 = .ok (.dup, 1) := by decide +kernel
theorem dX2_credit_22 : decode cX2_credit 22 = .ok (.getfield 48, 3) := by decide +kernel
theorem dX2_credit_25 : decode cX2_credit 25 = .ok (.iload_n 3, 1) := by decide +kernel
theorem dX2_credit_26 : decode cX2_credit 26 = .ok (.iadd, 1) := by decide +kernel
theorem dX2_credit_27 : decode cX2_credit 27 = .ok (.putfield 48, 3) := by decide +kernel
theorem dX2_credit_30 : decode cX2_credit 30 = .ok (.aload_n 0, 1) := by decide +kernel
theorem dX2_credit_31 : decode cX2_credit 31 = .ok (.dup, 1) := by decide +kernel
theorem dX2_credit_32 : decode cX2_credit 32 = .ok (.getfield 45, 3) := by decide +kernel
theorem dX2_credit_35 : decode cX2_credit 35 = .ok (.iload_n 2, 1) := by decide +kernel
theorem dX2_credit_36 : decode cX2_credit 36 = .ok (.iload_n 3, 1) := by decide +kernel
theorem dX2_credit_37 : decode cX2_credit 37 = .ok (.isub, 1) := by decide +kernel
theorem dX2_credit_38 : decode cX2_credit 38 = .ok (.iadd, 1) := by decide +kernel
theorem dX2_credit_39 : decode cX2_credit 39 = .ok (.putfield 45, 3) := by decide +kernel
theorem dX2_credit_42 : decode cX2_credit 42 = .ok (.return_, 1) := by decide +kernel
theorem dX3_init_0 : decode cX3_init 0 = .ok (.aload_n 0, 1) := by decide +kernel
theorem dX3_init_1 : decode cX3_init 1 = .ok (.invokespecial 3, 3) := by decide +kernel
theorem dX3_init_4 : decode cX3_init 4 = .ok (.aload_n 0, 1) := by decide +kernel
theorem dX3_init_5 : decode cX3_init 5 = .ok (.new 9, 3) := by decide +kernel
theorem dX3_init_8 : decode cX3_init 8 = .ok (.dup, 1) := by decide +kernel
theorem dX3_init_9 : decode cX3_init 9 = .ok (.invokespecial 11, 3) := by decide +kernel
theorem dX3_init_12 : decode cX3_init 12 = .ok (.putfield 12, 3) := by decide +kernel
theorem dX3_init_15 : decode cX3_init 15 = .ok (.aload_n 0, 1) := by decide +kernel
theorem dX3_init_16 : decode cX3_init 16 = .ok (.new 9, 3) := by decide +kernel
theorem dX3_init_19 : decode cX3_init 19 = .ok (.dup, 1) := by decide +kernel
theorem dX3_init_20 : decode cX3_init 20 = .ok (.invokespecial 11, 3) := by decide +kernel
theorem dX3_init_23 : decode cX3_init 23 = .ok (.putfield 18, 3) := by decide +kernel
theorem dX3_init_26 : decode cX3_init 26 = .ok (.aload_n 0, 1) := by decide +kernel
theorem dX3_init_27 : decode cX3_init 27 = .ok (.new 9, 3) := by decide +kernel
theorem dX3_init_30 : decode cX3_init 30 = .ok (.dup, 1) := by decide +kernel
theorem dX3_init_31 : decode cX3_init 31 = .ok (.invokespecial 11, 3) := by decide +kernel
theorem dX3_init_34 : decode cX3_init 34 = .ok (.putfield 21, 3) := by decide +kernel
theorem dX3_init_37 : decode cX3_init 37 = .ok (.aload_n 0, 1) := by decide +kernel
theorem dX3_init_38 : decode cX3_init 38 = .ok (.new 9, 3) := by decide +kernel
theorem dX3_init_41 : decode cX3_init 41 = .ok (.dup, 1) := by decide +kernel
theorem dX3_init_42 : decode cX3_init 42 = .ok (.invokespecial 11, 3) := by decide +kernel
theorem dX3_init_45 : decode cX3_init 45 = .ok (.putfield 24, 3) := by decide +kernel
theorem dX3_init_48 : decode cX3_init 48 = .ok (.aload_n 0, 1) := by decide +kernel
theorem dX3_init_49 : decode cX3_init 49 = .ok (.new 9, 3) := by decide +kernel
theorem dX3_init_52 : decode cX3_init 52 = .ok (.dup, 1) := by decide +kernel
theorem dX3_init_53 : decode cX3_init 53 = .ok (.invokespecial 11, 3) := by decide +kernel
theorem dX3_init_56 : decode cX3_init 56 = .ok (.putfield 27, 3) := by decide +kernel
theorem dX3_init_59 : decode cX3_init 59 = .ok (.aload_n 0, 1) := by decide +kernel
theorem dX3_init_60 : decode cX3_init 60 = .ok (.sipush 400, 3) := by decide +kernel
theorem dX3_init_63 : decode cX3_init 63 = .ok (.putfield 30, 3) := by decide +kernel
theorem dX3_init_66 : decode cX3_init 66 = .ok (.aload_n 0, 1) := by decide +kernel
theorem dX3_init_67 : decode cX3_init 67 = .ok (.sipush 1000, 3) := by decide +kernel
theorem dX3_init_70 : decode cX3_init 70 = .ok (.putfield 34, 3) := by decide +kernel
theorem dX3_init_73 : decode cX3_init 73 = .ok (.aload_n 0, 1) := by decide +kernel
theorem dX3_init_74 : decode cX3_init 74 = .ok (.iload_n 1, 1) := by decide +kernel
theorem dX3_init_75 : decode cX3_init 75 = .ok (.putfield 37, 3) := by decide +kernel
theorem dX3_init_78 : decode cX3_init 78 = .ok (.return_, 1) := by decide +kernel
theorem dX3_copyFrom_0 : decode cX3_copyFrom 0 = .ok (.aload_n 0, 1) := by decide +kernel
theorem dX3_copyFrom_1 : decode cX3_copyFrom 1 = .ok (.aload_n 1, 1) := by decide +kernel
theorem dX3_copyFrom_2 : decode cX3_copyFrom 2 = .ok (.getfield 41, 3) := by decide +kernel
theorem dX3_copyFrom_5 : decode cX3_copyFrom 5 = .ok (.putfield 41, 3) := by decide +kernel
theorem dX3_copyFrom_8 : decode cX3_copyFrom 8 = .ok (.aload_n 0, 1) := by decide +kernel
theorem dX3_copyFrom_9 : decode cX3_copyFrom 9 = .ok (.aload_n 1, 1) := by decide +kernel
theorem dX3_copyFrom_10 : decode cX3_copyFrom 10 = .ok (.getfield 30, 3) := by decide +kernel
theorem dX3_copyFrom_13 : decode cX3_copyFrom 13 = .ok (.putfield 30, 3) := by decide +kernel
theorem dX3_copyFrom_16 : decode cX3_copyFrom 16 = .ok (.aload_n 0, 1) := by decide +kernel
theorem dX3_copyFrom_17 : decode cX3_copyFrom 17 = .ok (.aload_n 1, 1) := by decide +kernel
theorem dX3_copyFrom_18 : decode cX3_copyFrom 18 = .ok (.getfield 34, 3) := by decide +kernel
theorem dX3_copyFrom_21 : decode cX3_copyFrom 21 = .ok (.putfield 34, 3) := by decide +kernel
theorem dX3_copyFrom_24 : decode cX3_copyFrom 24 = .ok (.aload_n 0, 1) := by decide +kernel
theorem dX3_copyFrom_25 : decode cX3_copyFrom 25 = .ok (.aload_n 1, 1) := by decide +kernel
theorem dX3_copyFrom_26 : decode cX3_copyFrom 26 = .ok (.invokevirtual 44, 3) := by decide +kernel
theorem dX3_copyFrom_29 : decode cX3_copyFrom 29 = .ok (.iconst 0, 1) := by decide +kernel
theorem dX3_copyFrom_30 : decode cX3_copyFrom 30 = .ok (.istore_n 2, 1) := by decide +kernel
theorem dX3_copyFrom_31 : decode cX3_copyFrom 31 = .ok (.iload_n 2, 1) := by decide +kernel
theorem dX3_copyFrom_32 : decode cX3_copyFrom 32 = .ok (.aload_n 1, 1) := by decide +kernel
theorem dX3_copyFrom_33 : decode cX3_copyFrom 33 = .ok (.getfield 12, 3) := by decide +kernel
theorem dX3_copyFrom_36 : decode cX3_copyFrom 36 = .ok (.invokevirtual 48, 3) := by decide +kernel
theorem dX3_copyFrom_39 : decode cX3_copyFrom 39 = .ok (.if_icmp .ge 45, 3) := by decide +kernel
theorem dX3_copyFrom_42 : decode cX3_copyFrom 42 = .ok (.iload_n 2, 1) := by decide +kernel
theorem dX3_copyFrom_43 : decode cX3_copyFrom 43 = .ok (.aload_n 0, 1) := by decide +kernel
theorem dX3_copyFrom_44 : decode cX3_copyFrom 44 = .ok (.getfield 12, 3) := by decide +kernel
theorem dX3_copyFrom_47 : decode cX3_copyFrom 47 = .ok (.invokevirtual 48, 3) := by decide +kernel
theorem dX3_copyFrom_50 : decode cX3_copyFrom 50 = .ok (.if_icmp .ge 34, 3) := by decide +kernel
theorem dX3_copyFrom_53 : decode cX3_copyFrom 53 = .ok (.aload_n 0, 1) := by decide +kernel
theorem dX3_copyFrom_54 : decode cX3_copyFrom 54 = .ok (.getfield 12, 3) := by decide +kernel
theorem dX3_copyFrom_57 : decode cX3_copyFrom 57 = .ok (.iload_n 2, 1) := by decide +kernel
theorem dX3_copyFrom_58 : decode cX3_copyFrom 58 = .ok (.invokevirtual 52, 3) := by decide +kernel
theorem dX3_copyFrom_61 : decode cX3_copyFrom 61 = .ok (.checkcast 56, 3) := by decide +kernel
theorem dX3_copyFrom_64 : decode cX3_copyFrom 64 = .ok (.aload_n 1, 1) := by decide +kernel
theorem dX3_copyFrom_65 : decode cX3_copyFrom 65 = .ok (.getfield 12, 3) := by decide +kernel
theorem dX3_copyFrom_68 : decode cX3_copyFrom 68 = .ok (.iload_n 2, 1) := by decide +kernel
theorem dX3_copyFrom_69 : decode cX3_copyFrom 69 = .ok (.invokevirtual 52, 3) := by decide +kernel
theorem dX3_copyFrom_72 : decode cX3_copyFrom 72 = .ok (.checkcast 56, 3) := by decide +kernel
theorem dX3_copyFrom_75 : decode cX3_copyFrom 75 = .ok (.invokevirtual 58, 3) := by decide +kernel
theorem dX3_copyFrom_78 : decode cX3_copyFrom 78 = .ok (.iinc 2 1, 3) := by decide +kernel
theorem dX3_copyFrom_81 : decode cX3_copyFrom 81 = .ok (.goto (-50), 3) := by decide +kernel
theorem dX3_copyFrom_84 : decode cX3_copyFrom 84 = .ok (.iconst 0, 1) := by decide +kernel
theorem dX3_copyFrom_85 : decode cX3_copyFrom 85 = .ok (.istore_n 2, 1) := by decide +kernel
theorem dX3_copyFrom_86 : decode cX3_copyFrom 86 = .ok (.iload_n 2, 1) := by decide +kernel
theorem dX3_copyFrom_87 : decode cX3_copyFrom 87 = .ok (.aload_n 1, 1) := by decide +kernel
theorem dX3_copyFrom_88 : decode cX3_copyFrom 88 = .ok (.getfield 18, 3) := by decide +kernel
theorem dX3_copyFrom_91 : decode cX3_copyFrom 91 = .ok (.invokevirtual 48, 3) := by decide +kernel
theorem dX3_copyFrom_94 : decode cX3_copyFrom 94 = .ok (.if_icmp .ge 45, 3) := by decide +kernel
theorem dX3_copyFrom_97 : decode cX3_copyFrom 97 = .ok (.iload_n 2, 1) := by decide +kernel
theorem dX3_copyFrom_98 : decode cX3_copyFrom 98 = .ok (.aload_n 0, 1) := by decide +kernel
theorem dX3_copyFrom_99 : decode cX3_copyFrom 99 = .ok (.getfield 18, 3) := by decide +kernel
theorem dX3_copyFrom_102 : decode cX3_copyFrom 102 = .ok (.invokevirtual 48, 3) := by decide +kernel
theorem dX3_copyFrom_105 : decode cX3_copyFrom 105 = .ok (.if_icmp .ge 34, 3) := by decide +kernel
theorem dX3_copyFrom_108 : decode cX3_copyFrom 108 = .ok (.aload_n 0, 1) := by decide +kernel
theorem dX3_copyFrom_109 : decode cX3_copyFrom 109 = .ok (.getfield 18, 3) := by decide +kernel
theorem dX3_copyFrom_112 : decode cX3_copyFrom 112 = .ok (.iload_n 2, 1) := by decide +kernel
theorem dX3_copyFrom_113 : decode cX3_copyFrom 113 = .ok (.invokevirtual 52, 3) := by decide +kernel
theorem dX3_copyFrom_116 : decode cX3_copyFrom 116 = .ok (.checkcast 62, 3) := by decide +kernel
theorem dX3_copyFrom_119 : decode cX3_copyFrom 119 = .ok (.aload_n 1, 1) := by decide +kernel
theorem dX3_copyFrom_120 : decode cX3_copyFrom 120 = .ok (.getfield 18, 3) := by decide +kernel
theorem dX3_copyFrom_123 : decode cX3_copyFrom 123 = .ok (.iload_n 2, 1) := by decide +kernel
theorem dX3_copyFrom_124 : decode cX3_copyFrom 124 = .ok (.invokevirtual 52, 3) := by decide +kernel
theorem dX3_copyFrom_127 : decode cX3_copyFrom 127 = .ok (.checkcast 62, 3) := by decide +kernel
theorem dX3_copyFrom_130 : decode cX3_copyFrom 130 = .ok (.invokevirtual 64, 3) := by decide +kernel
theorem dX3_copyFrom_133 : decode cX3_copyFrom 133 = .ok (.iinc 2 1, 3) := by decide +kernel
theorem dX3_copyFrom_136 : decode cX3_copyFrom 136 = .ok (.goto (-50), 3) := by decide +kernel
theorem dX3_copyFrom_139 : decode cX3_copyFrom 139 = .ok (.iconst 0, 1) := by decide +kernel
theorem dX3_copyFrom_140 : decode cX3_copyFrom 140 = .ok (.istore_n 2, 1) := by decide +kernel
theorem dX3_copyFrom_141 : decode cX3_copyFrom 141 = .ok (.iload_n 2, 1) := by decide +kernel
theorem dX3_copyFrom_142 : decode cX3_copyFrom 142 = .ok (.aload_n 1, 1) := by decide +kernel
theorem dX3_copyFrom_143 : decode cX3_copyFrom 143 = .ok (.getfield 21, 3) := by decide +kernel
theorem dX3_copyFrom_146 : decode cX3_copyFrom 146 = .ok (.invokevirtual 48, 3) := by decide +kernel
theorem dX3_copyFrom_149 : decode cX3_copyFrom 149 = .ok (.if_icmp .ge 45, 3) := by decide +kernel
theorem dX3_copyFrom_152 : decode cX3_copyFrom 152 = .ok (.iload_n 2, 1) := by decide +kernel
theorem dX3_copyFrom_153 : decode cX3_copyFrom 153 = .ok (.aload_n 0, 1) := by decide +kernel
theorem dX3_copyFrom_154 : decode cX3_copyFrom 154 = .ok (.getfield 21, 3) := by decide +kernel
theorem dX3_copyFrom_157 : decode cX3_copyFrom 157 = .ok (.invokevirtual 48, 3) := by decide +kernel
theorem dX3_copyFrom_160 : decode cX3_copyFrom 160 = .ok (.if_icmp .ge 34, 3) := by decide +kernel
theorem dX3_copyFrom_163 : decode cX3_copyFrom 163 = .ok (.aload_n 0, 1) := by decide +kernel
theorem dX3_copyFrom_164 : decode cX3_copyFrom 164 = .ok (.getfield 21, 3) := by decide +kernel
theorem dX3_copyFrom_167 : decode cX3_copyFrom 167 = .ok (.iload_n 2, 1) := by decide +kernel
theorem dX3_copyFrom_168 : decode cX3_copyFrom 168 = .ok (.invokevirtual 52, 3) := by decide +kernel
theorem dX3_copyFrom_171 : decode cX3_copyFrom 171 = .ok (.checkcast 67, 3) := by decide +kernel
theorem dX3_copyFrom_174 : decode cX3_copyFrom 174 = .ok (.aload_n 1, 1) := by decide +kernel
theorem dX3_copyFrom_175 : decode cX3_copyFrom 175 = .ok (.getfield 21, 3) := by decide +kernel
theorem dX3_copyFrom_178 : decode cX3_copyFrom 178 = .ok (.iload_n 2, 1) := by decide +kernel
theorem dX3_copyFrom_179 : decode cX3_copyFrom 179 = .ok (.invokevirtual 52, 3) := by decide +kernel
theorem dX3_copyFrom_182 : decode cX3_copyFrom 182 = .ok (.checkcast 67, 3) := by decide +kernel
theorem dX3_copyFrom_185 : decode cX3_copyFrom 185 = .ok (.invokevirtual 69, 3) := by decide +kernel
theorem dX3_copyFrom_188 : decode cX3_copyFrom 188 = .ok (.iinc 2 1, 3) := by decide +kernel
theorem dX3_copyFrom_191 : decode cX3_copyFrom 191 = .ok (.goto (-50), 3) := by decide +kernel
theorem dX3_copyFrom_194 : decode cX3_copyFrom 194 = .ok (.iconst 0, 1) := by decide +kernel
theorem dX3_copyFrom_195 : decode cX3_copyFrom 195 = .ok (.istore_n 2, 1) := by decide +kernel
theorem dX3_copyFrom_196 : decode cX3_copyFrom 196 = .ok (.iload_n 2, 1) := by decide +kernel
theorem dX3_copyFrom_197 : decode cX3_copyFrom 197 = .ok (.aload_n 1, 1) := by decide +kernel
theorem dX3_copyFrom_198 : decode cX3_copyFrom 198 = .ok (.getfield 24, 3) := by decide +kernel
theorem dX3_copyFrom_201 : decode cX3_copyFrom 201 = .ok (.invokevirtual 48, 3) := by decide +kernel
theorem dX3_copyFrom_204 : decode cX3_copyFrom 204 = .ok (.if_icmp .ge 45, 3) := by decide +kernel
theorem dX3_copyFrom_207 : decode cX3_copyFrom 207 = .ok (.iload_n 2, 1) := by decide +kernel
theorem dX3_copyFrom_208 : decode cX3_copyFrom 208 = .ok (.aload_n 0, 1) := by decide +kernel
theorem dX3_copyFrom_209 : decode cX3_copyFrom 209 = .ok (.getfield 24, 3) := by decide +kernel
theorem dX3_copyFrom_212 : decode cX3_copyFrom 212 = .ok (.invokevirtual 48, 3) := by decide +kernel
theorem dX3_copyFrom_215 : decode cX3_copyFrom 215 = .ok (.if_icmp .ge 34, 3) := by decide +kernel
theorem dX3_copyFrom_218 : decode cX3_copyFrom 218 = .ok (.aload_n 0, 1) := by decide +kernel
theorem dX3_copyFrom_219 : decode cX3_copyFrom 219 = .ok (.getfield 24, 3) := by decide +kernel
theorem dX3_copyFrom_222 : decode cX3_copyFrom 222 = .ok (.iload_n 2, 1) := by decide +kernel
theorem dX3_copyFrom_223 : decode cX3_copyFrom 223 = .ok (.invokevirtual 52, 3) := by decide +kernel
theorem dX3_copyFrom_226 : decode cX3_copyFrom 226 = .ok (.checkcast 72, 3) := by decide +kernel
theorem dX3_copyFrom_229 : decode cX3_copyFrom 229 = .ok (.aload_n 1, 1) := by decide +kernel
theorem dX3_copyFrom_230 : decode cX3_copyFrom 230 = .ok (.getfield 24, 3) := by decide +kernel
theorem dX3_copyFrom_233 : decode cX3_copyFrom 233 = .ok (.iload_n 2, 1) := by decide +kernel
theorem dX3_copyFrom_234 : decode cX3_copyFrom 234 = .ok (.invokevirtual 52, 3) := by decide +kernel
theorem dX3_copyFrom_237 : decode cX3_copyFrom 237 = .ok (.checkcast 72, 3) := by decide +kernel
theorem dX3_copyFrom_240 : decode cX3_copyFrom 240 = .ok (.invokevirtual 74, 3) := by decide +kernel
theorem dX3_copyFrom_243 : decode cX3_copyFrom 243 = .ok (.iinc 2 1, 3) := by decide +kernel
theorem dX3_copyFrom_246 : decode cX3_copyFrom 246 = .ok (.goto (-50), 3) := by decide +kernel
theorem dX3_copyFrom_249 : decode cX3_copyFrom 249 = .ok (.return_, 1) := by decide +kernel
theorem dX3_addRowsAs_0 : decode cX3_addRowsAs 0 = .ok (.aload_n 0, 1) := by decide +kernel
theorem dX3_addRowsAs_1 : decode cX3_addRowsAs 1 = .ok (.getfield 12, 3) := by decide +kernel
theorem dX3_addRowsAs_4 : decode cX3_addRowsAs 4 = .ok (.invokevirtual 48, 3) := by decide +kernel
theorem dX3_addRowsAs_7 : decode cX3_addRowsAs 7 = .ok (.istore_n 2, 1) := by decide +kernel
theorem dX3_addRowsAs_8 : decode cX3_addRowsAs 8 = .ok (.iload_n 2, 1) := by decide +kernel
theorem dX3_addRowsAs_9 : decode cX3_addRowsAs 9 = .ok (.aload_n 1, 1) := by decide +kernel
theorem dX3_addRowsAs_10 : decode cX3_addRowsAs 10 = .ok (.getfield 12, 3) := by decide +kernel
theorem dX3_addRowsAs_13 : decode cX3_addRowsAs 13 = .ok (.invokevirtual 48, 3) := by decide +kernel
theorem dX3_addRowsAs_16 : decode cX3_addRowsAs 16 = .ok (.if_icmp .ge 29, 3) := by decide +kernel
theorem dX3_addRowsAs_19 : decode cX3_addRowsAs 19 = .ok (.aload_n 0, 1) := by decide +kernel
theorem dX3_addRowsAs_20 : decode cX3_addRowsAs 20 = .ok (.getfield 12, 3) := by decide +kernel
theorem dX3_addRowsAs_23 : decode cX3_addRowsAs 23 = .ok (.new 56, 3) := by decide +kernel
theorem dX3_addRowsAs_26 : decode cX3_addRowsAs 26 = .ok (.dup, 1) := by decide +kernel
theorem dX3_addRowsAs_27 : decode cX3_addRowsAs 27 = .ok (.iconst 0, 1) := by decide +kernel
theorem dX3_addRowsAs_28 : decode cX3_addRowsAs 28 = .ok (.iconst 0, 1) := by decide +kernel
theorem dX3_addRowsAs_29 : decode cX3_addRowsAs 29 = .ok (.iconst 0, 1) := by decide +kernel
theorem dX3_addRowsAs_30 : decode cX3_addRowsAs 30 = .ok (.iconst 0, 1) := by decide +kernel
theorem dX3_addRowsAs_31 : decode cX3_addRowsAs 31 = .ok (.iconst 0, 1) := by decide +kernel
theorem dX3_addRowsAs_32 : decode cX3_addRowsAs 32 = .ok (.invokespecial 77, 3) := by decide +kernel
theorem dX3_addRowsAs_35 : decode cX3_addRowsAs 35 = .ok (.invokevirtual 80, 3) := by decide +kernel
theorem dX3_addRowsAs_38 : decode cX3_addRowsAs 38 = .ok (.pop, 1) := by decide +kernel
theorem dX3_addRowsAs_39 : decode cX3_addRowsAs 39 = .ok (.iinc 2 1, 3) := by decide +kernel
theorem dX3_addRowsAs_42 : decode cX3_addRowsAs 42 = .ok (.goto (-34), 3) := by decide +kernel
theorem dX3_addRowsAs_45 : decode cX3_addRowsAs 45 = .ok (.aload_n 0, 1) := by decide +kernel
theorem dX3_addRowsAs_46 : decode cX3_addRowsAs 46 = .ok (.getfield 18, 3) := by decide +kernel
theorem dX3_addRowsAs_49 : decode cX3_addRowsAs 49 = .ok (.invokevirtual 48, 3) := by decide +kernel
theorem dX3_addRowsAs_52 : decode cX3_addRowsAs 52 = .ok (.istore_n 2, 1) := by decide +kernel
theorem dX3_addRowsAs_53 : decode cX3_addRowsAs 53 = .ok (.iload_n 2, 1) := by decide +kernel
theorem dX3_addRowsAs_54 : decode cX3_addRowsAs 54 = .ok (.aload_n 1, 1) := by decide +kernel
theorem dX3_addRowsAs_55 : decode cX3_addRowsAs 55 = .ok (.getfield 18, 3) := by decide +kernel
theorem dX3_addRowsAs_58 : decode cX3_addRowsAs 58 = .ok (.invokevirtual 48, 3) := by decide +kernel
theorem dX3_addRowsAs_61 : decode cX3_addRowsAs 61 = .ok (.if_icmp .ge 27, 3) := by decide +kernel
theorem dX3_addRowsAs_64 : decode cX3_addRowsAs 64 = .ok (.aload_n 0, 1) := by decide +kernel
theorem dX3_addRowsAs_65 : decode cX3_addRowsAs 65 = .ok (.getfield 18, 3) := by decide +kernel
theorem dX3_addRowsAs_68 : decode cX3_addRowsAs 68 = .ok (.new 62, 3) := by decide +kernel
theorem dX3_addRowsAs_71 : decode cX3_addRowsAs 71 = .ok (.dup, 1) := by decide +kernel
theorem dX3_addRowsAs_72 : decode cX3_addRowsAs 72 = .ok (.iconst 0, 1) := by decide +kernel
theorem dX3_addRowsAs_73 : decode cX3_addRowsAs 73 = .ok (.iconst 0, 1) := by decide +kernel
theorem dX3_addRowsAs_74 : decode cX3_addRowsAs 74 = .ok (.iconst 0, 1) := by decide +kernel
theorem dX3_addRowsAs_75 : decode cX3_addRowsAs 75 = .ok (.invokespecial 84, 3) := by decide +kernel
theorem dX3_addRowsAs_78 : decode cX3_addRowsAs 78 = .ok (.invokevirtual 80, 3) := by decide +kernel
theorem dX3_addRowsAs_81 : decode cX3_addRowsAs 81 = .ok (.pop, 1) := by decide +kernel
theorem dX3_addRowsAs_82 : decode cX3_addRowsAs 82 = .ok (.iinc 2 1, 3) := by decide +kernel
theorem dX3_addRowsAs_85 : decode cX3_addRowsAs 85 = .ok (.goto (-32), 3) := by decide +kernel
theorem dX3_addRowsAs_88 : decode cX3_addRowsAs 88 = .ok (.aload_n 0, 1) := by decide +kernel
theorem dX3_addRowsAs_89 : decode cX3_addRowsAs 89 = .ok (.getfield 21, 3) := by decide +kernel
theorem dX3_addRowsAs_92 : decode cX3_addRowsAs 92 = .ok (.invokevirtual 48, 3) := by decide +kernel
theorem dX3_addRowsAs_95 : decode cX3_addRowsAs 95 = .ok (.istore_n 2, 1) := by decide +kernel
theorem dX3_addRowsAs_96 : decode cX3_addRowsAs 96 = .ok (.iload_n 2, 1) := by decide +kernel
theorem dX3_addRowsAs_97 : decode cX3_addRowsAs 97 = .ok (.aload_n 1, 1) := by decide +kernel
theorem dX3_addRowsAs_98 : decode cX3_addRowsAs 98 = .ok (.getfield 21, 3) := by decide +kernel
theorem dX3_addRowsAs_101 : decode cX3_addRowsAs 101 = .ok (.invokevirtual 48, 3) := by decide +kernel
theorem dX3_addRowsAs_104 : decode cX3_addRowsAs 104 = .ok (.if_icmp .ge 25, 3) := by decide +kernel
theorem dX3_addRowsAs_107 : decode cX3_addRowsAs 107 = .ok (.aload_n 0, 1) := by decide +kernel
theorem dX3_addRowsAs_108 : decode cX3_addRowsAs 108 = .ok (.getfield 21, 3) := by decide +kernel
theorem dX3_addRowsAs_111 : decode cX3_addRowsAs 111 = .ok (.new 67, 3) := by decide +kernel
theorem dX3_addRowsAs_114 : decode cX3_addRowsAs 114 = .ok (.dup, 1) := by decide +kernel
theorem dX3_addRowsAs_115 : decode cX3_addRowsAs 115 = .ok (.iconst 0, 1) := by decide +kernel
theorem dX3_addRowsAs_116 : decode cX3_addRowsAs 116 = .ok (.invokespecial 87, 3) := by decide +kernel
theorem dX3_addRowsAs_119 : decode cX3_addRowsAs 119 = .ok (.invokevirtual 80, 3) := by decide +kernel
theorem dX3_addRowsAs_122 : decode cX3_addRowsAs 122 = .ok (.pop, 1) := by decide +kernel
theorem dX3_addRowsAs_123 : decode cX3_addRowsAs 123 = .ok (.iinc 2 1, 3) := by decide +kernel
theorem dX3_addRowsAs_126 : decode cX3_addRowsAs 126 = .ok (.goto (-30), 3) := by decide +kernel
theorem dX3_addRowsAs_129 : decode cX3_addRowsAs 129 = .ok (.aload_n 0, 1) := by decide +kernel
theorem dX3_addRowsAs_130 : decode cX3_addRowsAs 130 = .ok (.getfield 24, 3) := by decide +kernel
theorem dX3_addRowsAs_133 : decode cX3_addRowsAs 133 = .ok (.invokevirtual 48, 3) := by decide +kernel
theorem dX3_addRowsAs_136 : decode cX3_addRowsAs 136 = .ok (.istore_n 2, 1) := by decide +kernel
theorem dX3_addRowsAs_137 : decode cX3_addRowsAs 137 = .ok (.iload_n 2, 1) := by decide +kernel
theorem dX3_addRowsAs_138 : decode cX3_addRowsAs 138 = .ok (.aload_n 1, 1) := by decide +kernel
theorem dX3_addRowsAs_139 : decode cX3_addRowsAs 139 = .ok (.getfield 24, 3) := by decide +kernel
theorem dX3_addRowsAs_142 : decode cX3_addRowsAs 142 = .ok (.invokevirtual 48, 3) := by decide +kernel
theorem dX3_addRowsAs_145 : decode cX3_addRowsAs 145 = .ok (.if_icmp .ge 30, 3) := by decide +kernel
theorem dX3_addRowsAs_148 : decode cX3_addRowsAs 148 = .ok (.aload_n 0, 1) := by decide +kernel
theorem dX3_addRowsAs_149 : decode cX3_addRowsAs 149 = .ok (.getfield 24, 3) := by decide +kernel
theorem dX3_addRowsAs_152 : decode cX3_addRowsAs 152 = .ok (.new 72, 3) := by decide +kernel
theorem dX3_addRowsAs_155 : decode cX3_addRowsAs 155 = .ok (.dup, 1) := by decide +kernel
theorem dX3_addRowsAs_156 : decode cX3_addRowsAs 156 = .ok (.iconst 0, 1) := by decide +kernel
theorem dX3_addRowsAs_157 : decode cX3_addRowsAs 157 = .ok (.iconst 0, 1) := by decide +kernel
theorem dX3_addRowsAs_158 : decode cX3_addRowsAs 158 = .ok (.iconst 0, 1) := by decide +kernel
theorem dX3_addRowsAs_159 : decode cX3_addRowsAs 159 = .ok (.iconst 0, 1) := by decide +kernel
theorem dX3_addRowsAs_160 : decode cX3_addRowsAs 160 = .ok (.iconst 0, 1) := by decide +kernel
theorem dX3_addRowsAs_161 : decode cX3_addRowsAs 161 = .ok (.iconst 0, 1) := by decide +kernel
theorem dX3_addRowsAs_162 : decode cX3_addRowsAs 162 = .ok (.invokespecial 90, 3) := by decide +kernel
theorem dX3_addRowsAs_165 : decode cX3_addRowsAs 165 = .ok (.invokevirtual 80, 3) := by decide +kernel
theorem dX3_addRowsAs_168 : decode cX3_addRowsAs 168 = .ok (.pop, 1) := by decide +kernel
theorem dX3_addRowsAs_169 : decode cX3_addRowsAs 169 = .ok (.iinc 2 1, 3) := by decide +kernel
theorem dX3_addRowsAs_172 : decode cX3_addRowsAs 172 = .ok (.goto (-35), 3) := by decide +kernel
theorem dX3_addRowsAs_175 : decode cX3_addRowsAs 175 = .ok (.return_, 1) := by decide +kernel
theorem dX3_fieldAt_0 : decode cX3_fieldAt 0 = .ok (.iload_n 1, 1) := by decide +kernel
theorem dX3_fieldAt_1 : decode cX3_fieldAt 1 = .ok (.ifCond .lt 28, 3) := by decide +kernel
theorem dX3_fieldAt_4 : decode cX3_fieldAt 4 = .ok (.iload_n 1, 1) := by decide +kernel
theorem dX3_fieldAt_5 : decode cX3_fieldAt 5 = .ok (.aload_n 0, 1) := by decide +kernel
theorem dX3_fieldAt_6 : decode cX3_fieldAt 6 = .ok (.getfield 12, 3) := by decide +kernel
theorem dX3_fieldAt_9 : decode cX3_fieldAt 9 = .ok (.invokevirtual 48, 3) := by decide +kernel
theorem dX3_fieldAt_12 : decode cX3_fieldAt 12 = .ok (.if_icmp .ge 17, 3) := by decide +kernel
theorem dX3_fieldAt_15 : decode cX3_fieldAt 15 = .ok (.aload_n 0, 1) := by decide +kernel
theorem dX3_fieldAt_16 : decode cX3_fieldAt 16 = .ok (.getfield 12, 3) := by decide +kernel
theorem dX3_fieldAt_19 : decode cX3_fieldAt 19 = .ok (.iload_n 1, 1) := by decide +kernel
theorem dX3_fieldAt_20 : decode cX3_fieldAt 20 = .ok (.invokevirtual 52, 3) := by decide +kernel
theorem dX3_fieldAt_23 : decode cX3_fieldAt 23 = .ok (.checkcast 56, 3) := by decide +kernel
theorem dX3_fieldAt_26 : decode cX3_fieldAt 26 = .ok (.goto 4, 3) := by decide +kernel
theorem dX3_fieldAt_29 : decode cX3_fieldAt 29 = .ok (.aconst_null, 1) := by decide +kernel
theorem dX3_fieldAt_30 : decode cX3_fieldAt 30 = .ok (.areturn, 1) := by decide +kernel
theorem dX3_combineAt_0 : decode cX3_combineAt 0 = .ok (.iload_n 1, 1) := by decide +kernel
theorem dX3_combineAt_1 : decode cX3_combineAt 1 = .ok (.ifCond .lt 28, 3) := by decide +kernel
theorem dX3_combineAt_4 : decode cX3_combineAt 4 = .ok (.iload_n 1, 1) := by decide +kernel
theorem dX3_combineAt_5 : decode cX3_combineAt 5 = .ok (.aload_n 0, 1) := by decide +kernel
theorem dX3_combineAt_6 : decode cX3_combineAt 6 = .ok (.getfield 18, 3) := by decide +kernel
theorem dX3_combineAt_9 : decode cX3_combineAt 9 = .ok (.invokevirtual 48, 3) := by decide +kernel
theorem dX3_combineAt_12 : decode cX3_combineAt 12 = .ok (.if_icmp .ge 17, 3) := by decide +kernel
theorem dX3_combineAt_15 : decode cX3_combineAt 15 = .ok (.aload_n 0, 1) := by decide +kernel
theorem dX3_combineAt_16 : decode cX3_combineAt 16 = .ok (.getfield 18, 3) := by decide +kernel
theorem dX3_combineAt_19 : decode cX3_combineAt 19 = .ok (.iload_n 1, 1) := by decide +kernel
theorem dX3_combineAt_20 : decode cX3_combineAt 20 = .ok (.invokevirtual 52, 3) := by decide +kernel
theorem dX3_combineAt_23 : decode cX3_combineAt 23 = .ok (.checkcast 62, 3) := by decide +kernel
theorem dX3_combineAt_26 : decode cX3_combineAt 26 = .ok (.goto 4, 3) := by decide +kernel
theorem dX3_combineAt_29 : decode cX3_combineAt 29 = .ok (.aconst_null, 1) := by decide +kernel
theorem dX3_combineAt_30 : decode cX3_combineAt 30 = .ok (.areturn, 1) := by decide +kernel
theorem dX3_truckAt_0 : decode cX3_truckAt 0 = .ok (.iload_n 1, 1) := by decide +kernel
theorem dX3_truckAt_1 : decode cX3_truckAt 1 = .ok (.ifCond .lt 28, 3) := by decide +kernel
theorem dX3_truckAt_4 : decode cX3_truckAt 4 = .ok (.iload_n 1, 1) := by decide +kernel
theorem dX3_truckAt_5 : decode cX3_truckAt 5 = .ok (.aload_n 0, 1) := by decide +kernel
theorem dX3_truckAt_6 : decode cX3_truckAt 6 = .ok (.getfield 21, 3) := by decide +kernel
theorem dX3_truckAt_9 : decode cX3_truckAt 9 = .ok (.invokevirtual 48, 3) := by decide +kernel
theorem dX3_truckAt_12 : decode cX3_truckAt 12 = .ok (.if_icmp .ge 17, 3) := by decide +kernel
theorem dX3_truckAt_15 : decode cX3_truckAt 15 = .ok (.aload_n 0, 1) := by decide +kernel
theorem dX3_truckAt_16 : decode cX3_truckAt 16 = .ok (.getfield 21, 3) := by decide +kernel
theorem dX3_truckAt_19 : decode cX3_truckAt 19 = .ok (.iload_n 1, 1) := by decide +kernel
theorem dX3_truckAt_20 : decode cX3_truckAt 20 = .ok (.invokevirtual 52, 3) := by decide +kernel
theorem dX3_truckAt_23 : decode cX3_truckAt 23 = .ok (.checkcast 67, 3) := by decide +kernel
theorem dX3_truckAt_26 : decode cX3_truckAt 26 = .ok (.goto 4, 3) := by decide +kernel
theorem dX3_truckAt_29 : decode cX3_truckAt 29 = .ok (.aconst_null, 1) := by decide +kernel
theorem dX3_truckAt_30 : decode cX3_truckAt 30 = .ok (.areturn, 1) := by decide +kernel
theorem dX3_elevatorAt_0 : decode cX3_elevatorAt 0 = .ok (.iload_n 1, 1) := by decide +kernel
theorem dX3_elevatorAt_1 : decode cX3_elevatorAt 1 = .ok (.ifCond .lt 28, 3) := by decide +kernel
theorem dX3_elevatorAt_4 : decode cX3_elevatorAt 4 = .ok (.iload_n 1, 1) := by decide +kernel
theorem dX3_elevatorAt_5 : decode cX3_elevatorAt 5 = .ok (.aload_n 0, 1) := by decide +kernel
theorem dX3_elevatorAt_6 : decode cX3_elevatorAt 6 = .ok (.getfield 24, 3) := by decide +kernel
theorem dX3_elevatorAt_9 : decode cX3_elevatorAt 9 = .ok (.invokevirtual 48, 3) := by decide +kernel
theorem dX3_elevatorAt_12 : decode cX3_elevatorAt 12 = .ok (.if_icmp .ge 17, 3) := by decide +kernel
theorem dX3_elevatorAt_15 : decode cX3_elevatorAt 15 = .ok (.aload_n 0, 1) := by decide +kernel
theorem dX3_elevatorAt_16 : decode cX3_elevatorAt 16 = .ok (.getfield 24, 3) := by decide +kernel
theorem dX3_elevatorAt_19 : decode cX3_elevatorAt 19 = .ok (.iload_n 1, 1) := by decide +kernel
theorem dX3_elevatorAt_20 : decode cX3_elevatorAt 20 = .ok (.invokevirtual 52, 3) := by decide +kernel
theorem dX3_elevatorAt_23 : decode cX3_elevatorAt 23 = .ok (.checkcast 72, 3) := by decide +kernel
theorem dX3_elevatorAt_26 : decode cX3_elevatorAt 26 = .ok (.goto 4, 3) := by decide +kernel
theorem dX3_elevatorAt_29 : decode cX3_elevatorAt 29 = .ok (.aconst_null, 1) := by decide +kernel
theorem dX3_elevatorAt_30 : decode cX3_elevatorAt 30 = .ok (.areturn, 1) := by decide +kernel
theorem dX3_ticketAt_0 : decode cX3_ticketAt 0 = .ok (.iload_n 1, 1) := by decide +kernel
theorem dX3_ticketAt_1 : decode cX3_ticketAt 1 = .ok (.ifCond .lt 28, 3) := by decide +kernel
theorem dX3_ticketAt_4 : decode cX3_ticketAt 4 = .ok (.iload_n 1, 1) := by decide +kernel
theorem dX3_ticketAt_5 : decode cX3_ticketAt 5 = .ok (.aload_n 0, 1) := by decide +kernel
theorem dX3_ticketAt_6 : decode cX3_ticketAt 6 = .ok (.getfield 27, 3) := by decide +kernel
theorem dX3_ticketAt_9 : decode cX3_ticketAt 9 = .ok (.invokevirtual 48, 3) := by decide +kernel
theorem dX3_ticketAt_12 : decode cX3_ticketAt 12 = .ok (.if_icmp .ge 17, 3) := by decide +kernel
theorem dX3_ticketAt_15 : decode cX3_ticketAt 15 = .ok (.aload_n 0, 1) := by decide +kernel
theorem dX3_ticketAt_16 : decode cX3_ticketAt 16 = .ok (.getfield 27, 3) := by decide +kernel
theorem dX3_ticketAt_19 : decode cX3_ticketAt 19 = .ok (.iload_n 1, 1) := by decide +kernel
theorem dX3_ticketAt_20 : decode cX3_ticketAt 20 = .ok (.invokevirtual 52, 3) := by decide +kernel
theorem dX3_ticketAt_23 : decode cX3_ticketAt 23 = .ok (.checkcast 93, 3) := by decide +kernel
theorem dX3_ticketAt_26 : decode cX3_ticketAt 26 = .ok (.goto 4, 3) := by decide +kernel
theorem dX3_ticketAt_29 : decode cX3_ticketAt 29 = .ok (.aconst_null, 1) := by decide +kernel
theorem dX3_ticketAt_30 : decode cX3_ticketAt 30 = .ok (.areturn, 1) := by decide +kernel
theorem dX3_clock_0 : decode cX3_clock 0 = .ok (.aload_n 0, 1) := by decide +kernel
theorem dX3_clock_1 : decode cX3_clock 1 = .ok (.getfield 41, 3) := by decide +kernel
theorem dX3_clock_4 : decode cX3_clock 4 = .ok (.bipush 24, 2) := by decide +kernel
theorem dX3_clock_6 : decode cX3_clock 6 = .ok (.irem, 1) := by decide +kernel
theorem dX3_clock_7 : decode cX3_clock 7 = .ok (.ireturn, 1) := by decide +kernel
theorem dX3_passHour_0 : decode cX3_passHour 0 = .ok (.aload_n 0, 1) := by decide +kernel
theorem dX3_passHour_1 : decode cX3_passHour 1 = .ok (.dup, 1) := by decide +kernel
theorem dX3_passHour_2 : decode cX3_passHour 2 = .ok (.getfield 41, 3) := by decide +kernel
theorem dX3_passHour_5 : decode cX3_passHour 5 = .ok (.iconst 1, 1) := by decide +kernel
theorem dX3_passHour_6 : decode cX3_passHour 6 = .ok (.iadd, 1) := by decide +kernel
theorem dX3_passHour_7 : decode cX3_passHour 7 = .ok (.putfield 41, 3) := by decide +kernel
theorem dX3_passHour_10 : decode cX3_passHour 10 = .ok (.iconst 0, 1) := by decide +kernel
theorem dX3_passHour_11 : decode cX3_passHour 11 = .ok (.istore 4, 2) := by decide +kernel
theorem dX3_passHour_13 : decode cX3_passHour 13 = .ok (.iload 4, 2) := by decide +kernel
theorem dX3_passHour_15 : decode cX3_passHour 15 = .ok (.aload_n 0, 1) := by decide +kernel
theorem dX3_passHour_16 : decode cX3_passHour 16 = .ok (.getfield 12, 3) := by decide +kernel
theorem dX3_passHour_19 : decode cX3_passHour 19 = .ok (.invokevirtual 48, 3) := by decide +kernel
theorem dX3_passHour_22 : decode cX3_passHour 22 = .ok (.if_icmp .ge 31, 3) := by decide +kernel
theorem dX3_passHour_25 : decode cX3_passHour 25 = .ok (.aload_n 0, 1) := by decide +kernel
theorem dX3_passHour_26 : decode cX3_passHour 26 = .ok (.getfield 12, 3) := by decide +kernel
theorem dX3_passHour_29 : decode cX3_passHour 29 = .ok (.iload 4, 2) := by decide +kernel
theorem dX3_passHour_31 : decode cX3_passHour 31 = .ok (.invokevirtual 52, 3) := by decide +kernel
theorem dX3_passHour_34 : decode cX3_passHour 34 = .ok (.checkcast 56, 3) := by decide +kernel
theorem dX3_passHour_37 : decode cX3_passHour 37 = .ok (.aload_n 0, 1) := by decide +kernel
theorem dX3_passHour_38 : decode cX3_passHour 38 = .ok (.invokevirtual 95, 3) := by decide +kernel
theorem dX3_passHour_41 : decode cX3_passHour 41 = .ok (.iload_n 1, 1) := by decide +kernel
theorem dX3_passHour_42 : decode cX3_passHour 42 = .ok (.iload_n 2, 1) := by decide +kernel
theorem dX3_passHour_43 : decode cX3_passHour 43 = .ok (.iload_n 3, 1) := by decide +kernel
theorem dX3_passHour_44 : decode cX3_passHour 44 = .ok (.invokevirtual 98, 3) := by decide +kernel
theorem dX3_passHour_47 : decode cX3_passHour 47 = .ok (.iinc 4 1, 3) := by decide +kernel
theorem dX3_passHour_50 : decode cX3_passHour 50 = .ok (.goto (-37), 3) := by decide +kernel
theorem dX3_passHour_53 : decode cX3_passHour 53 = .ok (.iconst 0, 1) := by decide +kernel
theorem dX3_passHour_54 : decode cX3_passHour 54 = .ok (.istore 4, 2) := by decide +kernel
theorem dX3_passHour_56 : decode cX3_passHour 56 = .ok (.iload 4, 2) := by decide +kernel
theorem dX3_passHour_58 : decode cX3_passHour 58 = .ok (.aload_n 0, 1) := by decide +kernel
theorem dX3_passHour_59 : decode cX3_passHour 59 = .ok (.getfield 18, 3) := by decide +kernel
theorem dX3_passHour_62 : decode cX3_passHour 62 = .ok (.invokevirtual 48, 3) := by decide +kernel
theorem dX3_passHour_65 : decode cX3_passHour 65 = .ok (.if_icmp .ge 42, 3) := by decide +kernel
theorem dX3_passHour_68 : decode cX3_passHour 68 = .ok (.aload_n 0, 1) := by decide +kernel
theorem dX3_passHour_69 : decode cX3_passHour 69 = .ok (.getfield 18, 3) := by decide +kernel
theorem dX3_passHour_72 : decode cX3_passHour 72 = .ok (.iload 4, 2) := by decide +kernel
theorem dX3_passHour_74 : decode cX3_passHour 74 = .ok (.invokevirtual 52, 3) := by decide +kernel
theorem dX3_passHour_77 : decode cX3_passHour 77 = .ok (.checkcast 62, 3) := by decide +kernel
theorem dX3_passHour_80 : decode cX3_passHour 80 = .ok (.astore 5, 2) := by decide +kernel
theorem dX3_passHour_82 : decode cX3_passHour 82 = .ok (.aload 5, 2) := by decide +kernel
theorem dX3_passHour_84 : decode cX3_passHour 84 = .ok (.aload_n 0, 1) := by decide +kernel
theorem dX3_passHour_85 : decode cX3_passHour 85 = .ok (.aload 5, 2) := by decide +kernel
theorem dX3_passHour_87 : decode cX3_passHour 87 = .ok (.getfield 102, 3) := by decide +kernel
theorem dX3_passHour_90 : decode cX3_passHour 90 = .ok (.invokevirtual 105, 3) := by decide +kernel
theorem dX3_passHour_93 : decode cX3_passHour 93 = .ok (.aload_n 0, 1) := by decide +kernel
theorem dX3_passHour_94 : decode cX3_passHour 94 = .ok (.invokevirtual 95, 3) := by decide +kernel
theorem dX3_passHour_97 : decode cX3_passHour 97 = .ok (.iload_n 3, 1) := by decide +kernel
theorem dX3_passHour_98 : decode cX3_passHour 98 = .ok (.invokevirtual 109, 3) := by decide +kernel
theorem dX3_passHour_101 : decode cX3_passHour 101 = .ok (.iinc 4 1, 3) := by decide +kernel
theorem dX3_passHour_104 : decode cX3_passHour 104 = .ok (.goto (-48), 3) := by decide +kernel
theorem dX3_passHour_107 : decode cX3_passHour 107 = .ok (.iconst 0, 1) := by decide +kernel
theorem dX3_passHour_108 : decode cX3_passHour 108 = .ok (.istore 4, 2) := by decide +kernel
theorem dX3_passHour_110 : decode cX3_passHour 110 = .ok (.iload 4, 2) := by decide +kernel
theorem dX3_passHour_112 : decode cX3_passHour 112 = .ok (.aload_n 0, 1) := by decide +kernel
theorem dX3_passHour_113 : decode cX3_passHour 113 = .ok (.getfield 21, 3) := by decide +kernel
theorem dX3_passHour_116 : decode cX3_passHour 116 = .ok (.invokevirtual 48, 3) := by decide +kernel
theorem dX3_passHour_119 : decode cX3_passHour 119 = .ok (.if_icmp .ge 25, 3) := by decide +kernel
theorem dX3_passHour_122 : decode cX3_passHour 122 = .ok (.aload_n 0, 1) := by decide +kernel
theorem dX3_passHour_123 : decode cX3_passHour 123 = .ok (.aload_n 0, 1) := by decide +kernel
theorem dX3_passHour_124 : decode cX3_passHour 124 = .ok (.getfield 21, 3) := by decide +kernel
theorem dX3_passHour_127 : decode cX3_passHour 127 = .ok (.iload 4, 2) := by decide +kernel
theorem dX3_passHour_129 : decode cX3_passHour 129 = .ok (.invokevirtual 52, 3) := by decide +kernel
end
section
theorem dX3_passHour_132 : decode cX3_passHour 132 = .ok (.checkcast 67, 3) := by decide +kernel
theorem dX3_passHour_135 : decode cX3_passHour 135 = .ok (.invokevirtual 112, 3) := by decide +kernel
theorem dX3_passHour_138 : decode cX3_passHour 138 = .ok (.iinc 4 1, 3) := by decide +kernel
theorem dX3_passHour_141 : decode cX3_passHour 141 = .ok (.goto (-31), 3) := by decide +kernel
theorem dX3_passHour_144 : decode cX3_passHour 144 = .ok (.return_, 1) := by decide +kernel
theorem dX3_passTruckHour_0 : decode cX3_passTruckHour 0 = .ok (.aload_n 0, 1) := by decide +kernel
theorem dX3_passTruckHour_1 : decode cX3_passTruckHour 1 = .ok (.aload_n 1, 1) := by decide +kernel
theorem dX3_passTruckHour_2 : decode cX3_passTruckHour 2 = .ok (.getfield 115, 3) := by decide +kernel
theorem dX3_passTruckHour_5 : decode cX3_passTruckHour 5 = .ok (.invokevirtual 118, 3) := by decide +kernel
theorem dX3_passTruckHour_8 : decode cX3_passTruckHour 8 = .ok (.astore_n 2, 1) := by decide +kernel
theorem dX3_passTruckHour_9 : decode cX3_passTruckHour 9 = .ok (.aload_n 0, 1) := by decide +kernel
theorem dX3_passTruckHour_10 : decode cX3_passTruckHour 10 = .ok (.aload_n 1, 1) := by decide +kernel
theorem dX3_passTruckHour_11 : decode cX3_passTruckHour 11 = .ok (.getfield 122, 3) := by decide +kernel
theorem dX3_passTruckHour_14 : decode cX3_passTruckHour 14 = .ok (.invokevirtual 125, 3) := by decide +kernel
theorem dX3_passTruckHour_17 : decode cX3_passTruckHour 17 = .ok (.astore_n 3, 1) := by decide +kernel
theorem dX3_passTruckHour_18 : decode cX3_passTruckHour 18 = .ok (.aload_n 1, 1) := by decide +kernel
theorem dX3_passTruckHour_19 : decode cX3_passTruckHour 19 = .ok (.invokevirtual 129, 3) := by decide +kernel
theorem dX3_passTruckHour_22 : decode cX3_passTruckHour 22 = .ok (.ifCond .eq 10, 3) := by decide +kernel
theorem dX3_passTruckHour_25 : decode cX3_passTruckHour 25 = .ok (.aload_n 1, 1) := by decide +kernel
theorem dX3_passTruckHour_26 : decode cX3_passTruckHour 26 = .ok (.invokevirtual 133, 3) := by decide +kernel
theorem dX3_passTruckHour_29 : decode cX3_passTruckHour 29 = .ok (.goto 76, 3) := by decide +kernel
theorem dX3_passTruckHour_32 : decode cX3_passTruckHour 32 = .ok (.aload_n 2, 1) := by decide +kernel
theorem dX3_passTruckHour_33 : decode cX3_passTruckHour 33 = .ok (.ifnull 33, 3) := by decide +kernel
theorem dX3_passTruckHour_36 : decode cX3_passTruckHour 36 = .ok (.aload_n 1, 1) := by decide +kernel
theorem dX3_passTruckHour_37 : decode cX3_passTruckHour 37 = .ok (.getfield 136, 3) := by decide +kernel
theorem dX3_passTruckHour_40 : decode cX3_passTruckHour 40 = .ok (.aload_n 2, 1) := by decide +kernel
theorem dX3_passTruckHour_41 : decode cX3_passTruckHour 41 = .ok (.getfield 139, 3) := by decide +kernel
theorem dX3_passTruckHour_44 : decode cX3_passTruckHour 44 = .ok (.if_icmp .eq 14, 3) := by decide +kernel
theorem dX3_passTruckHour_47 : decode cX3_passTruckHour 47 = .ok (.aload_n 1, 1) := by decide +kernel
theorem dX3_passTruckHour_48 : decode cX3_passTruckHour 48 = .ok (.aload_n 2, 1) := by decide +kernel
theorem dX3_passTruckHour_49 : decode cX3_passTruckHour 49 = .ok (.getfield 139, 3) := by decide +kernel
theorem dX3_passTruckHour_52 : decode cX3_passTruckHour 52 = .ok (.invokevirtual 140, 3) := by decide +kernel
theorem dX3_passTruckHour_55 : decode cX3_passTruckHour 55 = .ok (.goto 50, 3) := by decide +kernel
theorem dX3_passTruckHour_58 : decode cX3_passTruckHour 58 = .ok (.aload_n 1, 1) := by decide +kernel
theorem dX3_passTruckHour_59 : decode cX3_passTruckHour 59 = .ok (.aload_n 2, 1) := by decide +kernel
theorem dX3_passTruckHour_60 : decode cX3_passTruckHour 60 = .ok (.invokevirtual 143, 3) := by decide +kernel
theorem dX3_passTruckHour_63 : decode cX3_passTruckHour 63 = .ok (.goto 42, 3) := by decide +kernel
theorem dX3_passTruckHour_66 : decode cX3_passTruckHour 66 = .ok (.aload_n 3, 1) := by decide +kernel
theorem dX3_passTruckHour_67 : decode cX3_passTruckHour 67 = .ok (.ifnull 38, 3) := by decide +kernel
theorem dX3_passTruckHour_70 : decode cX3_passTruckHour 70 = .ok (.aload_n 1, 1) := by decide +kernel
theorem dX3_passTruckHour_71 : decode cX3_passTruckHour 71 = .ok (.getfield 136, 3) := by decide +kernel
theorem dX3_passTruckHour_74 : decode cX3_passTruckHour 74 = .ok (.aload_n 3, 1) := by decide +kernel
theorem dX3_passTruckHour_75 : decode cX3_passTruckHour 75 = .ok (.getfield 146, 3) := by decide +kernel
theorem dX3_passTruckHour_78 : decode cX3_passTruckHour 78 = .ok (.if_icmp .eq 14, 3) := by decide +kernel
theorem dX3_passTruckHour_81 : decode cX3_passTruckHour 81 = .ok (.aload_n 1, 1) := by decide +kernel
theorem dX3_passTruckHour_82 : decode cX3_passTruckHour 82 = .ok (.aload_n 3, 1) := by decide +kernel
theorem dX3_passTruckHour_83 : decode cX3_passTruckHour 83 = .ok (.getfield 146, 3) := by decide +kernel
theorem dX3_passTruckHour_86 : decode cX3_passTruckHour 86 = .ok (.invokevirtual 140, 3) := by decide +kernel
theorem dX3_passTruckHour_89 : decode cX3_passTruckHour 89 = .ok (.goto 16, 3) := by decide +kernel
theorem dX3_passTruckHour_92 : decode cX3_passTruckHour 92 = .ok (.aload_n 1, 1) := by decide +kernel
theorem dX3_passTruckHour_93 : decode cX3_passTruckHour 93 = .ok (.getfield 147, 3) := by decide +kernel
theorem dX3_passTruckHour_96 : decode cX3_passTruckHour 96 = .ok (.ifCond .le 9, 3) := by decide +kernel
theorem dX3_passTruckHour_99 : decode cX3_passTruckHour 99 = .ok (.aload_n 0, 1) := by decide +kernel
theorem dX3_passTruckHour_100 : decode cX3_passTruckHour 100 = .ok (.aload_n 1, 1) := by decide +kernel
theorem dX3_passTruckHour_101 : decode cX3_passTruckHour 101 = .ok (.aload_n 3, 1) := by decide +kernel
theorem dX3_passTruckHour_102 : decode cX3_passTruckHour 102 = .ok (.invokevirtual 150, 3) := by decide +kernel
theorem dX3_passTruckHour_105 : decode cX3_passTruckHour 105 = .ok (.return_, 1) := by decide +kernel
theorem dX3_unload_0 : decode cX3_unload 0 = .ok (.aload_n 2, 1) := by decide +kernel
theorem dX3_unload_1 : decode cX3_unload 1 = .ok (.aload_n 1, 1) := by decide +kernel
theorem dX3_unload_2 : decode cX3_unload 2 = .ok (.aload_n 0, 1) := by decide +kernel
theorem dX3_unload_3 : decode cX3_unload 3 = .ok (.invokevirtual 95, 3) := by decide +kernel
theorem dX3_unload_6 : decode cX3_unload 6 = .ok (.invokevirtual 154, 3) := by decide +kernel
theorem dX3_unload_9 : decode cX3_unload 9 = .ok (.ifCond .ne 14, 3) := by decide +kernel
theorem dX3_unload_12 : decode cX3_unload 12 = .ok (.aload_n 1, 1) := by decide +kernel
theorem dX3_unload_13 : decode cX3_unload 13 = .ok (.dup, 1) := by decide +kernel
theorem dX3_unload_14 : decode cX3_unload 14 = .ok (.getfield 158, 3) := by decide +kernel
theorem dX3_unload_17 : decode cX3_unload 17 = .ok (.iconst 1, 1) := by decide +kernel
theorem dX3_unload_18 : decode cX3_unload 18 = .ok (.iadd, 1) := by decide +kernel
theorem dX3_unload_19 : decode cX3_unload 19 = .ok (.putfield 158, 3) := by decide +kernel
theorem dX3_unload_22 : decode cX3_unload 22 = .ok (.return_, 1) := by decide +kernel
theorem dX3_unload_23 : decode cX3_unload 23 = .ok (.aload_n 2, 1) := by decide +kernel
theorem dX3_unload_24 : decode cX3_unload 24 = .ok (.dup, 1) := by decide +kernel
theorem dX3_unload_25 : decode cX3_unload 25 = .ok (.getfield 161, 3) := by decide +kernel
theorem dX3_unload_28 : decode cX3_unload 28 = .ok (.aload_n 1, 1) := by decide +kernel
theorem dX3_unload_29 : decode cX3_unload 29 = .ok (.getfield 147, 3) := by decide +kernel
theorem dX3_unload_32 : decode cX3_unload 32 = .ok (.isub, 1) := by decide +kernel
theorem dX3_unload_33 : decode cX3_unload 33 = .ok (.putfield 161, 3) := by decide +kernel
theorem dX3_unload_36 : decode cX3_unload 36 = .ok (.aload_n 0, 1) := by decide +kernel
theorem dX3_unload_37 : decode cX3_unload 37 = .ok (.getfield 37, 3) := by decide +kernel
theorem dX3_unload_40 : decode cX3_unload 40 = .ok (.ifCond .ne 9, 3) := by decide +kernel
theorem dX3_unload_43 : decode cX3_unload 43 = .ok (.aload_n 0, 1) := by decide +kernel
theorem dX3_unload_44 : decode cX3_unload 44 = .ok (.aload_n 1, 1) := by decide +kernel
theorem dX3_unload_45 : decode cX3_unload 45 = .ok (.aload_n 2, 1) := by decide +kernel
theorem dX3_unload_46 : decode cX3_unload 46 = .ok (.invokevirtual 164, 3) := by decide +kernel
theorem dX3_unload_49 : decode cX3_unload 49 = .ok (.aload_n 1, 1) := by decide +kernel
theorem dX3_unload_50 : decode cX3_unload 50 = .ok (.iconst 0, 1) := by decide +kernel
theorem dX3_unload_51 : decode cX3_unload 51 = .ok (.putfield 147, 3) := by decide +kernel
theorem dX3_unload_54 : decode cX3_unload 54 = .ok (.return_, 1) := by decide +kernel
theorem dX3_writeTicket_0 : decode cX3_writeTicket 0 = .ok (.new 93, 3) := by decide +kernel
theorem dX3_writeTicket_3 : decode cX3_writeTicket 3 = .ok (.dup, 1) := by decide +kernel
theorem dX3_writeTicket_4 : decode cX3_writeTicket 4 = .ok (.aload_n 1, 1) := by decide +kernel
theorem dX3_writeTicket_5 : decode cX3_writeTicket 5 = .ok (.aload_n 2, 1) := by decide +kernel
theorem dX3_writeTicket_6 : decode cX3_writeTicket 6 = .ok (.aload_n 1, 1) := by decide +kernel
theorem dX3_writeTicket_7 : decode cX3_writeTicket 7 = .ok (.getfield 167, 3) := by decide +kernel
theorem dX3_writeTicket_10 : decode cX3_writeTicket 10 = .ok (.invokevirtual 170, 3) := by decide +kernel
theorem dX3_writeTicket_13 : decode cX3_writeTicket 13 = .ok (.aload_n 0, 1) := by decide +kernel
theorem dX3_writeTicket_14 : decode cX3_writeTicket 14 = .ok (.getfield 41, 3) := by decide +kernel
theorem dX3_writeTicket_17 : decode cX3_writeTicket 17 = .ok (.aload_n 0, 1) := by decide +kernel
theorem dX3_writeTicket_18 : decode cX3_writeTicket 18 = .ok (.getfield 30, 3) := by decide +kernel
theorem dX3_writeTicket_21 : decode cX3_writeTicket 21 = .ok (.invokespecial 174, 3) := by decide +kernel
theorem dX3_writeTicket_24 : decode cX3_writeTicket 24 = .ok (.astore_n 3, 1) := by decide +kernel
theorem dX3_writeTicket_25 : decode cX3_writeTicket 25 = .ok (.aload_n 0, 1) := by decide +kernel
theorem dX3_writeTicket_26 : decode cX3_writeTicket 26 = .ok (.getfield 27, 3) := by decide +kernel
theorem dX3_writeTicket_29 : decode cX3_writeTicket 29 = .ok (.aload_n 3, 1) := by decide +kernel
theorem dX3_writeTicket_30 : decode cX3_writeTicket 30 = .ok (.invokevirtual 80, 3) := by decide +kernel
theorem dX3_writeTicket_33 : decode cX3_writeTicket 33 = .ok (.pop, 1) := by decide +kernel
theorem dX3_writeTicket_34 : decode cX3_writeTicket 34 = .ok (.aload_n 0, 1) := by decide +kernel
theorem dX3_writeTicket_35 : decode cX3_writeTicket 35 = .ok (.dup, 1) := by decide +kernel
theorem dX3_writeTicket_36 : decode cX3_writeTicket 36 = .ok (.getfield 34, 3) := by decide +kernel
theorem dX3_writeTicket_39 : decode cX3_writeTicket 39 = .ok (.iconst 2, 1) := by decide +kernel
theorem dX3_writeTicket_40 : decode cX3_writeTicket 40 = .ok (.aload_n 3, 1) := by decide +kernel
theorem dX3_writeTicket_41 : decode cX3_writeTicket 41 = .ok (.getfield 177, 3) := by decide +kernel
theorem dX3_writeTicket_44 : decode cX3_writeTicket 44 = .ok (.bipush 10, 2) := by decide +kernel
theorem dX3_writeTicket_46 : decode cX3_writeTicket 46 = .ok (.idiv, 1) := by decide +kernel
theorem dX3_writeTicket_47 : decode cX3_writeTicket 47 = .ok (.imul, 1) := by decide +kernel
theorem dX3_writeTicket_48 : decode cX3_writeTicket 48 = .ok (.iadd, 1) := by decide +kernel
theorem dX3_writeTicket_49 : decode cX3_writeTicket 49 = .ok (.putfield 34, 3) := by decide +kernel
theorem dX3_writeTicket_52 : decode cX3_writeTicket 52 = .ok (.aload_n 0, 1) := by decide +kernel
theorem dX3_writeTicket_53 : decode cX3_writeTicket 53 = .ok (.aload_n 3, 1) := by decide +kernel
theorem dX3_writeTicket_54 : decode cX3_writeTicket 54 = .ok (.getfield 180, 3) := by decide +kernel
theorem dX3_writeTicket_57 : decode cX3_writeTicket 57 = .ok (.invokevirtual 105, 3) := by decide +kernel
theorem dX3_writeTicket_60 : decode cX3_writeTicket 60 = .ok (.astore 4, 2) := by decide +kernel
theorem dX3_writeTicket_62 : decode cX3_writeTicket 62 = .ok (.aload 4, 2) := by decide +kernel
theorem dX3_writeTicket_64 : decode cX3_writeTicket 64 = .ok (.ifnull 16, 3) := by decide +kernel
theorem dX3_writeTicket_67 : decode cX3_writeTicket 67 = .ok (.aload 4, 2) := by decide +kernel
theorem dX3_writeTicket_69 : decode cX3_writeTicket 69 = .ok (.aload_n 3, 1) := by decide +kernel
theorem dX3_writeTicket_70 : decode cX3_writeTicket 70 = .ok (.getfield 177, 3) := by decide +kernel
theorem dX3_writeTicket_73 : decode cX3_writeTicket 73 = .ok (.aload_n 3, 1) := by decide +kernel
theorem dX3_writeTicket_74 : decode cX3_writeTicket 74 = .ok (.getfield 183, 3) := by decide +kernel
theorem dX3_writeTicket_77 : decode cX3_writeTicket 77 = .ok (.invokevirtual 186, 3) := by decide +kernel
theorem dX3_writeTicket_80 : decode cX3_writeTicket 80 = .ok (.return_, 1) := by decide +kernel
theorem dX3_combinesSentTo_0 : decode cX3_combinesSentTo 0 = .ok (.iconst 0, 1) := by decide +kernel
theorem dX3_combinesSentTo_1 : decode cX3_combinesSentTo 1 = .ok (.istore_n 2, 1) := by decide +kernel
theorem dX3_combinesSentTo_2 : decode cX3_combinesSentTo 2 = .ok (.iconst 0, 1) := by decide +kernel
theorem dX3_combinesSentTo_3 : decode cX3_combinesSentTo 3 = .ok (.istore_n 3, 1) := by decide +kernel
theorem dX3_combinesSentTo_4 : decode cX3_combinesSentTo 4 = .ok (.iload_n 3, 1) := by decide +kernel
theorem dX3_combinesSentTo_5 : decode cX3_combinesSentTo 5 = .ok (.aload_n 0, 1) := by decide +kernel
theorem dX3_combinesSentTo_6 : decode cX3_combinesSentTo 6 = .ok (.getfield 18, 3) := by decide +kernel
theorem dX3_combinesSentTo_9 : decode cX3_combinesSentTo 9 = .ok (.invokevirtual 48, 3) := by decide +kernel
theorem dX3_combinesSentTo_12 : decode cX3_combinesSentTo 12 = .ok (.if_icmp .ge 30, 3) := by decide +kernel
theorem dX3_combinesSentTo_15 : decode cX3_combinesSentTo 15 = .ok (.aload_n 0, 1) := by decide +kernel
theorem dX3_combinesSentTo_16 : decode cX3_combinesSentTo 16 = .ok (.getfield 18, 3) := by decide +kernel
theorem dX3_combinesSentTo_19 : decode cX3_combinesSentTo 19 = .ok (.iload_n 3, 1) := by decide +kernel
theorem dX3_combinesSentTo_20 : decode cX3_combinesSentTo 20 = .ok (.invokevirtual 52, 3) := by decide +kernel
theorem dX3_combinesSentTo_23 : decode cX3_combinesSentTo 23 = .ok (.checkcast 62, 3) := by decide +kernel
theorem dX3_combinesSentTo_26 : decode cX3_combinesSentTo 26 = .ok (.getfield 102, 3) := by decide +kernel
theorem dX3_combinesSentTo_29 : decode cX3_combinesSentTo 29 = .ok (.iload_n 1, 1) := by decide +kernel
theorem dX3_combinesSentTo_30 : decode cX3_combinesSentTo 30 = .ok (.if_icmp .ne 6, 3) := by decide +kernel
theorem dX3_combinesSentTo_33 : decode cX3_combinesSentTo 33 = .ok (.iinc 2 1, 3) := by decide +kernel
theorem dX3_combinesSentTo_36 : decode cX3_combinesSentTo 36 = .ok (.iinc 3 1, 3) := by decide +kernel
theorem dX3_combinesSentTo_39 : decode cX3_combinesSentTo 39 = .ok (.goto (-35), 3) := by decide +kernel
theorem dX3_combinesSentTo_42 : decode cX3_combinesSentTo 42 = .ok (.iload_n 2, 1) := by decide +kernel
theorem dX3_combinesSentTo_43 : decode cX3_combinesSentTo 43 = .ok (.ireturn, 1) := by decide +kernel
theorem dX3_onTheWay_0 : decode cX3_onTheWay 0 = .ok (.iconst 0, 1) := by decide +kernel
theorem dX3_onTheWay_1 : decode cX3_onTheWay 1 = .ok (.istore_n 2, 1) := by decide +kernel
theorem dX3_onTheWay_2 : decode cX3_onTheWay 2 = .ok (.iconst 0, 1) := by decide +kernel
theorem dX3_onTheWay_3 : decode cX3_onTheWay 3 = .ok (.istore_n 3, 1) := by decide +kernel
theorem dX3_onTheWay_4 : decode cX3_onTheWay 4 = .ok (.iload_n 3, 1) := by decide +kernel
theorem dX3_onTheWay_5 : decode cX3_onTheWay 5 = .ok (.aload_n 0, 1) := by decide +kernel
theorem dX3_onTheWay_6 : decode cX3_onTheWay 6 = .ok (.getfield 18, 3) := by decide +kernel
theorem dX3_onTheWay_9 : decode cX3_onTheWay 9 = .ok (.invokevirtual 48, 3) := by decide +kernel
theorem dX3_onTheWay_12 : decode cX3_onTheWay 12 = .ok (.if_icmp .ge 43, 3) := by decide +kernel
theorem dX3_onTheWay_15 : decode cX3_onTheWay 15 = .ok (.aload_n 0, 1) := by decide +kernel
theorem dX3_onTheWay_16 : decode cX3_onTheWay 16 = .ok (.getfield 18, 3) := by decide +kernel
theorem dX3_onTheWay_19 : decode cX3_onTheWay 19 = .ok (.iload_n 3, 1) := by decide +kernel
theorem dX3_onTheWay_20 : decode cX3_onTheWay 20 = .ok (.invokevirtual 52, 3) := by decide +kernel
theorem dX3_onTheWay_23 : decode cX3_onTheWay 23 = .ok (.checkcast 62, 3) := by decide +kernel
theorem dX3_onTheWay_26 : decode cX3_onTheWay 26 = .ok (.astore 4, 2) := by decide +kernel
theorem dX3_onTheWay_28 : decode cX3_onTheWay 28 = .ok (.iload_n 2, 1) := by decide +kernel
theorem dX3_onTheWay_29 : decode cX3_onTheWay 29 = .ok (.aload 4, 2) := by decide +kernel
theorem dX3_onTheWay_31 : decode cX3_onTheWay 31 = .ok (.getfield 190, 3) := by decide +kernel
theorem dX3_onTheWay_34 : decode cX3_onTheWay 34 = .ok (.iload_n 1, 1) := by decide +kernel
theorem dX3_onTheWay_35 : decode cX3_onTheWay 35 = .ok (.if_icmp .ne 11, 3) := by decide +kernel
theorem dX3_onTheWay_38 : decode cX3_onTheWay 38 = .ok (.aload 4, 2) := by decide +kernel
theorem dX3_onTheWay_40 : decode cX3_onTheWay 40 = .ok (.getfield 193, 3) := by decide +kernel
theorem dX3_onTheWay_43 : decode cX3_onTheWay 43 = .ok (.goto 4, 3) := by decide +kernel
theorem dX3_onTheWay_46 : decode cX3_onTheWay 46 = .ok (.iconst 0, 1) := by decide +kernel
theorem dX3_onTheWay_47 : decode cX3_onTheWay 47 = .ok (.iadd, 1) := by decide +kernel
theorem dX3_onTheWay_48 : decode cX3_onTheWay 48 = .ok (.istore_n 2, 1) := by decide +kernel
theorem dX3_onTheWay_49 : decode cX3_onTheWay 49 = .ok (.iinc 3 1, 3) := by decide +kernel
theorem dX3_onTheWay_52 : decode cX3_onTheWay 52 = .ok (.goto (-48), 3) := by decide +kernel
theorem dX3_onTheWay_55 : decode cX3_onTheWay 55 = .ok (.iconst 0, 1) := by decide +kernel
theorem dX3_onTheWay_56 : decode cX3_onTheWay 56 = .ok (.istore_n 3, 1) := by decide +kernel
theorem dX3_onTheWay_57 : decode cX3_onTheWay 57 = .ok (.iload_n 3, 1) := by decide +kernel
theorem dX3_onTheWay_58 : decode cX3_onTheWay 58 = .ok (.aload_n 0, 1) := by decide +kernel
theorem dX3_onTheWay_59 : decode cX3_onTheWay 59 = .ok (.getfield 21, 3) := by decide +kernel
theorem dX3_onTheWay_62 : decode cX3_onTheWay 62 = .ok (.invokevirtual 48, 3) := by decide +kernel
theorem dX3_onTheWay_65 : decode cX3_onTheWay 65 = .ok (.if_icmp .ge 43, 3) := by decide +kernel
theorem dX3_onTheWay_68 : decode cX3_onTheWay 68 = .ok (.aload_n 0, 1) := by decide +kernel
theorem dX3_onTheWay_69 : decode cX3_onTheWay 69 = .ok (.getfield 21, 3) := by decide +kernel
theorem dX3_onTheWay_72 : decode cX3_onTheWay 72 = .ok (.iload_n 3, 1) := by decide +kernel
theorem dX3_onTheWay_73 : decode cX3_onTheWay 73 = .ok (.invokevirtual 52, 3) := by decide +kernel
theorem dX3_onTheWay_76 : decode cX3_onTheWay 76 = .ok (.checkcast 67, 3) := by decide +kernel
theorem dX3_onTheWay_79 : decode cX3_onTheWay 79 = .ok (.astore 4, 2) := by decide +kernel
theorem dX3_onTheWay_81 : decode cX3_onTheWay 81 = .ok (.iload_n 2, 1) := by decide +kernel
theorem dX3_onTheWay_82 : decode cX3_onTheWay 82 = .ok (.aload 4, 2) := by decide +kernel
theorem dX3_onTheWay_84 : decode cX3_onTheWay 84 = .ok (.getfield 196, 3) := by decide +kernel
theorem dX3_onTheWay_87 : decode cX3_onTheWay 87 = .ok (.iload_n 1, 1) := by decide +kernel
theorem dX3_onTheWay_88 : decode cX3_onTheWay 88 = .ok (.if_icmp .ne 11, 3) := by decide +kernel
theorem dX3_onTheWay_91 : decode cX3_onTheWay 91 = .ok (.aload 4, 2) := by decide +kernel
theorem dX3_onTheWay_93 : decode cX3_onTheWay 93 = .ok (.getfield 147, 3) := by decide +kernel
theorem dX3_onTheWay_96 : decode cX3_onTheWay 96 = .ok (.goto 4, 3) := by decide +kernel
theorem dX3_onTheWay_99 : decode cX3_onTheWay 99 = .ok (.iconst 0, 1) := by decide +kernel
theorem dX3_onTheWay_100 : decode cX3_onTheWay 100 = .ok (.iadd, 1) := by decide +kernel
theorem dX3_onTheWay_101 : decode cX3_onTheWay 101 = .ok (.istore_n 2, 1) := by decide +kernel
theorem dX3_onTheWay_102 : decode cX3_onTheWay 102 = .ok (.iinc 3 1, 3) := by decide +kernel
theorem dX3_onTheWay_105 : decode cX3_onTheWay 105 = .ok (.goto (-48), 3) := by decide +kernel
theorem dX3_onTheWay_108 : decode cX3_onTheWay 108 = .ok (.iload_n 2, 1) := by decide +kernel
theorem dX3_onTheWay_109 : decode cX3_onTheWay 109 = .ok (.ireturn, 1) := by decide +kernel
theorem dX3_allOnTheWay_0 : decode cX3_allOnTheWay 0 = .ok (.iconst 0, 1) := by decide +kernel
theorem dX3_allOnTheWay_1 : decode cX3_allOnTheWay 1 = .ok (.istore_n 1, 1) := by decide +kernel
theorem dX3_allOnTheWay_2 : decode cX3_allOnTheWay 2 = .ok (.iconst 0, 1) := by decide +kernel
theorem dX3_allOnTheWay_3 : decode cX3_allOnTheWay 3 = .ok (.istore_n 2, 1) := by decide +kernel
theorem dX3_allOnTheWay_4 : decode cX3_allOnTheWay 4 = .ok (.iload_n 2, 1) := by decide +kernel
theorem dX3_allOnTheWay_5 : decode cX3_allOnTheWay 5 = .ok (.aload_n 0, 1) := by decide +kernel
theorem dX3_allOnTheWay_6 : decode cX3_allOnTheWay 6 = .ok (.getfield 18, 3) := by decide +kernel
theorem dX3_allOnTheWay_9 : decode cX3_allOnTheWay 9 = .ok (.invokevirtual 48, 3) := by decide +kernel
theorem dX3_allOnTheWay_12 : decode cX3_allOnTheWay 12 = .ok (.if_icmp .ge 26, 3) := by decide +kernel
theorem dX3_allOnTheWay_15 : decode cX3_allOnTheWay 15 = .ok (.iload_n 1, 1) := by decide +kernel
theorem dX3_allOnTheWay_16 : decode cX3_allOnTheWay 16 = .ok (.aload_n 0, 1) := by decide +kernel
theorem dX3_allOnTheWay_17 : decode cX3_allOnTheWay 17 = .ok (.getfield 18, 3) := by decide +kernel
theorem dX3_allOnTheWay_20 : decode cX3_allOnTheWay 20 = .ok (.iload_n 2, 1) := by decide +kernel
theorem dX3_allOnTheWay_21 : decode cX3_allOnTheWay 21 = .ok (.invokevirtual 52, 3) := by decide +kernel
theorem dX3_allOnTheWay_24 : decode cX3_allOnTheWay 24 = .ok (.checkcast 62, 3) := by decide +kernel
theorem dX3_allOnTheWay_27 : decode cX3_allOnTheWay 27 = .ok (.getfield 193, 3) := by decide +kernel
theorem dX3_allOnTheWay_30 : decode cX3_allOnTheWay 30 = .ok (.iadd, 1) := by decide +kernel
theorem dX3_allOnTheWay_31 : decode cX3_allOnTheWay 31 = .ok (.istore_n 1, 1) := by decide +kernel
theorem dX3_allOnTheWay_32 : decode cX3_allOnTheWay 32 = .ok (.iinc 2 1, 3) := by decide +kernel
theorem dX3_allOnTheWay_35 : decode cX3_allOnTheWay 35 = .ok (.goto (-31), 3) := by decide +kernel
theorem dX3_allOnTheWay_38 : decode cX3_allOnTheWay 38 = .ok (.iconst 0, 1) := by decide +kernel
theorem dX3_allOnTheWay_39 : decode cX3_allOnTheWay 39 = .ok (.istore_n 2, 1) := by decide +kernel
theorem dX3_allOnTheWay_40 : decode cX3_allOnTheWay 40 = .ok (.iload_n 2, 1) := by decide +kernel
theorem dX3_allOnTheWay_41 : decode cX3_allOnTheWay 41 = .ok (.aload_n 0, 1) := by decide +kernel
theorem dX3_allOnTheWay_42 : decode cX3_allOnTheWay 42 = .ok (.getfield 21, 3) := by decide +kernel
theorem dX3_allOnTheWay_45 : decode cX3_allOnTheWay 45 = .ok (.invokevirtual 48, 3) := by decide +kernel
theorem dX3_allOnTheWay_48 : decode cX3_allOnTheWay 48 = .ok (.if_icmp .ge 26, 3) := by decide +kernel
theorem dX3_allOnTheWay_51 : decode cX3_allOnTheWay 51 = .ok (.iload_n 1, 1) := by decide +kernel
theorem dX3_allOnTheWay_52 : decode cX3_allOnTheWay 52 = .ok (.aload_n 0, 1) := by decide +kernel
theorem dX3_allOnTheWay_53 : decode cX3_allOnTheWay 53 = .ok (.getfield 21, 3) := by decide +kernel
theorem dX3_allOnTheWay_56 : decode cX3_allOnTheWay 56 = .ok (.iload_n 2, 1) := by decide +kernel
theorem dX3_allOnTheWay_57 : decode cX3_allOnTheWay 57 = .ok (.invokevirtual 52, 3) := by decide +kernel
theorem dX3_allOnTheWay_60 : decode cX3_allOnTheWay 60 = .ok (.checkcast 67, 3) := by decide +kernel
theorem dX3_allOnTheWay_63 : decode cX3_allOnTheWay 63 = .ok (.getfield 147, 3) := by decide +kernel
theorem dX3_allOnTheWay_66 : decode cX3_allOnTheWay 66 = .ok (.iadd, 1) := by decide +kernel
theorem dX3_allOnTheWay_67 : decode cX3_allOnTheWay 67 = .ok (.istore_n 1, 1) := by decide +kernel
theorem dX3_allOnTheWay_68 : decode cX3_allOnTheWay 68 = .ok (.iinc 2 1, 3) := by decide +kernel
theorem dX3_allOnTheWay_71 : decode cX3_allOnTheWay 71 = .ok (.goto (-31), 3) := by decide +kernel
theorem dX3_allOnTheWay_74 : decode cX3_allOnTheWay 74 = .ok (.iload_n 1, 1) := by decide +kernel
theorem dX3_allOnTheWay_75 : decode cX3_allOnTheWay 75 = .ok (.ireturn, 1) := by decide +kernel
theorem dX3_uncutAcres_0 : decode cX3_uncutAcres 0 = .ok (.iconst 0, 1) := by decide +kernel
theorem dX3_uncutAcres_1 : decode cX3_uncutAcres 1 = .ok (.istore_n 1, 1) := by decide +kernel
theorem dX3_uncutAcres_2 : decode cX3_uncutAcres 2 = .ok (.iconst 0, 1) := by decide +kernel
theorem dX3_uncutAcres_3 : decode cX3_uncutAcres 3 = .ok (.istore_n 2, 1) := by decide +kernel
theorem dX3_uncutAcres_4 : decode cX3_uncutAcres 4 = .ok (.iload_n 2, 1) := by decide +kernel
theorem dX3_uncutAcres_5 : decode cX3_uncutAcres 5 = .ok (.aload_n 0, 1) := by decide +kernel
theorem dX3_uncutAcres_6 : decode cX3_uncutAcres 6 = .ok (.getfield 12, 3) := by decide +kernel
theorem dX3_uncutAcres_9 : decode cX3_uncutAcres 9 = .ok (.invokevirtual 48, 3) := by decide +kernel
theorem dX3_uncutAcres_12 : decode cX3_uncutAcres 12 = .ok (.if_icmp .ge 26, 3) := by decide +kernel
theorem dX3_uncutAcres_15 : decode cX3_uncutAcres 15 = .ok (.iload_n 1, 1) := by decide +kernel
theorem dX3_uncutAcres_16 : decode cX3_uncutAcres 16 = .ok (.aload_n 0, 1) := by decide +kernel
theorem dX3_uncutAcres_17 : decode cX3_uncutAcres 17 = .ok (.getfield 12, 3) := by decide +kernel
theorem dX3_uncutAcres_20 : decode cX3_uncutAcres 20 = .ok (.iload_n 2, 1) := by decide +kernel
theorem dX3_uncutAcres_21 : decode cX3_uncutAcres 21 = .ok (.invokevirtual 52, 3) := by decide +kernel
theorem dX3_uncutAcres_24 : decode cX3_uncutAcres 24 = .ok (.checkcast 56, 3) := by decide +kernel
theorem dX3_uncutAcres_27 : decode cX3_uncutAcres 27 = .ok (.invokevirtual 199, 3) := by decide +kernel
theorem dX3_uncutAcres_30 : decode cX3_uncutAcres 30 = .ok (.iadd, 1) := by decide +kernel
theorem dX3_uncutAcres_31 : decode cX3_uncutAcres 31 = .ok (.istore_n 1, 1) := by decide +kernel
theorem dX3_uncutAcres_32 : decode cX3_uncutAcres 32 = .ok (.iinc 2 1, 3) := by decide +kernel
theorem dX3_uncutAcres_35 : decode cX3_uncutAcres 35 = .ok (.goto (-31), 3) := by decide +kernel
theorem dX3_uncutAcres_38 : decode cX3_uncutAcres 38 = .ok (.iload_n 1, 1) := by decide +kernel
theorem dX3_uncutAcres_39 : decode cX3_uncutAcres 39 = .ok (.ireturn, 1) := by decide +kernel
theorem dX3_brokenCombines_0 : decode cX3_brokenCombines 0 = .ok (.iconst 0, 1) := by decide +kernel
theorem dX3_brokenCombines_1 : decode cX3_brokenCombines 1 = .ok (.istore_n 1, 1) := by decide +kernel
theorem dX3_brokenCombines_2 : decode cX3_brokenCombines 2 = .ok (.iconst 0, 1) := by decide +kernel
theorem dX3_brokenCombines_3 : decode cX3_brokenCombines 3 = .ok (.istore_n 2, 1) := by decide +kernel
theorem dX3_brokenCombines_4 : decode cX3_brokenCombines 4 = .ok (.iload_n 2, 1) := by decide +kernel
theorem dX3_brokenCombines_5 : decode cX3_brokenCombines 5 = .ok (.aload_n 0, 1) := by decide +kernel
theorem dX3_brokenCombines_6 : decode cX3_brokenCombines 6 = .ok (.getfield 18, 3) := by decide +kernel
theorem dX3_brokenCombines_9 : decode cX3_brokenCombines 9 = .ok (.invokevirtual 48, 3) := by decide +kernel
theorem dX3_brokenCombines_12 : decode cX3_brokenCombines 12 = .ok (.if_icmp .ge 34, 3) := by decide +kernel
theorem dX3_brokenCombines_15 : decode cX3_brokenCombines 15 = .ok (.iload_n 1, 1) := by decide +kernel
theorem dX3_brokenCombines_16 : decode cX3_brokenCombines 16 = .ok (.aload_n 0, 1) := by decide +kernel
theorem dX3_brokenCombines_17 : decode cX3_brokenCombines 17 = .ok (.getfield 18, 3) := by decide +kernel
theorem dX3_brokenCombines_20 : decode cX3_brokenCombines 20 = .ok (.iload_n 2, 1) := by decide +kernel
theorem dX3_brokenCombines_21 : decode cX3_brokenCombines 21 = .ok (.invokevirtual 52, 3) := by decide +kernel
theorem dX3_brokenCombines_24 : decode cX3_brokenCombines 24 = .ok (.checkcast 62, 3) := by decide +kernel
theorem dX3_brokenCombines_27 : decode cX3_brokenCombines 27 = .ok (.getfield 202, 3) := by decide +kernel
theorem dX3_brokenCombines_30 : decode cX3_brokenCombines 30 = .ok (.ifCond .eq 7, 3) := by decide +kernel
theorem dX3_brokenCombines_33 : decode cX3_brokenCombines 33 = .ok (.iconst 1, 1) := by decide +kernel
theorem dX3_brokenCombines_34 : decode cX3_brokenCombines 34 = .ok (.goto 4, 3) := by decide +kernel
theorem dX3_brokenCombines_37 : decode cX3_brokenCombines 37 = .ok (.iconst 0, 1) := by decide +kernel
theorem dX3_brokenCombines_38 : decode cX3_brokenCombines 38 = .ok (.iadd, 1) := by decide +kernel
theorem dX3_brokenCombines_39 : decode cX3_brokenCombines 39 = .ok (.istore_n 1, 1) := by decide +kernel
theorem dX3_brokenCombines_40 : decode cX3_brokenCombines 40 = .ok (.iinc 2 1, 3) := by decide +kernel
theorem dX3_brokenCombines_43 : decode cX3_brokenCombines 43 = .ok (.goto (-39), 3) := by decide +kernel
theorem dX3_brokenCombines_46 : decode cX3_brokenCombines 46 = .ok (.iload_n 1, 1) := by decide +kernel
theorem dX3_brokenCombines_47 : decode cX3_brokenCombines 47 = .ok (.ireturn, 1) := by decide +kernel
theorem dX3_allRoom_0 : decode cX3_allRoom 0 = .ok (.iconst 0, 1) := by decide +kernel
theorem dX3_allRoom_1 : decode cX3_allRoom 1 = .ok (.istore_n 1, 1) := by decide +kernel
theorem dX3_allRoom_2 : decode cX3_allRoom 2 = .ok (.iconst 0, 1) := by decide +kernel
theorem dX3_allRoom_3 : decode cX3_allRoom 3 = .ok (.istore_n 2, 1) := by decide +kernel
theorem dX3_allRoom_4 : decode cX3_allRoom 4 = .ok (.iload_n 2, 1) := by decide +kernel
theorem dX3_allRoom_5 : decode cX3_allRoom 5 = .ok (.aload_n 0, 1) := by decide +kernel
theorem dX3_allRoom_6 : decode cX3_allRoom 6 = .ok (.getfield 24, 3) := by decide +kernel
theorem dX3_allRoom_9 : decode cX3_allRoom 9 = .ok (.invokevirtual 48, 3) := by decide +kernel
theorem dX3_allRoom_12 : decode cX3_allRoom 12 = .ok (.if_icmp .ge 26, 3) := by decide +kernel
theorem dX3_allRoom_15 : decode cX3_allRoom 15 = .ok (.iload_n 1, 1) := by decide +kernel
theorem dX3_allRoom_16 : decode cX3_allRoom 16 = .ok (.aload_n 0, 1) := by decide +kernel
theorem dX3_allRoom_17 : decode cX3_allRoom 17 = .ok (.getfield 24, 3) := by decide +kernel
theorem dX3_allRoom_20 : decode cX3_allRoom 20 = .ok (.iload_n 2, 1) := by decide +kernel
theorem dX3_allRoom_21 : decode cX3_allRoom 21 = .ok (.invokevirtual 52, 3) := by decide +kernel
theorem dX3_allRoom_24 : decode cX3_allRoom 24 = .ok (.checkcast 72, 3) := by decide +kernel
theorem dX3_allRoom_27 : decode cX3_allRoom 27 = .ok (.getfield 161, 3) := by decide +kernel
theorem dX3_allRoom_30 : decode cX3_allRoom 30 = .ok (.iadd, 1) := by decide +kernel
theorem dX3_allRoom_31 : decode cX3_allRoom 31 = .ok (.istore_n 1, 1) := by decide +kernel
theorem dX3_allRoom_32 : decode cX3_allRoom 32 = .ok (.iinc 2 1, 3) := by decide +kernel
theorem dX3_allRoom_35 : decode cX3_allRoom 35 = .ok (.goto (-31), 3) := by decide +kernel
theorem dX3_allRoom_38 : decode cX3_allRoom 38 = .ok (.iload_n 1, 1) := by decide +kernel
theorem dX3_allRoom_39 : decode cX3_allRoom 39 = .ok (.ireturn, 1) := by decide +kernel
theorem dX3_allIdle_0 : decode cX3_allIdle 0 = .ok (.iconst 0, 1) := by decide +kernel
theorem dX3_allIdle_1 : decode cX3_allIdle 1 = .ok (.istore_n 1, 1) := by decide +kernel
theorem dX3_allIdle_2 : decode cX3_allIdle 2 = .ok (.iconst 0, 1) := by decide +kernel
theorem dX3_allIdle_3 : decode cX3_allIdle 3 = .ok (.istore_n 2, 1) := by decide +kernel
theorem dX3_allIdle_4 : decode cX3_allIdle 4 = .ok (.iload_n 2, 1) := by decide +kernel
theorem dX3_allIdle_5 : decode cX3_allIdle 5 = .ok (.aload_n 0, 1) := by decide +kernel
theorem dX3_allIdle_6 : decode cX3_allIdle 6 = .ok (.getfield 18, 3) := by decide +kernel
theorem dX3_allIdle_9 : decode cX3_allIdle 9 = .ok (.invokevirtual 48, 3) := by decide +kernel
theorem dX3_allIdle_12 : decode cX3_allIdle 12 = .ok (.if_icmp .ge 26, 3) := by decide +kernel
theorem dX3_allIdle_15 : decode cX3_allIdle 15 = .ok (.iload_n 1, 1) := by decide +kernel
theorem dX3_allIdle_16 : decode cX3_allIdle 16 = .ok (.aload_n 0, 1) := by decide +kernel
theorem dX3_allIdle_17 : decode cX3_allIdle 17 = .ok (.getfield 18, 3) := by decide +kernel
theorem dX3_allIdle_20 : decode cX3_allIdle 20 = .ok (.iload_n 2, 1) := by decide +kernel
theorem dX3_allIdle_21 : decode cX3_allIdle 21 = .ok (.invokevirtual 52, 3) := by decide +kernel
theorem dX3_allIdle_24 : decode cX3_allIdle 24 = .ok (.checkcast 62, 3) := by decide +kernel
theorem dX3_allIdle_27 : decode cX3_allIdle 27 = .ok (.getfield 205, 3) := by decide +kernel
theorem dX3_allIdle_30 : decode cX3_allIdle 30 = .ok (.iadd, 1) := by decide +kernel
theorem dX3_allIdle_31 : decode cX3_allIdle 31 = .ok (.istore_n 1, 1) := by decide +kernel
theorem dX3_allIdle_32 : decode cX3_allIdle 32 = .ok (.iinc 2 1, 3) := by decide +kernel
theorem dX3_allIdle_35 : decode cX3_allIdle 35 = .ok (.goto (-31), 3) := by decide +kernel
theorem dX3_allIdle_38 : decode cX3_allIdle 38 = .ok (.iload_n 1, 1) := by decide +kernel
theorem dX3_allIdle_39 : decode cX3_allIdle 39 = .ok (.ireturn, 1) := by decide +kernel
theorem dX3_allQueued_0 : decode cX3_allQueued 0 = .ok (.iconst 0, 1) := by decide +kernel
theorem dX3_allQueued_1 : decode cX3_allQueued 1 = .ok (.istore_n 1, 1) := by decide +kernel
theorem dX3_allQueued_2 : decode cX3_allQueued 2 = .ok (.iconst 0, 1) := by decide +kernel
theorem dX3_allQueued_3 : decode cX3_allQueued 3 = .ok (.istore_n 2, 1) := by decide +kernel
theorem dX3_allQueued_4 : decode cX3_allQueued 4 = .ok (.iload_n 2, 1) := by decide +kernel
theorem dX3_allQueued_5 : decode cX3_allQueued 5 = .ok (.aload_n 0, 1) := by decide +kernel
theorem dX3_allQueued_6 : decode cX3_allQueued 6 = .ok (.getfield 21, 3) := by decide +kernel
theorem dX3_allQueued_9 : decode cX3_allQueued 9 = .ok (.invokevirtual 48, 3) := by decide +kernel
theorem dX3_allQueued_12 : decode cX3_allQueued 12 = .ok (.if_icmp .ge 26, 3) := by decide +kernel
theorem dX3_allQueued_15 : decode cX3_allQueued 15 = .ok (.iload_n 1, 1) := by decide +kernel
theorem dX3_allQueued_16 : decode cX3_allQueued 16 = .ok (.aload_n 0, 1) := by decide +kernel
theorem dX3_allQueued_17 : decode cX3_allQueued 17 = .ok (.getfield 21, 3) := by decide +kernel
theorem dX3_allQueued_20 : decode cX3_allQueued 20 = .ok (.iload_n 2, 1) := by decide +kernel
theorem dX3_allQueued_21 : decode cX3_allQueued 21 = .ok (.invokevirtual 52, 3) := by decide +kernel
theorem dX3_allQueued_24 : decode cX3_allQueued 24 = .ok (.checkcast 67, 3) := by decide +kernel
theorem dX3_allQueued_27 : decode cX3_allQueued 27 = .ok (.getfield 158, 3) := by decide +kernel
theorem dX3_allQueued_30 : decode cX3_allQueued 30 = .ok (.iadd, 1) := by decide +kernel
theorem dX3_allQueued_31 : decode cX3_allQueued 31 = .ok (.istore_n 1, 1) := by decide +kernel
theorem dX3_allQueued_32 : decode cX3_allQueued 32 = .ok (.iinc 2 1, 3) := by decide +kernel
theorem dX3_allQueued_35 : decode cX3_allQueued 35 = .ok (.goto (-31), 3) := by decide +kernel
theorem dX3_allQueued_38 : decode cX3_allQueued 38 = .ok (.iload_n 1, 1) := by decide +kernel
theorem dX3_allQueued_39 : decode cX3_allQueued 39 = .ok (.ireturn, 1) := by decide +kernel
theorem dX4_init_0 : decode cX4_init 0 = .ok (.aload_n 0, 1) := by decide +kernel
theorem dX4_init_1 : decode cX4_init 1 = .ok (.invokespecial 1, 3) := by decide +kernel
theorem dX4_init_4 : decode cX4_init 4 = .ok (.aload_n 0, 1) := by decide +kernel
theorem dX4_init_5 : decode cX4_init 5 = .ok (.aload_n 1, 1) := by decide +kernel
theorem dX4_init_6 : decode cX4_init 6 = .ok (.getfield 7, 3) := by decide +kernel
theorem dX4_init_9 : decode cX4_init 9 = .ok (.putfield 13, 3) := by decide +kernel
theorem dX4_init_12 : decode cX4_init 12 = .ok (.aload_n 0, 1) := by decide +kernel
theorem dX4_init_13 : decode cX4_init 13 = .ok (.aload_n 1, 1) := by decide +kernel
theorem dX4_init_14 : decode cX4_init 14 = .ok (.getfield 18, 3) := by decide +kernel
theorem dX4_init_17 : decode cX4_init 17 = .ok (.putfield 21, 3) := by decide +kernel
theorem dX4_init_20 : decode cX4_init 20 = .ok (.aload_n 0, 1) := by decide +kernel
theorem dX4_init_21 : decode cX4_init 21 = .ok (.aload_n 1, 1) := by decide +kernel
theorem dX4_init_22 : decode cX4_init 22 = .ok (.getfield 24, 3) := by decide +kernel
theorem dX4_init_25 : decode cX4_init 25 = .ok (.putfield 27, 3) := by decide +kernel
theorem dX4_init_28 : decode cX4_init 28 = .ok (.aload_n 0, 1) := by decide +kernel
theorem dX4_init_29 : decode cX4_init 29 = .ok (.iload_n 2, 1) := by decide +kernel
theorem dX4_init_30 : decode cX4_init 30 = .ok (.putfield 28, 3) := by decide +kernel
theorem dX4_init_33 : decode cX4_init 33 = .ok (.aload_n 0, 1) := by decide +kernel
theorem dX4_init_34 : decode cX4_init 34 = .ok (.aload_n 1, 1) := by decide +kernel
theorem dX4_init_35 : decode cX4_init 35 = .ok (.getfield 31, 3) := by decide +kernel
theorem dX4_init_38 : decode cX4_init 38 = .ok (.putfield 34, 3) := by decide +kernel
theorem dX4_init_41 : decode cX4_init 41 = .ok (.aload_n 0, 1) := by decide +kernel
theorem dX4_init_42 : decode cX4_init 42 = .ok (.iload_n 3, 1) := by decide +kernel
theorem dX4_init_43 : decode cX4_init 43 = .ok (.putfield 37, 3) := by decide +kernel
theorem dX4_init_46 : decode cX4_init 46 = .ok (.aload_n 0, 1) := by decide +kernel
theorem dX4_init_47 : decode cX4_init 47 = .ok (.aload_n 1, 1) := by decide +kernel
theorem dX4_init_48 : decode cX4_init 48 = .ok (.getfield 18, 3) := by decide +kernel
theorem dX4_init_51 : decode cX4_init 51 = .ok (.iload 4, 2) := by decide +kernel
theorem dX4_init_53 : decode cX4_init 53 = .ok (.imul, 1) := by decide +kernel
theorem dX4_init_54 : decode cX4_init 54 = .ok (.bipush 100, 2) := by decide +kernel
theorem dX4_init_56 : decode cX4_init 56 = .ok (.iload_n 2, 1) := by decide +kernel
theorem dX4_init_57 : decode cX4_init 57 = .ok (.isub, 1) := by decide +kernel
theorem dX4_init_58 : decode cX4_init 58 = .ok (.imul, 1) := by decide +kernel
theorem dX4_init_59 : decode cX4_init 59 = .ok (.sipush 10000, 3) := by decide +kernel
theorem dX4_init_62 : decode cX4_init 62 = .ok (.idiv, 1) := by decide +kernel
theorem dX4_init_63 : decode cX4_init 63 = .ok (.putfield 40, 3) := by decide +kernel
theorem dX4_init_66 : decode cX4_init 66 = .ok (.return_, 1) := by decide +kernel
theorem dX5_init_0 : decode cX5_init 0 = .ok (.aload_n 0, 1) := by decide +kernel
theorem dX5_init_1 : decode cX5_init 1 = .ok (.invokespecial 3, 3) := by decide +kernel
theorem dX5_init_4 : decode cX5_init 4 = .ok (.aload_n 0, 1) := by decide +kernel
theorem dX5_init_5 : decode cX5_init 5 = .ok (.iconst (-1), 1) := by decide +kernel
theorem dX5_init_6 : decode cX5_init 6 = .ok (.putfield 9, 3) := by decide +kernel
theorem dX5_init_9 : decode cX5_init 9 = .ok (.aload_n 0, 1) := by decide +kernel
theorem dX5_init_10 : decode cX5_init 10 = .ok (.iconst (-1), 1) := by decide +kernel
theorem dX5_init_11 : decode cX5_init 11 = .ok (.putfield 15, 3) := by decide +kernel
theorem dX5_init_14 : decode cX5_init 14 = .ok (.aload_n 0, 1) := by decide +kernel
theorem dX5_init_15 : decode cX5_init 15 = .ok (.iconst (-1), 1) := by decide +kernel
theorem dX5_init_16 : decode cX5_init 16 = .ok (.putfield 18, 3) := by decide +kernel
theorem dX5_init_19 : decode cX5_init 19 = .ok (.aload_n 0, 1) := by decide +kernel
theorem dX5_init_20 : decode cX5_init 20 = .ok (.iload_n 1, 1) := by decide +kernel
theorem dX5_init_21 : decode cX5_init 21 = .ok (.putfield 21, 3) := by decide +kernel
theorem dX5_init_24 : decode cX5_init 24 = .ok (.return_, 1) := by decide +kernel
theorem dX5_copyFrom_0 : decode cX5_copyFrom 0 = .ok (.aload_n 0, 1) := by decide +kernel
theorem dX5_copyFrom_1 : decode cX5_copyFrom 1 = .ok (.aload_n 1, 1) := by decide +kernel
theorem dX5_copyFrom_2 : decode cX5_copyFrom 2 = .ok (.getfield 21, 3) := by decide +kernel
theorem dX5_copyFrom_5 : decode cX5_copyFrom 5 = .ok (.putfield 21, 3) := by decide +kernel
theorem dX5_copyFrom_8 : decode cX5_copyFrom 8 = .ok (.aload_n 0, 1) := by decide +kernel
theorem dX5_copyFrom_9 : decode cX5_copyFrom 9 = .ok (.aload_n 1, 1) := by decide +kernel
theorem dX5_copyFrom_10 : decode cX5_copyFrom 10 = .ok (.getfield 24, 3) := by decide +kernel
theorem dX5_copyFrom_13 : decode cX5_copyFrom 13 = .ok (.putfield 24, 3) := by decide +kernel
theorem dX5_copyFrom_16 : decode cX5_copyFrom 16 = .ok (.aload_n 0, 1) := by decide +kernel
theorem dX5_copyFrom_17 : decode cX5_copyFrom 17 = .ok (.aload_n 1, 1) := by decide +kernel
theorem dX5_copyFrom_18 : decode cX5_copyFrom 18 = .ok (.getfield 27, 3) := by decide +kernel
theorem dX5_copyFrom_21 : decode cX5_copyFrom 21 = .ok (.putfield 27, 3) := by decide +kernel
theorem dX5_copyFrom_24 : decode cX5_copyFrom 24 = .ok (.aload_n 0, 1) := by decide +kernel
theorem dX5_copyFrom_25 : decode cX5_copyFrom 25 = .ok (.aload_n 1, 1) := by decide +kernel
theorem dX5_copyFrom_26 : decode cX5_copyFrom 26 = .ok (.getfield 9, 3) := by decide +kernel
theorem dX5_copyFrom_29 : decode cX5_copyFrom 29 = .ok (.putfield 9, 3) := by decide +kernel
theorem dX5_copyFrom_32 : decode cX5_copyFrom 32 = .ok (.aload_n 0, 1) := by decide +kernel
theorem dX5_copyFrom_33 : decode cX5_copyFrom 33 = .ok (.aload_n 1, 1) := by decide +kernel
theorem dX5_copyFrom_34 : decode cX5_copyFrom 34 = .ok (.getfield 30, 3) := by decide +kernel
theorem dX5_copyFrom_37 : decode cX5_copyFrom 37 = .ok (.putfield 30, 3) := by decide +kernel
theorem dX5_copyFrom_40 : decode cX5_copyFrom 40 = .ok (.aload_n 0, 1) := by decide +kernel
theorem dX5_copyFrom_41 : decode cX5_copyFrom 41 = .ok (.aload_n 1, 1) := by decide +kernel
theorem dX5_copyFrom_42 : decode cX5_copyFrom 42 = .ok (.getfield 33, 3) := by decide +kernel
theorem dX5_copyFrom_45 : decode cX5_copyFrom 45 = .ok (.putfield 33, 3) := by decide +kernel
theorem dX5_copyFrom_48 : decode cX5_copyFrom 48 = .ok (.aload_n 0, 1) := by decide +kernel
theorem dX5_copyFrom_49 : decode cX5_copyFrom 49 = .ok (.aload_n 1, 1) := by decide +kernel
theorem dX5_copyFrom_50 : decode cX5_copyFrom 50 = .ok (.getfield 36, 3) := by decide +kernel
theorem dX5_copyFrom_53 : decode cX5_copyFrom 53 = .ok (.putfield 36, 3) := by decide +kernel
theorem dX5_copyFrom_56 : decode cX5_copyFrom 56 = .ok (.aload_n 0, 1) := by decide +kernel
theorem dX5_copyFrom_57 : decode cX5_copyFrom 57 = .ok (.aload_n 1, 1) := by decide +kernel
theorem dX5_copyFrom_58 : decode cX5_copyFrom 58 = .ok (.getfield 15, 3) := by decide +kernel
theorem dX5_copyFrom_61 : decode cX5_copyFrom 61 = .ok (.putfield 15, 3) := by decide +kernel
theorem dX5_copyFrom_64 : decode cX5_copyFrom 64 = .ok (.aload_n 0, 1) := by decide +kernel
theorem dX5_copyFrom_65 : decode cX5_copyFrom 65 = .ok (.aload_n 1, 1) := by decide +kernel
theorem dX5_copyFrom_66 : decode cX5_copyFrom 66 = .ok (.getfield 18, 3) := by decide +kernel
theorem dX5_copyFrom_69 : decode cX5_copyFrom 69 = .ok (.putfield 18, 3) := by decide +kernel
theorem dX5_copyFrom_72 : decode cX5_copyFrom 72 = .ok (.aload_n 0, 1) := by decide +kernel
theorem dX5_copyFrom_73 : decode cX5_copyFrom 73 = .ok (.aload_n 1, 1) := by decide +kernel
theorem dX5_copyFrom_74 : decode cX5_copyFrom 74 = .ok (.getfield 39, 3) := by decide +kernel
theorem dX5_copyFrom_77 : decode cX5_copyFrom 77 = .ok (.putfield 39, 3) := by decide +kernel
theorem dX5_copyFrom_80 : decode cX5_copyFrom 80 = .ok (.return_, 1) := by decide +kernel
theorem dX5_mustRest_0 : decode cX5_mustRest 0 = .ok (.aload_n 0, 1) := by decide +kernel
theorem dX5_mustRest_1 : decode cX5_mustRest 1 = .ok (.getfield 15, 3) := by decide +kernel
theorem dX5_mustRest_4 : decode cX5_mustRest 4 = .ok (.iconst (-1), 1) := by decide +kernel
theorem dX5_mustRest_5 : decode cX5_mustRest 5 = .ok (.if_icmp .ne 11, 3) := by decide +kernel
theorem dX5_mustRest_8 : decode cX5_mustRest 8 = .ok (.aload_n 0, 1) := by decide +kernel
theorem dX5_mustRest_9 : decode cX5_mustRest 9 = .ok (.getfield 18, 3) := by decide +kernel
theorem dX5_mustRest_12 : decode cX5_mustRest 12 = .ok (.iconst (-1), 1) := by decide +kernel
theorem dX5_mustRest_13 : decode cX5_mustRest 13 = .ok (.if_icmp .eq 7, 3) := by decide +kernel
theorem dX5_mustRest_16 : decode cX5_mustRest 16 = .ok (.iconst 1, 1) := by decide +kernel
theorem dX5_mustRest_17 : decode cX5_mustRest 17 = .ok (.goto 4, 3) := by decide +kernel
theorem dX5_mustRest_20 : decode cX5_mustRest 20 = .ok (.iconst 0, 1) := by decide +kernel
theorem dX5_mustRest_21 : decode cX5_mustRest 21 = .ok (.istore_n 1, 1) := by decide +kernel
theorem dX5_mustRest_22 : decode cX5_mustRest 22 = .ok (.aload_n 0, 1) := by decide +kernel
theorem dX5_mustRest_23 : decode cX5_mustRest 23 = .ok (.getfield 24, 3) := by decide +kernel
theorem dX5_mustRest_26 : decode cX5_mustRest 26 = .ok (.bipush 10, 2) := by decide +kernel
theorem dX5_mustRest_28 : decode cX5_mustRest 28 = .ok (.if_icmp .ge 14, 3) := by decide +kernel
theorem dX5_mustRest_31 : decode cX5_mustRest 31 = .ok (.iload_n 1, 1) := by decide +kernel
theorem dX5_mustRest_32 : decode cX5_mustRest 32 = .ok (.ifCond .ne 14, 3) := by decide +kernel
theorem dX5_mustRest_35 : decode cX5_mustRest 35 = .ok (.aload_n 0, 1) := by decide +kernel
theorem dX5_mustRest_36 : decode cX5_mustRest 36 = .ok (.getfield 24, 3) := by decide +kernel
theorem dX5_mustRest_39 : decode cX5_mustRest 39 = .ok (.ifCond .le 7, 3) := by decide +kernel
theorem dX5_mustRest_42 : decode cX5_mustRest 42 = .ok (.iconst 1, 1) := by decide +kernel
theorem dX5_mustRest_43 : decode cX5_mustRest 43 = .ok (.goto 4, 3) := by decide +kernel
theorem dX5_mustRest_46 : decode cX5_mustRest 46 = .ok (.iconst 0, 1) := by decide +kernel
theorem dX5_mustRest_47 : decode cX5_mustRest 47 = .ok (.ireturn, 1) := by decide +kernel
theorem dX5_sleepHour_0 : decode cX5_sleepHour 0 = .ok (.aload_n 0, 1) := by decide +kernel
theorem dX5_sleepHour_1 : decode cX5_sleepHour 1 = .ok (.dup, 1) := by decide +kernel
theorem dX5_sleepHour_2 : decode cX5_sleepHour 2 = .ok (.getfield 33, 3) := by decide +kernel
theorem dX5_sleepHour_5 : decode cX5_sleepHour 5 = .ok (.iconst 1, 1) := by decide +kernel
theorem dX5_sleepHour_6 : decode cX5_sleepHour 6 = .ok (.iadd, 1) := by decide +kernel
theorem dX5_sleepHour_7 : decode cX5_sleepHour 7 = .ok (.putfield 33, 3) := by decide +kernel
theorem dX5_sleepHour_10 : decode cX5_sleepHour 10 = .ok (.aload_n 0, 1) := by decide +kernel
theorem dX5_sleepHour_11 : decode cX5_sleepHour 11 = .ok (.getfield 33, 3) := by decide +kernel
theorem dX5_sleepHour_14 : decode cX5_sleepHour 14 = .ok (.bipush 8, 2) := by decide +kernel
theorem dX5_sleepHour_16 : decode cX5_sleepHour 16 = .ok (.if_icmp .lt 13, 3) := by decide +kernel
theorem dX5_sleepHour_19 : decode cX5_sleepHour 19 = .ok (.aload_n 0, 1) := by decide +kernel
theorem dX5_sleepHour_20 : decode cX5_sleepHour 20 = .ok (.iconst 0, 1) := by decide +kernel
theorem dX5_sleepHour_21 : decode cX5_sleepHour 21 = .ok (.putfield 33, 3) := by decide +kernel
theorem dX5_sleepHour_24 : decode cX5_sleepHour 24 = .ok (.aload_n 0, 1) := by decide +kernel
theorem dX5_sleepHour_25 : decode cX5_sleepHour 25 = .ok (.iconst 0, 1) := by decide +kernel
theorem dX5_sleepHour_26 : decode cX5_sleepHour 26 = .ok (.putfield 24, 3) := by decide +kernel
theorem dX5_sleepHour_29 : decode cX5_sleepHour 29 = .ok (.return_, 1) := by decide +kernel
theorem dX5_drive_0 : decode cX5_drive 0 = .ok (.aload_n 0, 1) := by decide +kernel
theorem dX5_drive_1 : decode cX5_drive 1 = .ok (.getfield 21, 3) := by decide +kernel
theorem dX5_drive_4 : decode cX5_drive 4 = .ok (.iload_n 1, 1) := by decide +kernel
theorem dX5_drive_5 : decode cX5_drive 5 = .ok (.bipush 50, 2) := by decide +kernel
theorem dX5_drive_7 : decode cX5_drive 7 = .ok (.invokestatic 42, 3) := by decide +kernel
theorem dX5_drive_10 : decode cX5_drive 10 = .ok (.istore_n 2, 1) := by decide +kernel
theorem dX5_drive_11 : decode cX5_drive 11 = .ok (.aload_n 0, 1) := by decide +kernel
theorem dX5_drive_12 : decode cX5_drive 12 = .ok (.dup, 1) := by decide +kernel
theorem dX5_drive_13 : decode cX5_drive 13 = .ok (.getfield 39, 3) := by decide +kernel
theorem dX5_drive_16 : decode cX5_drive 16 = .ok (.iload_n 2, 1) := by decide +kernel
theorem dX5_drive_17 : decode cX5_drive 17 = .ok (.aload_n 0, 1) := by decide +kernel
theorem dX5_drive_18 : decode cX5_drive 18 = .ok (.getfield 21, 3) := by decide +kernel
theorem dX5_drive_21 : decode cX5_drive 21 = .ok (.isub, 1) := by decide +kernel
theorem dX5_drive_22 : decode cX5_drive 22 = .ok (.invokestatic 46, 3) := by decide +kernel
theorem dX5_drive_25 : decode cX5_drive 25 = .ok (.iadd, 1) := by decide +kernel
theorem dX5_drive_26 : decode cX5_drive 26 = .ok (.putfield 39, 3) := by decide +kernel
theorem dX5_drive_29 : decode cX5_drive 29 = .ok (.aload_n 0, 1) := by decide +kernel
theorem dX5_drive_30 : decode cX5_drive 30 = .ok (.iload_n 2, 1) := by decide +kernel
theorem dX5_drive_31 : decode cX5_drive 31 = .ok (.putfield 21, 3) := by decide +kernel
theorem dX5_drive_34 : decode cX5_drive 34 = .ok (.aload_n 0, 1) := by decide +kernel
theorem dX5_drive_35 : decode cX5_drive 35 = .ok (.dup, 1) := by decide +kernel
theorem dX5_drive_36 : decode cX5_drive 36 = .ok (.getfield 24, 3) := by decide +kernel
theorem dX5_drive_39 : decode cX5_drive 39 = .ok (.iconst 1, 1) := by decide +kernel
theorem dX5_drive_40 : decode cX5_drive 40 = .ok (.iadd, 1) := by decide +kernel
theorem dX5_drive_41 : decode cX5_drive 41 = .ok (.putfield 24, 3) := by decide +kernel
theorem dX5_drive_44 : decode cX5_drive 44 = .ok (.aload_n 0, 1) := by decide +kernel
theorem dX5_drive_45 : decode cX5_drive 45 = .ok (.iconst 0, 1) := by decide +kernel
theorem dX5_drive_46 : decode cX5_drive 46 = .ok (.putfield 33, 3) := by decide +kernel
theorem dX5_drive_49 : decode cX5_drive 49 = .ok (.return_, 1) := by decide +kernel
theorem dX5_takeFrom_0 : decode cX5_takeFrom 0 = .ok (.aload_n 0, 1) := by decide +kernel
theorem dX5_takeFrom_1 : decode cX5_takeFrom 1 = .ok (.getfield 27, 3) := by decide +kernel
theorem dX5_takeFrom_4 : decode cX5_takeFrom 4 = .ok (.ifCond .le 15, 3) := by decide +kernel
theorem dX5_takeFrom_7 : decode cX5_takeFrom 7 = .ok (.aload_n 0, 1) := by decide +kernel
theorem dX5_takeFrom_8 : decode cX5_takeFrom 8 = .ok (.getfield 9, 3) := by decide +kernel
theorem dX5_takeFrom_11 : decode cX5_takeFrom 11 = .ok (.aload_n 1, 1) := by decide +kernel
theorem dX5_takeFrom_12 : decode cX5_takeFrom 12 = .ok (.getfield 52, 3) := by decide +kernel
theorem dX5_takeFrom_15 : decode cX5_takeFrom 15 = .ok (.if_icmp .eq 4, 3) := by decide +kernel
theorem dX5_takeFrom_18 : decode cX5_takeFrom 18 = .ok (.return_, 1) := by decide +kernel
theorem dX5_takeFrom_19 : decode cX5_takeFrom 19 = .ok (.aload_n 1, 1) := by decide +kernel
theorem dX5_takeFrom_20 : decode cX5_takeFrom 20 = .ok (.getfield 57, 3) := by decide +kernel
theorem dX5_takeFrom_23 : decode cX5_takeFrom 23 = .ok (.sipush 800, 3) := by decide +kernel
theorem dX5_takeFrom_26 : decode cX5_takeFrom 26 = .ok (.aload_n 0, 1) := by decide +kernel
theorem dX5_takeFrom_27 : decode cX5_takeFrom 27 = .ok (.getfield 27, 3) := by decide +kernel
theorem dX5_takeFrom_30 : decode cX5_takeFrom 30 = .ok (.isub, 1) := by decide +kernel
theorem dX5_takeFrom_31 : decode cX5_takeFrom 31 = .ok (.invokestatic 60, 3) := by decide +kernel
theorem dX5_takeFrom_34 : decode cX5_takeFrom 34 = .ok (.istore_n 2, 1) := by decide +kernel
theorem dX5_takeFrom_35 : decode cX5_takeFrom 35 = .ok (.iload_n 2, 1) := by decide +kernel
theorem dX5_takeFrom_36 : decode cX5_takeFrom 36 = .ok (.ifCond .le 60, 3) := by decide +kernel
theorem dX5_takeFrom_39 : decode cX5_takeFrom 39 = .ok (.aload_n 0, 1) := by decide +kernel
theorem dX5_takeFrom_40 : decode cX5_takeFrom 40 = .ok (.aload_n 0, 1) := by decide +kernel
theorem dX5_takeFrom_41 : decode cX5_takeFrom 41 = .ok (.getfield 27, 3) := by decide +kernel
theorem dX5_takeFrom_44 : decode cX5_takeFrom 44 = .ok (.ifCond .le 17, 3) := by decide +kernel
theorem dX5_takeFrom_47 : decode cX5_takeFrom 47 = .ok (.aload_n 0, 1) := by decide +kernel
theorem dX5_takeFrom_48 : decode cX5_takeFrom 48 = .ok (.getfield 30, 3) := by decide +kernel
theorem dX5_takeFrom_51 : decode cX5_takeFrom 51 = .ok (.aload_n 1, 1) := by decide +kernel
theorem dX5_takeFrom_52 : decode cX5_takeFrom 52 = .ok (.getfield 64, 3) := by decide +kernel
theorem dX5_takeFrom_55 : decode cX5_takeFrom 55 = .ok (.invokestatic 67, 3) := by decide +kernel
theorem dX5_takeFrom_58 : decode cX5_takeFrom 58 = .ok (.goto 7, 3) := by decide +kernel
theorem dX5_takeFrom_61 : decode cX5_takeFrom 61 = .ok (.aload_n 1, 1) := by decide +kernel
theorem dX5_takeFrom_62 : decode cX5_takeFrom 62 = .ok (.getfield 64, 3) := by decide +kernel
theorem dX5_takeFrom_65 : decode cX5_takeFrom 65 = .ok (.putfield 30, 3) := by decide +kernel
theorem dX5_takeFrom_68 : decode cX5_takeFrom 68 = .ok (.aload_n 0, 1) := by decide +kernel
theorem dX5_takeFrom_69 : decode cX5_takeFrom 69 = .ok (.aload_n 1, 1) := by decide +kernel
theorem dX5_takeFrom_70 : decode cX5_takeFrom 70 = .ok (.getfield 52, 3) := by decide +kernel
theorem dX5_takeFrom_73 : decode cX5_takeFrom 73 = .ok (.putfield 9, 3) := by decide +kernel
theorem dX5_takeFrom_76 : decode cX5_takeFrom 76 = .ok (.aload_n 0, 1) := by decide +kernel
theorem dX5_takeFrom_77 : decode cX5_takeFrom 77 = .ok (.dup, 1) := by decide +kernel
theorem dX5_takeFrom_78 : decode cX5_takeFrom 78 = .ok (.getfield 27, 3) := by decide +kernel
theorem dX5_takeFrom_81 : decode cX5_takeFrom 81 = .ok (.iload_n 2, 1) := by decide +kernel
theorem dX5_takeFrom_82 : decode cX5_takeFrom 82 = .ok (.iadd, 1) := by decide +kernel
theorem dX5_takeFrom_83 : decode cX5_takeFrom 83 = .ok (.putfield 27, 3) := by decide +kernel
theorem dX5_takeFrom_86 : decode cX5_takeFrom 86 = .ok (.aload_n 1, 1) := by decide +kernel
theorem dX5_takeFrom_87 : decode cX5_takeFrom 87 = .ok (.dup, 1) := by decide +kernel
theorem dX5_takeFrom_88 : decode cX5_takeFrom 88 = .ok (.getfield 57, 3) := by decide +kernel
theorem dX5_takeFrom_91 : decode cX5_takeFrom 91 = .ok (.iload_n 2, 1) := by decide +kernel
theorem dX5_takeFrom_92 : decode cX5_takeFrom 92 = .ok (.isub, 1) := by decide +kernel
theorem dX5_takeFrom_93 : decode cX5_takeFrom 93 = .ok (.putfield 57, 3) := by decide +kernel
theorem dX5_takeFrom_96 : decode cX5_takeFrom 96 = .ok (.return_, 1) := by decide +kernel
theorem dX6_init_0 : decode cX6_init 0 = .ok (.aload_n 0, 1) := by decide +kernel
theorem dX6_init_1 : decode cX6_init 1 = .ok (.invokespecial 1, 3) := by decide +kernel
theorem dX6_init_4 : decode cX6_init 4 = .ok (.aload_n 0, 1) := by decide +kernel
theorem dX6_init_5 : decode cX6_init 5 = .ok (.new 7, 3) := by decide +kernel
theorem dX6_init_8 : decode cX6_init 8 = .ok (.dup, 1) := by decide +kernel
theorem dX6_init_9 : decode cX6_init 9 = .ok (.iconst 0, 1) := by decide +kernel
theorem dX6_init_10 : decode cX6_init 10 = .ok (.invokespecial 9, 3) := by decide +kernel
theorem dX6_init_13 : decode cX6_init 13 = .ok (.putfield 12, 3) := by decide +kernel
theorem dX6_init_16 : decode cX6_init 16 = .ok (.aload_n 0, 1) := by decide +kernel
theorem dX6_init_17 : decode cX6_init 17 = .ok (.new 7, 3) := by decide +kernel
theorem dX6_init_20 : decode cX6_init 20 = .ok (.dup, 1) := by decide +kernel
theorem dX6_init_21 : decode cX6_init 21 = .ok (.iconst 1, 1) := by decide +kernel
theorem dX6_init_22 : decode cX6_init 22 = .ok (.invokespecial 9, 3) := by decide +kernel
theorem dX6_init_25 : decode cX6_init 25 = .ok (.putfield 18, 3) := by decide +kernel
theorem dX6_init_28 : decode cX6_init 28 = .ok (.aload_n 0, 1) := by decide +kernel
theorem dX6_init_29 : decode cX6_init 29 = .ok (.new 21, 3) := by decide +kernel
theorem dX6_init_32 : decode cX6_init 32 = .ok (.dup, 1) := by decide +kernel
theorem dX6_init_33 : decode cX6_init 33 = .ok (.iconst 0, 1) := by decide +kernel
theorem dX6_init_34 : decode cX6_init 34 = .ok (.iconst 0, 1) := by decide +kernel
theorem dX6_init_35 : decode cX6_init 35 = .ok (.iconst 0, 1) := by decide +kernel
theorem dX6_init_36 : decode cX6_init 36 = .ok (.iconst 0, 1) := by decide +kernel
theorem dX6_init_37 : decode cX6_init 37 = .ok (.iconst 0, 1) := by decide +kernel
theorem dX6_init_38 : decode cX6_init 38 = .ok (.invokespecial 23, 3) := by decide +kernel
theorem dX6_init_41 : decode cX6_init 41 = .ok (.putfield 26, 3) := by decide +kernel
theorem dX6_init_44 : decode cX6_init 44 = .ok (.return_, 1) := by decide +kernel
theorem dX6_field_0 : decode cX6_field 0 = .ok (.iload_n 1, 1) := by decide +kernel
theorem dX6_field_1 : decode cX6_field 1 = .ok (.iconst 0, 1) := by decide +kernel
theorem dX6_field_2 : decode cX6_field 2 = .ok (.iconst 3, 1) := by decide +kernel
theorem dX6_field_3 : decode cX6_field 3 = .ok (.invokestatic 30, 3) := by decide +kernel
theorem dX6_field_6 : decode cX6_field 6 = .ok (.ifCond .eq 13, 3) := by decide +kernel
theorem dX6_field_9 : decode cX6_field 9 = .ok (.new 34, 3) := by decide +kernel
theorem dX6_field_12 : decode cX6_field 12 = .ok (.dup, 1) := by decide +kernel
theorem dX6_field_13 : decode cX6_field 13 = .ok (.ldc 36, 2) := by decide +kernel
theorem dX6_field_15 : decode cX6_field 15 = .ok (.invokespecial 38, 3) := by decide +kernel
theorem dX6_field_18 : decode cX6_field 18 = .ok (.athrow, 1) := by decide +kernel
theorem dX6_field_19 : decode cX6_field 19 = .ok (.iload_n 2, 1) := by decide +kernel
theorem dX6_field_20 : decode cX6_field 20 = .ok (.iconst 0, 1) := by decide +kernel
theorem dX6_field_21 : decode cX6_field 21 = .ok (.sipush 300, 3) := by decide +kernel
theorem dX6_field_24 : decode cX6_field 24 = .ok (.invokestatic 30, 3) := by decide +kernel
theorem dX6_field_27 : decode cX6_field 27 = .ok (.ifCond .ne 37, 3) := by decide +kernel
theorem dX6_field_30 : decode cX6_field 30 = .ok (.iload_n 3, 1) := by decide +kernel
theorem dX6_field_31 : decode cX6_field 31 = .ok (.iconst 1, 1) := by decide +kernel
theorem dX6_field_32 : decode cX6_field 32 = .ok (.sipush 200, 3) := by decide +kernel
theorem dX6_field_35 : decode cX6_field 35 = .ok (.invokestatic 30, 3) := by decide +kernel
theorem dX6_field_38 : decode cX6_field 38 = .ok (.ifCond .ne 26, 3) := by decide +kernel
theorem dX6_field_41 : decode cX6_field 41 = .ok (.iload 4, 2) := by decide +kernel
theorem dX6_field_43 : decode cX6_field 43 = .ok (.bipush 10, 2) := by decide +kernel
theorem dX6_field_45 : decode cX6_field 45 = .ok (.bipush 90, 2) := by decide +kernel
theorem dX6_field_47 : decode cX6_field 47 = .ok (.invokestatic 30, 3) := by decide +kernel
theorem dX6_field_50 : decode cX6_field 50 = .ok (.ifCond .ne 14, 3) := by decide +kernel
theorem dX6_field_53 : decode cX6_field 53 = .ok (.iload 5, 2) := by decide +kernel
theorem dX6_field_55 : decode cX6_field 55 = .ok (.iconst 0, 1) := by decide +kernel
theorem dX6_field_56 : decode cX6_field 56 = .ok (.bipush 50, 2) := by decide +kernel
theorem dX6_field_58 : decode cX6_field 58 = .ok (.invokestatic 30, 3) := by decide +kernel
theorem dX6_field_61 : decode cX6_field 61 = .ok (.ifCond .eq 13, 3) := by decide +kernel
theorem dX6_field_64 : decode cX6_field 64 = .ok (.new 41, 3) := by decide +kernel
theorem dX6_field_67 : decode cX6_field 67 = .ok (.dup, 1) := by decide +kernel
theorem dX6_field_68 : decode cX6_field 68 = .ok (.ldc 43, 2) := by decide +kernel
theorem dX6_field_70 : decode cX6_field 70 = .ok (.invokespecial 45, 3) := by decide +kernel
theorem dX6_field_73 : decode cX6_field 73 = .ok (.athrow, 1) := by decide +kernel
theorem dX6_field_74 : decode cX6_field 74 = .ok (.aload_n 0, 1) := by decide +kernel
theorem dX6_field_75 : decode cX6_field 75 = .ok (.getfield 12, 3) := by decide +kernel
theorem dX6_field_78 : decode cX6_field 78 = .ok (.getfield 46, 3) := by decide +kernel
theorem dX6_field_81 : decode cX6_field 81 = .ok (.invokevirtual 50, 3) := by decide +kernel
theorem dX6_field_84 : decode cX6_field 84 = .ok (.bipush 8, 2) := by decide +kernel
theorem dX6_field_86 : decode cX6_field 86 = .ok (.if_icmp .lt 13, 3) := by decide +kernel
theorem dX6_field_89 : decode cX6_field 89 = .ok (.new 56, 3) := by decide +kernel
theorem dX6_field_92 : decode cX6_field 92 = .ok (.dup, 1) := by decide +kernel
theorem dX6_field_93 : decode cX6_field 93 = .ok (.ldc 58, 2) := by decide +kernel
theorem dX6_field_95 : decode cX6_field 95 = .ok (.invokespecial 60, 3) := by decide +kernel
theorem dX6_field_98 : decode cX6_field 98 = .ok (.athrow, 1) := by decide +kernel
theorem dX6_field_99 : decode cX6_field 99 = .ok (.aload_n 0, 1) := by decide +kernel
theorem dX6_field_100 : decode cX6_field 100 = .ok (.getfield 12, 3) := by decide +kernel
theorem dX6_field_103 : decode cX6_field 103 = .ok (.getfield 46, 3) := by decide +kernel
theorem dX6_field_106 : decode cX6_field 106 = .ok (.new 21, 3) := by decide +kernel
theorem dX6_field_109 : decode cX6_field 109 = .ok (.dup, 1) := by decide +kernel
theorem dX6_field_110 : decode cX6_field 110 = .ok (.iload_n 1, 1) := by decide +kernel
theorem dX6_field_111 : decode cX6_field 111 = .ok (.iload_n 2, 1) := by decide +kernel
theorem dX6_field_112 : decode cX6_field 112 = .ok (.iload_n 3, 1) := by decide +kernel
theorem dX6_field_113 : decode cX6_field 113 = .ok (.iload 4, 2) := by decide +kernel
theorem dX6_field_115 : decode cX6_field 115 = .ok (.iload 5, 2) := by decide +kernel
theorem dX6_field_117 : decode cX6_field 117 = .ok (.invokespecial 23, 3) := by decide +kernel
theorem dX6_field_120 : decode cX6_field 120 = .ok (.invokevirtual 61, 3) := by decide +kernel
theorem dX6_field_123 : decode cX6_field 123 = .ok (.pop, 1) := by decide +kernel
theorem dX6_field_124 : decode cX6_field 124 = .ok (.aload_n 0, 1) := by decide +kernel
theorem dX6_field_125 : decode cX6_field 125 = .ok (.getfield 12, 3) := by decide +kernel
theorem dX6_field_128 : decode cX6_field 128 = .ok (.getfield 46, 3) := by decide +kernel
theorem dX6_field_131 : decode cX6_field 131 = .ok (.invokevirtual 50, 3) := by decide +kernel
theorem dX6_field_134 : decode cX6_field 134 = .ok (.iconst 1, 1) := by decide +kernel
theorem dX6_field_135 : decode cX6_field 135 = .ok (.isub, 1) := by decide +kernel
theorem dX6_field_136 : decode cX6_field 136 = .ok (.ireturn, 1) := by decide +kernel
theorem dX6_crop_0 : decode cX6_crop 0 = .ok (.aload_n 0, 1) := by decide +kernel
theorem dX6_crop_1 : decode cX6_crop 1 = .ok (.getfield 12, 3) := by decide +kernel
theorem dX6_crop_4 : decode cX6_crop 4 = .ok (.iload_n 1, 1) := by decide +kernel
theorem dX6_crop_5 : decode cX6_crop 5 = .ok (.invokevirtual 65, 3) := by decide +kernel
theorem dX6_crop_8 : decode cX6_crop 8 = .ok (.astore 4, 2) := by decide +kernel
theorem dX6_crop_10 : decode cX6_crop 10 = .ok (.aload 4, 2) := by decide +kernel
theorem dX6_crop_12 : decode cX6_crop 12 = .ok (.ifnonnull 13, 3) := by decide +kernel
theorem dX6_crop_15 : decode cX6_crop 15 = .ok (.new 34, 3) := by decide +kernel
theorem dX6_crop_18 : decode cX6_crop 18 = .ok (.dup, 1) := by decide +kernel
theorem dX6_crop_19 : decode cX6_crop 19 = .ok (.ldc 69, 2) := by decide +kernel
theorem dX6_crop_21 : decode cX6_crop 21 = .ok (.invokespecial 38, 3) := by decide +kernel
theorem dX6_crop_24 : decode cX6_crop 24 = .ok (.athrow, 1) := by decide +kernel
theorem dX6_crop_25 : decode cX6_crop 25 = .ok (.iload_n 2, 1) := by decide +kernel
theorem dX6_crop_26 : decode cX6_crop 26 = .ok (.iconst 0, 1) := by decide +kernel
theorem dX6_crop_27 : decode cX6_crop 27 = .ok (.bipush 100, 2) := by decide +kernel
theorem dX6_crop_29 : decode cX6_crop 29 = .ok (.invokestatic 30, 3) := by decide +kernel
theorem dX6_crop_32 : decode cX6_crop 32 = .ok (.ifCond .ne 13, 3) := by decide +kernel
theorem dX6_crop_35 : decode cX6_crop 35 = .ok (.iload_n 3, 1) := by decide +kernel
theorem dX6_crop_36 : decode cX6_crop 36 = .ok (.iconst 5, 1) := by decide +kernel
theorem dX6_crop_37 : decode cX6_crop 37 = .ok (.bipush 40, 2) := by decide +kernel
theorem dX6_crop_39 : decode cX6_crop 39 = .ok (.invokestatic 30, 3) := by decide +kernel
theorem dX6_crop_42 : decode cX6_crop 42 = .ok (.ifCond .eq 13, 3) := by decide +kernel
theorem dX6_crop_45 : decode cX6_crop 45 = .ok (.new 41, 3) := by decide +kernel
theorem dX6_crop_48 : decode cX6_crop 48 = .ok (.dup, 1) := by decide +kernel
theorem dX6_crop_49 : decode cX6_crop 49 = .ok (.ldc 71, 2) := by decide +kernel
theorem dX6_crop_51 : decode cX6_crop 51 = .ok (.invokespecial 45, 3) := by decide +kernel
theorem dX6_crop_54 : decode cX6_crop 54 = .ok (.athrow, 1) := by decide +kernel
theorem dX6_crop_55 : decode cX6_crop 55 = .ok (.aload 4, 2) := by decide +kernel
theorem dX6_crop_57 : decode cX6_crop 57 = .ok (.getfield 73, 3) := by decide +kernel
theorem dX6_crop_60 : decode cX6_crop 60 = .ok (.istore 5, 2) := by decide +kernel
theorem dX6_crop_62 : decode cX6_crop 62 = .ok (.aload 4, 2) := by decide +kernel
theorem dX6_crop_64 : decode cX6_crop 64 = .ok (.iload_n 2, 1) := by decide +kernel
theorem dX6_crop_65 : decode cX6_crop 65 = .ok (.putfield 73, 3) := by decide +kernel
theorem dX6_crop_68 : decode cX6_crop 68 = .ok (.aload 4, 2) := by decide +kernel
theorem dX6_crop_70 : decode cX6_crop 70 = .ok (.iload_n 3, 1) := by decide +kernel
theorem dX6_crop_71 : decode cX6_crop 71 = .ok (.putfield 77, 3) := by decide +kernel
theorem dX6_crop_74 : decode cX6_crop 74 = .ok (.iload 5, 2) := by decide +kernel
theorem dX6_crop_76 : decode cX6_crop 76 = .ok (.ireturn, 1) := by decide +kernel
theorem dX6_combine_0 : decode cX6_combine 0 = .ok (.iload_n 1, 1) := by decide +kernel
theorem dX6_combine_1 : decode cX6_combine 1 = .ok (.iconst 0, 1) := by decide +kernel
theorem dX6_combine_2 : decode cX6_combine 2 = .ok (.sipush 300, 3) := by decide +kernel
theorem dX6_combine_5 : decode cX6_combine 5 = .ok (.invokestatic 30, 3) := by decide +kernel
theorem dX6_combine_8 : decode cX6_combine 8 = .ok (.ifCond .ne 13, 3) := by decide +kernel
theorem dX6_combine_11 : decode cX6_combine 11 = .ok (.iload_n 2, 1) := by decide +kernel
theorem dX6_combine_12 : decode cX6_combine 12 = .ok (.iconst 1, 1) := by decide +kernel
theorem dX6_combine_13 : decode cX6_combine 13 = .ok (.bipush 20, 2) := by decide +kernel
theorem dX6_combine_15 : decode cX6_combine 15 = .ok (.invokestatic 30, 3) := by decide +kernel
theorem dX6_combine_18 : decode cX6_combine 18 = .ok (.ifCond .eq 13, 3) := by decide +kernel
theorem dX6_combine_21 : decode cX6_combine 21 = .ok (.new 41, 3) := by decide +kernel
theorem dX6_combine_24 : decode cX6_combine 24 = .ok (.dup, 1) := by decide +kernel
theorem dX6_combine_25 : decode cX6_combine 25 = .ok (.ldc 80, 2) := by decide +kernel
theorem dX6_combine_27 : decode cX6_combine 27 = .ok (.invokespecial 45, 3) := by decide +kernel
theorem dX6_combine_30 : decode cX6_combine 30 = .ok (.athrow, 1) := by decide +kernel
theorem dX6_combine_31 : decode cX6_combine 31 = .ok (.aload_n 0, 1) := by decide +kernel
theorem dX6_combine_32 : decode cX6_combine 32 = .ok (.getfield 12, 3) := by decide +kernel
theorem dX6_combine_35 : decode cX6_combine 35 = .ok (.getfield 82, 3) := by decide +kernel
theorem dX6_combine_38 : decode cX6_combine 38 = .ok (.invokevirtual 50, 3) := by decide +kernel
theorem dX6_combine_41 : decode cX6_combine 41 = .ok (.iconst 4, 1) := by decide +kernel
theorem dX6_combine_42 : decode cX6_combine 42 = .ok (.if_icmp .lt 13, 3) := by decide +kernel
theorem dX6_combine_45 : decode cX6_combine 45 = .ok (.new 56, 3) := by decide +kernel
theorem dX6_combine_48 : decode cX6_combine 48 = .ok (.dup, 1) := by decide +kernel
theorem dX6_combine_49 : decode cX6_combine 49 = .ok (.ldc 85, 2) := by decide +kernel
theorem dX6_combine_51 : decode cX6_combine 51 = .ok (.invokespecial 60, 3) := by decide +kernel
theorem dX6_combine_54 : decode cX6_combine 54 = .ok (.athrow, 1) := by decide +kernel
theorem dX6_combine_55 : decode cX6_combine 55 = .ok (.aload_n 0, 1) := by decide +kernel
theorem dX6_combine_56 : decode cX6_combine 56 = .ok (.getfield 12, 3) := by decide +kernel
theorem dX6_combine_59 : decode cX6_combine 59 = .ok (.getfield 82, 3) := by decide +kernel
theorem dX6_combine_62 : decode cX6_combine 62 = .ok (.new 87, 3) := by decide +kernel
theorem dX6_combine_65 : decode cX6_combine 65 = .ok (.dup, 1) := by decide +kernel
theorem dX6_combine_66 : decode cX6_combine 66 = .ok (.aload_n 0, 1) := by decide +kernel
theorem dX6_combine_67 : decode cX6_combine 67 = .ok (.getfield 12, 3) := by decide +kernel
theorem dX6_combine_70 : decode cX6_combine 70 = .ok (.getfield 82, 3) := by decide +kernel
theorem dX6_combine_73 : decode cX6_combine 73 = .ok (.invokevirtual 50, 3) := by decide +kernel
theorem dX6_combine_76 : decode cX6_combine 76 = .ok (.iload_n 1, 1) := by decide +kernel
theorem dX6_combine_77 : decode cX6_combine 77 = .ok (.iload_n 2, 1) := by decide +kernel
theorem dX6_combine_78 : decode cX6_combine 78 = .ok (.invokespecial 89, 3) := by decide +kernel
theorem dX6_combine_81 : decode cX6_combine 81 = .ok (.invokevirtual 61, 3) := by decide +kernel
theorem dX6_combine_84 : decode cX6_combine 84 = .ok (.pop, 1) := by decide +kernel
theorem dX6_combine_85 : decode cX6_combine 85 = .ok (.aload_n 0, 1) := by decide +kernel
theorem dX6_combine_86 : decode cX6_combine 86 = .ok (.getfield 12, 3) := by decide +kernel
theorem dX6_combine_89 : decode cX6_combine 89 = .ok (.getfield 82, 3) := by decide +kernel
theorem dX6_combine_92 : decode cX6_combine 92 = .ok (.invokevirtual 50, 3) := by decide +kernel
theorem dX6_combine_95 : decode cX6_combine 95 = .ok (.iconst 1, 1) := by decide +kernel
theorem dX6_combine_96 : decode cX6_combine 96 = .ok (.isub, 1) := by decide +kernel
theorem dX6_combine_97 : decode cX6_combine 97 = .ok (.ireturn, 1) := by decide +kernel
theorem dX6_truck_0 : decode cX6_truck 0 = .ok (.iload_n 1, 1) := by decide +kernel
theorem dX6_truck_1 : decode cX6_truck 1 = .ok (.iconst 0, 1) := by decide +kernel
theorem dX6_truck_2 : decode cX6_truck 2 = .ok (.sipush 300, 3) := by decide +kernel
theorem dX6_truck_5 : decode cX6_truck 5 = .ok (.invokestatic 30, 3) := by decide +kernel
theorem dX6_truck_8 : decode cX6_truck 8 = .ok (.ifCond .eq 13, 3) := by decide +kernel
theorem dX6_truck_11 : decode cX6_truck 11 = .ok (.new 41, 3) := by decide +kernel
theorem dX6_truck_14 : decode cX6_truck 14 = .ok (.dup, 1) := by decide +kernel
theorem dX6_truck_15 : decode cX6_truck 15 = .ok (.ldc 92, 2) := by decide +kernel
theorem dX6_truck_17 : decode cX6_truck 17 = .ok (.invokespecial 45, 3) := by decide +kernel
theorem dX6_truck_20 : decode cX6_truck 20 = .ok (.athrow, 1) := by decide +kernel
theorem dX6_truck_21 : decode cX6_truck 21 = .ok (.aload_n 0, 1) := by decide +kernel
theorem dX6_truck_22 : decode cX6_truck 22 = .ok (.getfield 12, 3) := by decide +kernel
theorem dX6_truck_25 : decode cX6_truck 25 = .ok (.getfield 94, 3) := by decide +kernel
theorem dX6_truck_28 : decode cX6_truck 28 = .ok (.invokevirtual 50, 3) := by decide +kernel
theorem dX6_truck_31 : decode cX6_truck 31 = .ok (.iconst 4, 1) := by decide +kernel
theorem dX6_truck_32 : decode cX6_truck 32 = .ok (.if_icmp .lt 13, 3) := by decide +kernel
theorem dX6_truck_35 : decode cX6_truck 35 = .ok (.new 56, 3) := by decide +kernel
theorem dX6_truck_38 : decode cX6_truck 38 = .ok (.dup, 1) := by decide +kernel
theorem dX6_truck_39 : decode cX6_truck 39 = .ok (.ldc 97, 2) := by decide +kernel
theorem dX6_truck_41 : decode cX6_truck 41 = .ok (.invokespecial 60, 3) := by decide +kernel
theorem dX6_truck_44 : decode cX6_truck 44 = .ok (.athrow, 1) := by decide +kernel
theorem dX6_truck_45 : decode cX6_truck 45 = .ok (.aload_n 0, 1) := by decide +kernel
theorem dX6_truck_46 : decode cX6_truck 46 = .ok (.getfield 12, 3) := by decide +kernel
theorem dX6_truck_49 : decode cX6_truck 49 = .ok (.getfield 94, 3) := by decide +kernel
theorem dX6_truck_52 : decode cX6_truck 52 = .ok (.new 99, 3) := by decide +kernel
theorem dX6_truck_55 : decode cX6_truck 55 = .ok (.dup, 1) := by decide +kernel
theorem dX6_truck_56 : decode cX6_truck 56 = .ok (.iload_n 1, 1) := by decide +kernel
theorem dX6_truck_57 : decode cX6_truck 57 = .ok (.invokespecial 101, 3) := by decide +kernel
theorem dX6_truck_60 : decode cX6_truck 60 = .ok (.invokevirtual 61, 3) := by decide +kernel
theorem dX6_truck_63 : decode cX6_truck 63 = .ok (.pop, 1) := by decide +kernel
theorem dX6_truck_64 : decode cX6_truck 64 = .ok (.aload_n 0, 1) := by decide +kernel
theorem dX6_truck_65 : decode cX6_truck 65 = .ok (.getfield 12, 3) := by decide +kernel
theorem dX6_truck_68 : decode cX6_truck 68 = .ok (.getfield 94, 3) := by decide +kernel
theorem dX6_truck_71 : decode cX6_truck 71 = .ok (.invokevirtual 50, 3) := by decide +kernel
theorem dX6_truck_74 : decode cX6_truck 74 = .ok (.iconst 1, 1) := by decide +kernel
theorem dX6_truck_75 : decode cX6_truck 75 = .ok (.isub, 1) := by decide +kernel
theorem dX6_truck_76 : decode cX6_truck 76 = .ok (.ireturn, 1) := by decide +kernel
theorem dX6_elevator_0 : decode cX6_elevator 0 = .ok (.iload_n 1, 1) := by decide +kernel
theorem dX6_elevator_1 : decode cX6_elevator 1 = .ok (.iconst 0, 1) := by decide +kernel
theorem dX6_elevator_2 : decode cX6_elevator 2 = .ok (.sipush 300, 3) := by decide +kernel
theorem dX6_elevator_5 : decode cX6_elevator 5 = .ok (.invokestatic 30, 3) := by decide +kernel
theorem dX6_elevator_8 : decode cX6_elevator 8 = .ok (.ifCond .ne 14, 3) := by decide +kernel
theorem dX6_elevator_11 : decode cX6_elevator 11 = .ok (.iload_n 2, 1) := by decide +kernel
theorem dX6_elevator_12 : decode cX6_elevator 12 = .ok (.iconst 0, 1) := by decide +kernel
theorem dX6_elevator_13 : decode cX6_elevator 13 = .ok (.sipush 9999, 3) := by decide +kernel
theorem dX6_elevator_16 : decode cX6_elevator 16 = .ok (.invokestatic 30, 3) := by decide +kernel
theorem dX6_elevator_19 : decode cX6_elevator 19 = .ok (.ifCond .eq 13, 3) := by decide +kernel
theorem dX6_elevator_22 : decode cX6_elevator 22 = .ok (.new 41, 3) := by decide +kernel
theorem dX6_elevator_25 : decode cX6_elevator 25 = .ok (.dup, 1) := by decide +kernel
theorem dX6_elevator_26 : decode cX6_elevator 26 = .ok (.ldc 104, 2) := by decide +kernel
theorem dX6_elevator_28 : decode cX6_elevator 28 = .ok (.invokespecial 45, 3) := by decide +kernel
theorem dX6_elevator_31 : decode cX6_elevator 31 = .ok (.athrow, 1) := by decide +kernel
theorem dX6_elevator_32 : decode cX6_elevator 32 = .ok (.iload_n 3, 1) := by decide +kernel
theorem dX6_elevator_33 : decode cX6_elevator 33 = .ok (.iconst 0, 1) := by decide +kernel
theorem dX6_elevator_34 : decode cX6_elevator 34 = .ok (.bipush 23, 2) := by decide +kernel
theorem dX6_elevator_36 : decode cX6_elevator 36 = .ok (.invokestatic 30, 3) := by decide +kernel
theorem dX6_elevator_39 : decode cX6_elevator 39 = .ok (.ifCond .ne 20, 3) := by decide +kernel
theorem dX6_elevator_42 : decode cX6_elevator 42 = .ok (.iload 4, 2) := by decide +kernel
theorem dX6_elevator_44 : decode cX6_elevator 44 = .ok (.iconst 0, 1) := by decide +kernel
theorem dX6_elevator_45 : decode cX6_elevator 45 = .ok (.bipush 23, 2) := by decide +kernel
theorem dX6_elevator_47 : decode cX6_elevator 47 = .ok (.invokestatic 30, 3) := by decide +kernel
theorem dX6_elevator_50 : decode cX6_elevator 50 = .ok (.ifCond .ne 9, 3) := by decide +kernel
theorem dX6_elevator_53 : decode cX6_elevator 53 = .ok (.iload_n 3, 1) := by decide +kernel
theorem dX6_elevator_54 : decode cX6_elevator 54 = .ok (.iload 4, 2) := by decide +kernel
theorem dX6_elevator_56 : decode cX6_elevator 56 = .ok (.if_icmp .ne 13, 3) := by decide +kernel
theorem dX6_elevator_59 : decode cX6_elevator 59 = .ok (.new 41, 3) := by decide +kernel
theorem dX6_elevator_62 : decode cX6_elevator 62 = .ok (.dup, 1) := by decide +kernel
theorem dX6_elevator_63 : decode cX6_elevator 63 = .ok (.ldc 106, 2) := by decide +kernel
theorem dX6_elevator_65 : decode cX6_elevator 65 = .ok (.invokespecial 45, 3) := by decide +kernel
theorem dX6_elevator_68 : decode cX6_elevator 68 = .ok (.athrow, 1) := by decide +kernel
theorem dX6_elevator_69 : decode cX6_elevator 69 = .ok (.iload 5, 2) := by decide +kernel
theorem dX6_elevator_71 : decode cX6_elevator 71 = .ok (.iconst 5, 1) := by decide +kernel
theorem dX6_elevator_72 : decode cX6_elevator 72 = .ok (.bipush 40, 2) := by decide +kernel
theorem dX6_elevator_74 : decode cX6_elevator 74 = .ok (.invokestatic 30, 3) := by decide +kernel
theorem dX6_elevator_77 : decode cX6_elevator 77 = .ok (.ifCond .ne 15, 3) := by decide +kernel
theorem dX6_elevator_80 : decode cX6_elevator 80 = .ok (.iload 6, 2) := by decide +kernel
theorem dX6_elevator_82 : decode cX6_elevator 82 = .ok (.iload 5, 2) := by decide +kernel
theorem dX6_elevator_84 : decode cX6_elevator 84 = .ok (.bipush 40, 2) := by decide +kernel
theorem dX6_elevator_86 : decode cX6_elevator 86 = .ok (.invokestatic 30, 3) := by decide +kernel
theorem dX6_elevator_89 : decode cX6_elevator 89 = .ok (.ifCond .eq 13, 3) := by decide +kernel
theorem dX6_elevator_92 : decode cX6_elevator 92 = .ok (.new 41, 3) := by decide +kernel
theorem dX6_elevator_95 : decode cX6_elevator 95 = .ok (.dup, 1) := by decide +kernel
theorem dX6_elevator_96 : decode cX6_elevator 96 = .ok (.ldc 108, 2) := by decide +kernel
theorem dX6_elevator_98 : decode cX6_elevator 98 = .ok (.invokespecial 45, 3) := by decide +kernel
theorem dX6_elevator_101 : decode cX6_elevator 101 = .ok (.athrow, 1) := by decide +kernel
theorem dX6_elevator_102 : decode cX6_elevator 102 = .ok (.aload_n 0, 1) := by decide +kernel
theorem dX6_elevator_103 : decode cX6_elevator 103 = .ok (.getfield 12, 3) := by decide +kernel
theorem dX6_elevator_106 : decode cX6_elevator 106 = .ok (.getfield 110, 3) := by decide +kernel
theorem dX6_elevator_109 : decode cX6_elevator 109 = .ok (.invokevirtual 50, 3) := by decide +kernel
theorem dX6_elevator_112 : decode cX6_elevator 112 = .ok (.iconst 3, 1) := by decide +kernel
theorem dX6_elevator_113 : decode cX6_elevator 113 = .ok (.if_icmp .lt 13, 3) := by decide +kernel
theorem dX6_elevator_116 : decode cX6_elevator 116 = .ok (.new 56, 3) := by decide +kernel
theorem dX6_elevator_119 : decode cX6_elevator 119 = .ok (.dup, 1) := by decide +kernel
theorem dX6_elevator_120 : decode cX6_elevator 120 = .ok (.ldc 113, 2) := by decide +kernel
theorem dX6_elevator_122 : decode cX6_elevator 122 = .ok (.invokespecial 60, 3) := by decide +kernel
theorem dX6_elevator_125 : decode cX6_elevator 125 = .ok (.athrow, 1) := by decide +kernel
theorem dX6_elevator_126 : decode cX6_elevator 126 = .ok (.aload_n 0, 1) := by decide +kernel
theorem dX6_elevator_127 : decode cX6_elevator 127 = .ok (.getfield 12, 3) := by decide +kernel
theorem dX6_elevator_130 : decode cX6_elevator 130 = .ok (.getfield 110, 3) := by decide +kernel
theorem dX6_elevator_133 : decode cX6_elevator 133 = .ok (.new 115, 3) := by decide +kernel
theorem dX6_elevator_136 : decode cX6_elevator 136 = .ok (.dup, 1) := by decide +kernel
theorem dX6_elevator_137 : decode cX6_elevator 137 = .ok (.iload_n 1, 1) := by decide +kernel
theorem dX6_elevator_138 : decode cX6_elevator 138 = .ok (.iload_n 2, 1) := by decide +kernel
theorem dX6_elevator_139 : decode cX6_elevator 139 = .ok (.iload_n 3, 1) := by decide +kernel
theorem dX6_elevator_140 : decode cX6_elevator 140 = .ok (.iload 4, 2) := by decide +kernel
theorem dX6_elevator_142 : decode cX6_elevator 142 = .ok (.iload 5, 2) := by decide +kernel
theorem dX6_elevator_144 : decode cX6_elevator 144 = .ok (.iload 6, 2) := by decide +kernel
theorem dX6_elevator_146 : decode cX6_elevator 146 = .ok (.invokespecial 117, 3) := by decide +kernel
theorem dX6_elevator_149 : decode cX6_elevator 149 = .ok (.invokevirtual 61, 3) := by decide +kernel
theorem dX6_elevator_152 : decode cX6_elevator 152 = .ok (.pop, 1) := by decide +kernel
theorem dX6_elevator_153 : decode cX6_elevator 153 = .ok (.aload_n 0, 1) := by decide +kernel
theorem dX6_elevator_154 : decode cX6_elevator 154 = .ok (.getfield 12, 3) := by decide +kernel
theorem dX6_elevator_157 : decode cX6_elevator 157 = .ok (.getfield 110, 3) := by decide +kernel
theorem dX6_elevator_160 : decode cX6_elevator 160 = .ok (.invokevirtual 50, 3) := by decide +kernel
theorem dX6_elevator_163 : decode cX6_elevator 163 = .ok (.iconst 1, 1) := by decide +kernel
theorem dX6_elevator_164 : decode cX6_elevator 164 = .ok (.isub, 1) := by decide +kernel
theorem dX6_elevator_165 : decode cX6_elevator 165 = .ok (.ireturn, 1) := by decide +kernel
theorem dX6_cut_0 : decode cX6_cut 0 = .ok (.aload_n 0, 1) := by decide +kernel
theorem dX6_cut_1 : decode cX6_cut 1 = .ok (.getfield 12, 3) := by decide +kernel
theorem dX6_cut_4 : decode cX6_cut 4 = .ok (.iload_n 1, 1) := by decide +kernel
theorem dX6_cut_5 : decode cX6_cut 5 = .ok (.invokevirtual 125, 3) := by decide +kernel
theorem dX6_cut_8 : decode cX6_cut 8 = .ok (.astore_n 3, 1) := by decide +kernel
theorem dX6_cut_9 : decode cX6_cut 9 = .ok (.aload_n 3, 1) := by decide +kernel
theorem dX6_cut_10 : decode cX6_cut 10 = .ok (.ifnonnull 13, 3) := by decide +kernel
theorem dX6_cut_13 : decode cX6_cut 13 = .ok (.new 34, 3) := by decide +kernel
theorem dX6_cut_16 : decode cX6_cut 16 = .ok (.dup, 1) := by decide +kernel
theorem dX6_cut_17 : decode cX6_cut 17 = .ok (.ldc 129, 2) := by decide +kernel
theorem dX6_cut_19 : decode cX6_cut 19 = .ok (.invokespecial 38, 3) := by decide +kernel
theorem dX6_cut_22 : decode cX6_cut 22 = .ok (.athrow, 1) := by decide +kernel
theorem dX6_cut_23 : decode cX6_cut 23 = .ok (.iload_n 2, 1) := by decide +kernel
theorem dX6_cut_24 : decode cX6_cut 24 = .ok (.iconst (-1), 1) := by decide +kernel
theorem dX6_cut_25 : decode cX6_cut 25 = .ok (.if_icmp .eq 24, 3) := by decide +kernel
theorem dX6_cut_28 : decode cX6_cut 28 = .ok (.aload_n 0, 1) := by decide +kernel
theorem dX6_cut_29 : decode cX6_cut 29 = .ok (.getfield 12, 3) := by decide +kernel
theorem dX6_cut_32 : decode cX6_cut 32 = .ok (.iload_n 2, 1) := by decide +kernel
theorem dX6_cut_33 : decode cX6_cut 33 = .ok (.invokevirtual 65, 3) := by decide +kernel
theorem dX6_cut_36 : decode cX6_cut 36 = .ok (.ifnonnull 13, 3) := by decide +kernel
theorem dX6_cut_39 : decode cX6_cut 39 = .ok (.new 34, 3) := by decide +kernel
theorem dX6_cut_42 : decode cX6_cut 42 = .ok (.dup, 1) := by decide +kernel
theorem dX6_cut_43 : decode cX6_cut 43 = .ok (.ldc 69, 2) := by decide +kernel
theorem dX6_cut_45 : decode cX6_cut 45 = .ok (.invokespecial 38, 3) := by decide +kernel
theorem dX6_cut_48 : decode cX6_cut 48 = .ok (.athrow, 1) := by decide +kernel
theorem dX6_cut_49 : decode cX6_cut 49 = .ok (.aload_n 3, 1) := by decide +kernel
theorem dX6_cut_50 : decode cX6_cut 50 = .ok (.iload_n 2, 1) := by decide +kernel
theorem dX6_cut_51 : decode cX6_cut 51 = .ok (.putfield 131, 3) := by decide +kernel
theorem dX6_cut_54 : decode cX6_cut 54 = .ok (.iload_n 2, 1) := by decide +kernel
theorem dX6_cut_55 : decode cX6_cut 55 = .ok (.iconst (-1), 1) := by decide +kernel
theorem dX6_cut_56 : decode cX6_cut 56 = .ok (.if_icmp .ne 7, 3) := by decide +kernel
theorem dX6_cut_59 : decode cX6_cut 59 = .ok (.iconst 0, 1) := by decide +kernel
theorem dX6_cut_60 : decode cX6_cut 60 = .ok (.goto 11, 3) := by decide +kernel
theorem dX6_cut_63 : decode cX6_cut 63 = .ok (.aload_n 0, 1) := by decide +kernel
theorem dX6_cut_64 : decode cX6_cut 64 = .ok (.getfield 12, 3) := by decide +kernel
theorem dX6_cut_67 : decode cX6_cut 67 = .ok (.iload_n 2, 1) := by decide +kernel
theorem dX6_cut_68 : decode cX6_cut 68 = .ok (.invokevirtual 134, 3) := by decide +kernel
theorem dX6_cut_71 : decode cX6_cut 71 = .ok (.ireturn, 1) := by decide +kernel
theorem dX6_fetch_0 : decode cX6_fetch 0 = .ok (.aload_n 0, 1) := by decide +kernel
theorem dX6_fetch_1 : decode cX6_fetch 1 = .ok (.getfield 12, 3) := by decide +kernel
theorem dX6_fetch_4 : decode cX6_fetch 4 = .ok (.iload_n 1, 1) := by decide +kernel
theorem dX6_fetch_5 : decode cX6_fetch 5 = .ok (.invokevirtual 138, 3) := by decide +kernel
theorem dX6_fetch_8 : decode cX6_fetch 8 = .ok (.astore_n 3, 1) := by decide +kernel
theorem dX6_fetch_9 : decode cX6_fetch 9 = .ok (.aload_n 3, 1) := by decide +kernel
theorem dX6_fetch_10 : decode cX6_fetch 10 = .ok (.ifnonnull 13, 3) := by decide +kernel
theorem dX6_fetch_13 : decode cX6_fetch 13 = .ok (.new 34, 3) := by decide +kernel
theorem dX6_fetch_16 : decode cX6_fetch 16 = .ok (.dup, 1) := by decide +kernel
theorem dX6_fetch_17 : decode cX6_fetch 17 = .ok (.ldc 142, 2) := by decide +kernel
theorem dX6_fetch_19 : decode cX6_fetch 19 = .ok (.invokespecial 38, 3) := by decide +kernel
theorem dX6_fetch_22 : decode cX6_fetch 22 = .ok (.athrow, 1) := by decide +kernel
theorem dX6_fetch_23 : decode cX6_fetch 23 = .ok (.aload_n 0, 1) := by decide +kernel
theorem dX6_fetch_24 : decode cX6_fetch 24 = .ok (.getfield 12, 3) := by decide +kernel
theorem dX6_fetch_27 : decode cX6_fetch 27 = .ok (.iload_n 2, 1) := by decide +kernel
theorem dX6_fetch_28 : decode cX6_fetch 28 = .ok (.invokevirtual 125, 3) := by decide +kernel
theorem dX6_fetch_31 : decode cX6_fetch 31 = .ok (.astore 4, 2) := by decide +kernel
theorem dX6_fetch_33 : decode cX6_fetch 33 = .ok (.aload 4, 2) := by decide +kernel
theorem dX6_fetch_35 : decode cX6_fetch 35 = .ok (.ifnonnull 13, 3) := by decide +kernel
theorem dX6_fetch_38 : decode cX6_fetch 38 = .ok (.new 34, 3) := by decide +kernel
theorem dX6_fetch_41 : decode cX6_fetch 41 = .ok (.dup, 1) := by decide +kernel
theorem dX6_fetch_42 : decode cX6_fetch 42 = .ok (.ldc 129, 2) := by decide +kernel
theorem dX6_fetch_44 : decode cX6_fetch 44 = .ok (.invokespecial 38, 3) := by decide +kernel
theorem dX6_fetch_47 : decode cX6_fetch 47 = .ok (.athrow, 1) := by decide +kernel
theorem dX6_fetch_48 : decode cX6_fetch 48 = .ok (.aload_n 3, 1) := by decide +kernel
theorem dX6_fetch_49 : decode cX6_fetch 49 = .ok (.iload_n 2, 1) := by decide +kernel
theorem dX6_fetch_50 : decode cX6_fetch 50 = .ok (.putfield 144, 3) := by decide +kernel
theorem dX6_fetch_53 : decode cX6_fetch 53 = .ok (.aload_n 3, 1) := by decide +kernel
theorem dX6_fetch_54 : decode cX6_fetch 54 = .ok (.iconst (-1), 1) := by decide +kernel
theorem dX6_fetch_55 : decode cX6_fetch 55 = .ok (.putfield 147, 3) := by decide +kernel
theorem dX6_fetch_58 : decode cX6_fetch 58 = .ok (.aload 4, 2) := by decide +kernel
theorem dX6_fetch_60 : decode cX6_fetch 60 = .ok (.getfield 150, 3) := by decide +kernel
theorem dX6_fetch_63 : decode cX6_fetch 63 = .ok (.aload_n 3, 1) := by decide +kernel
theorem dX6_fetch_64 : decode cX6_fetch 64 = .ok (.getfield 153, 3) := by decide +kernel
theorem dX6_fetch_67 : decode cX6_fetch 67 = .ok (.isub, 1) := by decide +kernel
theorem dX6_fetch_68 : decode cX6_fetch 68 = .ok (.invokestatic 154, 3) := by decide +kernel
theorem dX6_fetch_71 : decode cX6_fetch 71 = .ok (.ireturn, 1) := by decide +kernel
theorem dX6_haul_0 : decode cX6_haul 0 = .ok (.aload_n 0, 1) := by decide +kernel
theorem dX6_haul_1 : decode cX6_haul 1 = .ok (.getfield 12, 3) := by decide +kernel
theorem dX6_haul_4 : decode cX6_haul 4 = .ok (.iload_n 1, 1) := by decide +kernel
theorem dX6_haul_5 : decode cX6_haul 5 = .ok (.invokevirtual 138, 3) := by decide +kernel
theorem dX6_haul_8 : decode cX6_haul 8 = .ok (.astore_n 3, 1) := by decide +kernel
theorem dX6_haul_9 : decode cX6_haul 9 = .ok (.aload_n 3, 1) := by decide +kernel
theorem dX6_haul_10 : decode cX6_haul 10 = .ok (.ifnonnull 13, 3) := by decide +kernel
theorem dX6_haul_13 : decode cX6_haul 13 = .ok (.new 34, 3) := by decide +kernel
theorem dX6_haul_16 : decode cX6_haul 16 = .ok (.dup, 1) := by decide +kernel
theorem dX6_haul_17 : decode cX6_haul 17 = .ok (.ldc 142, 2) := by decide +kernel
theorem dX6_haul_19 : decode cX6_haul 19 = .ok (.invokespecial 38, 3) := by decide +kernel
theorem dX6_haul_22 : decode cX6_haul 22 = .ok (.athrow, 1) := by decide +kernel
theorem dX6_haul_23 : decode cX6_haul 23 = .ok (.aload_n 0, 1) := by decide +kernel
theorem dX6_haul_24 : decode cX6_haul 24 = .ok (.getfield 12, 3) := by decide +kernel
theorem dX6_haul_27 : decode cX6_haul 27 = .ok (.iload_n 2, 1) := by decide +kernel
theorem dX6_haul_28 : decode cX6_haul 28 = .ok (.invokevirtual 159, 3) := by decide +kernel
theorem dX6_haul_31 : decode cX6_haul 31 = .ok (.astore 4, 2) := by decide +kernel
theorem dX6_haul_33 : decode cX6_haul 33 = .ok (.aload 4, 2) := by decide +kernel
theorem dX6_haul_35 : decode cX6_haul 35 = .ok (.ifnonnull 13, 3) := by decide +kernel
theorem dX6_haul_38 : decode cX6_haul 38 = .ok (.new 34, 3) := by decide +kernel
theorem dX6_haul_41 : decode cX6_haul 41 = .ok (.dup, 1) := by decide +kernel
theorem dX6_haul_42 : decode cX6_haul 42 = .ok (.ldc 163, 2) := by decide +kernel
theorem dX6_haul_44 : decode cX6_haul 44 = .ok (.invokespecial 38, 3) := by decide +kernel
theorem dX6_haul_47 : decode cX6_haul 47 = .ok (.athrow, 1) := by decide +kernel
theorem dX6_haul_48 : decode cX6_haul 48 = .ok (.aload_n 3, 1) := by decide +kernel
theorem dX6_haul_49 : decode cX6_haul 49 = .ok (.iconst (-1), 1) := by decide +kernel
theorem dX6_haul_50 : decode cX6_haul 50 = .ok (.putfield 144, 3) := by decide +kernel
theorem dX6_haul_53 : decode cX6_haul 53 = .ok (.aload_n 3, 1) := by decide +kernel
theorem dX6_haul_54 : decode cX6_haul 54 = .ok (.iload_n 2, 1) := by decide +kernel
theorem dX6_haul_55 : decode cX6_haul 55 = .ok (.putfield 147, 3) := by decide +kernel
theorem dX6_haul_58 : decode cX6_haul 58 = .ok (.aload 4, 2) := by decide +kernel
theorem dX6_haul_60 : decode cX6_haul 60 = .ok (.getfield 165, 3) := by decide +kernel
theorem dX6_haul_63 : decode cX6_haul 63 = .ok (.aload_n 3, 1) := by decide +kernel
theorem dX6_haul_64 : decode cX6_haul 64 = .ok (.getfield 153, 3) := by decide +kernel
theorem dX6_haul_67 : decode cX6_haul 67 = .ok (.isub, 1) := by decide +kernel
theorem dX6_haul_68 : decode cX6_haul 68 = .ok (.invokestatic 154, 3) := by decide +kernel
theorem dX6_haul_71 : decode cX6_haul 71 = .ok (.ireturn, 1) := by decide +kernel
theorem dX6_pass_0 : decode cX6_pass 0 = .ok (.iload_n 1, 1) := by decide +kernel
theorem dX6_pass_1 : decode cX6_pass 1 = .ok (.iload_n 2, 1) := by decide +kernel
theorem dX6_pass_2 : decode cX6_pass 2 = .ok (.iload_n 3, 1) := by decide +kernel
theorem dX6_pass_3 : decode cX6_pass 3 = .ok (.iload 4, 2) := by decide +kernel
theorem dX6_pass_5 : decode cX6_pass 5 = .ok (.invokestatic 190, 3) := by decide +kernel
end
section
theorem dX6_pass_8 : decode cX6_pass 8 = .ok (.ifCond .eq 13, 3) := by decide +kernel
theorem dX6_pass_11 : decode cX6_pass 11 = .ok (.new 41, 3) := by decide +kernel
theorem dX6_pass_14 : decode cX6_pass 14 = .ok (.dup, 1) := by decide +kernel
theorem dX6_pass_15 : decode cX6_pass 15 = .ok (.ldc 194, 2) := by decide +kernel
theorem dX6_pass_17 : decode cX6_pass 17 = .ok (.invokespecial 45, 3) := by decide +kernel
theorem dX6_pass_20 : decode cX6_pass 20 = .ok (.athrow, 1) := by decide +kernel
theorem dX6_pass_21 : decode cX6_pass 21 = .ok (.aload_n 0, 1) := by decide +kernel
theorem dX6_pass_22 : decode cX6_pass 22 = .ok (.getfield 12, 3) := by decide +kernel
theorem dX6_pass_25 : decode cX6_pass 25 = .ok (.getfield 196, 3) := by decide +kernel
theorem dX6_pass_28 : decode cX6_pass 28 = .ok (.iload_n 1, 1) := by decide +kernel
theorem dX6_pass_29 : decode cX6_pass 29 = .ok (.iadd, 1) := by decide +kernel
theorem dX6_pass_30 : decode cX6_pass 30 = .ok (.sipush 2400, 3) := by decide +kernel
theorem dX6_pass_33 : decode cX6_pass 33 = .ok (.if_icmp .le 13, 3) := by decide +kernel
theorem dX6_pass_36 : decode cX6_pass 36 = .ok (.new 56, 3) := by decide +kernel
theorem dX6_pass_39 : decode cX6_pass 39 = .ok (.dup, 1) := by decide +kernel
theorem dX6_pass_40 : decode cX6_pass 40 = .ok (.ldc 199, 2) := by decide +kernel
theorem dX6_pass_42 : decode cX6_pass 42 = .ok (.invokespecial 60, 3) := by decide +kernel
theorem dX6_pass_45 : decode cX6_pass 45 = .ok (.athrow, 1) := by decide +kernel
theorem dX6_pass_46 : decode cX6_pass 46 = .ok (.aload_n 0, 1) := by decide +kernel
theorem dX6_pass_47 : decode cX6_pass 47 = .ok (.getfield 12, 3) := by decide +kernel
theorem dX6_pass_50 : decode cX6_pass 50 = .ok (.getfield 201, 3) := by decide +kernel
theorem dX6_pass_53 : decode cX6_pass 53 = .ok (.invokevirtual 50, 3) := by decide +kernel
theorem dX6_pass_56 : decode cX6_pass 56 = .ok (.istore 5, 2) := by decide +kernel
theorem dX6_pass_58 : decode cX6_pass 58 = .ok (.iconst 0, 1) := by decide +kernel
theorem dX6_pass_59 : decode cX6_pass 59 = .ok (.istore 6, 2) := by decide +kernel
theorem dX6_pass_61 : decode cX6_pass 61 = .ok (.iload 6, 2) := by decide +kernel
theorem dX6_pass_63 : decode cX6_pass 63 = .ok (.iload_n 1, 1) := by decide +kernel
theorem dX6_pass_64 : decode cX6_pass 64 = .ok (.if_icmp .ge 20, 3) := by decide +kernel
theorem dX6_pass_67 : decode cX6_pass 67 = .ok (.aload_n 0, 1) := by decide +kernel
theorem dX6_pass_68 : decode cX6_pass 68 = .ok (.getfield 12, 3) := by decide +kernel
theorem dX6_pass_71 : decode cX6_pass 71 = .ok (.iload_n 2, 1) := by decide +kernel
theorem dX6_pass_72 : decode cX6_pass 72 = .ok (.iload_n 3, 1) := by decide +kernel
theorem dX6_pass_73 : decode cX6_pass 73 = .ok (.iload 4, 2) := by decide +kernel
theorem dX6_pass_75 : decode cX6_pass 75 = .ok (.invokevirtual 204, 3) := by decide +kernel
theorem dX6_pass_78 : decode cX6_pass 78 = .ok (.iinc 6 1, 3) := by decide +kernel
theorem dX6_pass_81 : decode cX6_pass 81 = .ok (.goto (-20), 3) := by decide +kernel
theorem dX6_pass_84 : decode cX6_pass 84 = .ok (.aload_n 0, 1) := by decide +kernel
theorem dX6_pass_85 : decode cX6_pass 85 = .ok (.getfield 12, 3) := by decide +kernel
theorem dX6_pass_88 : decode cX6_pass 88 = .ok (.getfield 201, 3) := by decide +kernel
theorem dX6_pass_91 : decode cX6_pass 91 = .ok (.invokevirtual 50, 3) := by decide +kernel
theorem dX6_pass_94 : decode cX6_pass 94 = .ok (.iload 5, 2) := by decide +kernel
theorem dX6_pass_96 : decode cX6_pass 96 = .ok (.isub, 1) := by decide +kernel
theorem dX6_pass_97 : decode cX6_pass 97 = .ok (.ireturn, 1) := by decide +kernel
theorem dX6_ofField_0 : decode cX6_ofField 0 = .ok (.aload_n 0, 1) := by decide +kernel
theorem dX6_ofField_1 : decode cX6_ofField 1 = .ok (.getfield 12, 3) := by decide +kernel
theorem dX6_ofField_4 : decode cX6_ofField 4 = .ok (.iload_n 1, 1) := by decide +kernel
theorem dX6_ofField_5 : decode cX6_ofField 5 = .ok (.invokevirtual 65, 3) := by decide +kernel
theorem dX6_ofField_8 : decode cX6_ofField 8 = .ok (.astore_n 3, 1) := by decide +kernel
theorem dX6_ofField_9 : decode cX6_ofField 9 = .ok (.aload_n 3, 1) := by decide +kernel
theorem dX6_ofField_10 : decode cX6_ofField 10 = .ok (.ifnonnull 13, 3) := by decide +kernel
theorem dX6_ofField_13 : decode cX6_ofField 13 = .ok (.new 34, 3) := by decide +kernel
theorem dX6_ofField_16 : decode cX6_ofField 16 = .ok (.dup, 1) := by decide +kernel
theorem dX6_ofField_17 : decode cX6_ofField 17 = .ok (.ldc 69, 2) := by decide +kernel
theorem dX6_ofField_19 : decode cX6_ofField 19 = .ok (.invokespecial 38, 3) := by decide +kernel
theorem dX6_ofField_22 : decode cX6_ofField 22 = .ok (.athrow, 1) := by decide +kernel
theorem dX6_ofField_23 : decode cX6_ofField 23 = .ok (.iload_n 2, 1) := by decide +kernel
theorem dX6_ofField_24 : decode cX6_ofField 24 = .ok (.iconst 0, 1) := by decide +kernel
theorem dX6_ofField_25 : decode cX6_ofField 25 = .ok (.bipush 11, 2) := by decide +kernel
theorem dX6_ofField_27 : decode cX6_ofField 27 = .ok (.invokestatic 30, 3) := by decide +kernel
theorem dX6_ofField_30 : decode cX6_ofField 30 = .ok (.ifCond .eq 13, 3) := by decide +kernel
theorem dX6_ofField_33 : decode cX6_ofField 33 = .ok (.new 41, 3) := by decide +kernel
theorem dX6_ofField_36 : decode cX6_ofField 36 = .ok (.dup, 1) := by decide +kernel
theorem dX6_ofField_37 : decode cX6_ofField 37 = .ok (.ldc 207, 2) := by decide +kernel
theorem dX6_ofField_39 : decode cX6_ofField 39 = .ok (.invokespecial 45, 3) := by decide +kernel
theorem dX6_ofField_42 : decode cX6_ofField 42 = .ok (.athrow, 1) := by decide +kernel
theorem dX6_ofField_43 : decode cX6_ofField 43 = .ok (.iload_n 2, 1) := by decide +kernel
theorem dX6_ofField_44 : decode cX6_ofField 44 = .ok (.tableswitch 127 0 10 #[60, 65, 70, 75, 80, 85, 90, 95, 100, 105, 114], 60) := by decide +kernel
theorem dX6_ofField_104 : decode cX6_ofField 104 = .ok (.aload_n 3, 1) := by decide +kernel
theorem dX6_ofField_105 : decode cX6_ofField 105 = .ok (.getfield 209, 3) := by decide +kernel
theorem dX6_ofField_108 : decode cX6_ofField 108 = .ok (.ireturn, 1) := by decide +kernel
theorem dX6_ofField_109 : decode cX6_ofField 109 = .ok (.aload_n 3, 1) := by decide +kernel
theorem dX6_ofField_110 : decode cX6_ofField 110 = .ok (.getfield 212, 3) := by decide +kernel
theorem dX6_ofField_113 : decode cX6_ofField 113 = .ok (.ireturn, 1) := by decide +kernel
theorem dX6_ofField_114 : decode cX6_ofField 114 = .ok (.aload_n 3, 1) := by decide +kernel
theorem dX6_ofField_115 : decode cX6_ofField 115 = .ok (.getfield 213, 3) := by decide +kernel
theorem dX6_ofField_118 : decode cX6_ofField 118 = .ok (.ireturn, 1) := by decide +kernel
theorem dX6_ofField_119 : decode cX6_ofField 119 = .ok (.aload_n 3, 1) := by decide +kernel
theorem dX6_ofField_120 : decode cX6_ofField 120 = .ok (.getfield 216, 3) := by decide +kernel
theorem dX6_ofField_123 : decode cX6_ofField 123 = .ok (.ireturn, 1) := by decide +kernel
theorem dX6_ofField_124 : decode cX6_ofField 124 = .ok (.aload_n 3, 1) := by decide +kernel
theorem dX6_ofField_125 : decode cX6_ofField 125 = .ok (.getfield 73, 3) := by decide +kernel
theorem dX6_ofField_128 : decode cX6_ofField 128 = .ok (.ireturn, 1) := by decide +kernel
theorem dX6_ofField_129 : decode cX6_ofField 129 = .ok (.aload_n 3, 1) := by decide +kernel
theorem dX6_ofField_130 : decode cX6_ofField 130 = .ok (.getfield 77, 3) := by decide +kernel
theorem dX6_ofField_133 : decode cX6_ofField 133 = .ok (.ireturn, 1) := by decide +kernel
theorem dX6_ofField_134 : decode cX6_ofField 134 = .ok (.aload_n 3, 1) := by decide +kernel
theorem dX6_ofField_135 : decode cX6_ofField 135 = .ok (.getfield 219, 3) := by decide +kernel
theorem dX6_ofField_138 : decode cX6_ofField 138 = .ok (.ireturn, 1) := by decide +kernel
theorem dX6_ofField_139 : decode cX6_ofField 139 = .ok (.aload_n 3, 1) := by decide +kernel
theorem dX6_ofField_140 : decode cX6_ofField 140 = .ok (.getfield 222, 3) := by decide +kernel
theorem dX6_ofField_143 : decode cX6_ofField 143 = .ok (.ireturn, 1) := by decide +kernel
theorem dX6_ofField_144 : decode cX6_ofField 144 = .ok (.aload_n 3, 1) := by decide +kernel
theorem dX6_ofField_145 : decode cX6_ofField 145 = .ok (.getfield 225, 3) := by decide +kernel
theorem dX6_ofField_148 : decode cX6_ofField 148 = .ok (.ireturn, 1) := by decide +kernel
theorem dX6_ofField_149 : decode cX6_ofField 149 = .ok (.aload_n 0, 1) := by decide +kernel
theorem dX6_ofField_150 : decode cX6_ofField 150 = .ok (.getfield 12, 3) := by decide +kernel
theorem dX6_ofField_153 : decode cX6_ofField 153 = .ok (.iload_n 1, 1) := by decide +kernel
theorem dX6_ofField_154 : decode cX6_ofField 154 = .ok (.invokevirtual 228, 3) := by decide +kernel
theorem dX6_ofField_157 : decode cX6_ofField 157 = .ok (.ireturn, 1) := by decide +kernel
theorem dX6_ofField_158 : decode cX6_ofField 158 = .ok (.aload_n 3, 1) := by decide +kernel
theorem dX6_ofField_159 : decode cX6_ofField 159 = .ok (.aload_n 0, 1) := by decide +kernel
theorem dX6_ofField_160 : decode cX6_ofField 160 = .ok (.getfield 12, 3) := by decide +kernel
theorem dX6_ofField_163 : decode cX6_ofField 163 = .ok (.iload_n 1, 1) := by decide +kernel
theorem dX6_ofField_164 : decode cX6_ofField 164 = .ok (.invokevirtual 228, 3) := by decide +kernel
theorem dX6_ofField_167 : decode cX6_ofField 167 = .ok (.invokevirtual 231, 3) := by decide +kernel
theorem dX6_ofField_170 : decode cX6_ofField 170 = .ok (.ireturn, 1) := by decide +kernel
theorem dX6_ofField_171 : decode cX6_ofField 171 = .ok (.aload_n 0, 1) := by decide +kernel
theorem dX6_ofField_172 : decode cX6_ofField 172 = .ok (.getfield 12, 3) := by decide +kernel
theorem dX6_ofField_175 : decode cX6_ofField 175 = .ok (.iload_n 1, 1) := by decide +kernel
theorem dX6_ofField_176 : decode cX6_ofField 176 = .ok (.invokevirtual 134, 3) := by decide +kernel
theorem dX6_ofField_179 : decode cX6_ofField 179 = .ok (.ireturn, 1) := by decide +kernel
theorem dX6_ofCombine_0 : decode cX6_ofCombine 0 = .ok (.aload_n 0, 1) := by decide +kernel
theorem dX6_ofCombine_1 : decode cX6_ofCombine 1 = .ok (.getfield 12, 3) := by decide +kernel
theorem dX6_ofCombine_4 : decode cX6_ofCombine 4 = .ok (.iload_n 1, 1) := by decide +kernel
theorem dX6_ofCombine_5 : decode cX6_ofCombine 5 = .ok (.invokevirtual 125, 3) := by decide +kernel
theorem dX6_ofCombine_8 : decode cX6_ofCombine 8 = .ok (.astore_n 3, 1) := by decide +kernel
theorem dX6_ofCombine_9 : decode cX6_ofCombine 9 = .ok (.aload_n 3, 1) := by decide +kernel
theorem dX6_ofCombine_10 : decode cX6_ofCombine 10 = .ok (.ifnonnull 13, 3) := by decide +kernel
theorem dX6_ofCombine_13 : decode cX6_ofCombine 13 = .ok (.new 34, 3) := by decide +kernel
theorem dX6_ofCombine_16 : decode cX6_ofCombine 16 = .ok (.dup, 1) := by decide +kernel
theorem dX6_ofCombine_17 : decode cX6_ofCombine 17 = .ok (.ldc 129, 2) := by decide +kernel
theorem dX6_ofCombine_19 : decode cX6_ofCombine 19 = .ok (.invokespecial 38, 3) := by decide +kernel
theorem dX6_ofCombine_22 : decode cX6_ofCombine 22 = .ok (.athrow, 1) := by decide +kernel
theorem dX6_ofCombine_23 : decode cX6_ofCombine 23 = .ok (.iload_n 2, 1) := by decide +kernel
theorem dX6_ofCombine_24 : decode cX6_ofCombine 24 = .ok (.iconst 0, 1) := by decide +kernel
theorem dX6_ofCombine_25 : decode cX6_ofCombine 25 = .ok (.bipush 7, 2) := by decide +kernel
theorem dX6_ofCombine_27 : decode cX6_ofCombine 27 = .ok (.invokestatic 30, 3) := by decide +kernel
theorem dX6_ofCombine_30 : decode cX6_ofCombine 30 = .ok (.ifCond .eq 13, 3) := by decide +kernel
theorem dX6_ofCombine_33 : decode cX6_ofCombine 33 = .ok (.new 41, 3) := by decide +kernel
theorem dX6_ofCombine_36 : decode cX6_ofCombine 36 = .ok (.dup, 1) := by decide +kernel
theorem dX6_ofCombine_37 : decode cX6_ofCombine 37 = .ok (.ldc 207, 2) := by decide +kernel
theorem dX6_ofCombine_39 : decode cX6_ofCombine 39 = .ok (.invokespecial 45, 3) := by decide +kernel
theorem dX6_ofCombine_42 : decode cX6_ofCombine 42 = .ok (.athrow, 1) := by decide +kernel
theorem dX6_ofCombine_43 : decode cX6_ofCombine 43 = .ok (.iload_n 2, 1) := by decide +kernel
theorem dX6_ofCombine_44 : decode cX6_ofCombine 44 = .ok (.tableswitch 98 0 6 #[44, 49, 54, 70, 75, 88, 93], 44) := by decide +kernel
theorem dX6_ofCombine_88 : decode cX6_ofCombine 88 = .ok (.aload_n 3, 1) := by decide +kernel
theorem dX6_ofCombine_89 : decode cX6_ofCombine 89 = .ok (.getfield 150, 3) := by decide +kernel
theorem dX6_ofCombine_92 : decode cX6_ofCombine 92 = .ok (.ireturn, 1) := by decide +kernel
theorem dX6_ofCombine_93 : decode cX6_ofCombine 93 = .ok (.aload_n 3, 1) := by decide +kernel
theorem dX6_ofCombine_94 : decode cX6_ofCombine 94 = .ok (.getfield 234, 3) := by decide +kernel
theorem dX6_ofCombine_97 : decode cX6_ofCombine 97 = .ok (.ireturn, 1) := by decide +kernel
theorem dX6_ofCombine_98 : decode cX6_ofCombine 98 = .ok (.aload_n 3, 1) := by decide +kernel
theorem dX6_ofCombine_99 : decode cX6_ofCombine 99 = .ok (.getfield 234, 3) := by decide +kernel
theorem dX6_ofCombine_102 : decode cX6_ofCombine 102 = .ok (.ifCond .le 10, 3) := by decide +kernel
theorem dX6_ofCombine_105 : decode cX6_ofCombine 105 = .ok (.aload_n 3, 1) := by decide +kernel
theorem dX6_ofCombine_106 : decode cX6_ofCombine 106 = .ok (.getfield 237, 3) := by decide +kernel
theorem dX6_ofCombine_109 : decode cX6_ofCombine 109 = .ok (.goto 4, 3) := by decide +kernel
theorem dX6_ofCombine_112 : decode cX6_ofCombine 112 = .ok (.iconst (-1), 1) := by decide +kernel
theorem dX6_ofCombine_113 : decode cX6_ofCombine 113 = .ok (.ireturn, 1) := by decide +kernel
theorem dX6_ofCombine_114 : decode cX6_ofCombine 114 = .ok (.aload_n 3, 1) := by decide +kernel
theorem dX6_ofCombine_115 : decode cX6_ofCombine 115 = .ok (.getfield 169, 3) := by decide +kernel
theorem dX6_ofCombine_118 : decode cX6_ofCombine 118 = .ok (.ireturn, 1) := by decide +kernel
theorem dX6_ofCombine_119 : decode cX6_ofCombine 119 = .ok (.aload_n 3, 1) := by decide +kernel
theorem dX6_ofCombine_120 : decode cX6_ofCombine 120 = .ok (.getfield 177, 3) := by decide +kernel
theorem dX6_ofCombine_123 : decode cX6_ofCombine 123 = .ok (.ifCond .eq 7, 3) := by decide +kernel
theorem dX6_ofCombine_126 : decode cX6_ofCombine 126 = .ok (.iconst 1, 1) := by decide +kernel
theorem dX6_ofCombine_127 : decode cX6_ofCombine 127 = .ok (.goto 4, 3) := by decide +kernel
theorem dX6_ofCombine_130 : decode cX6_ofCombine 130 = .ok (.iconst 0, 1) := by decide +kernel
theorem dX6_ofCombine_131 : decode cX6_ofCombine 131 = .ok (.ireturn, 1) := by decide +kernel
theorem dX6_ofCombine_132 : decode cX6_ofCombine 132 = .ok (.aload_n 3, 1) := by decide +kernel
theorem dX6_ofCombine_133 : decode cX6_ofCombine 133 = .ok (.getfield 131, 3) := by decide +kernel
theorem dX6_ofCombine_136 : decode cX6_ofCombine 136 = .ok (.ireturn, 1) := by decide +kernel
theorem dX6_ofCombine_137 : decode cX6_ofCombine 137 = .ok (.aload_n 3, 1) := by decide +kernel
theorem dX6_ofCombine_138 : decode cX6_ofCombine 138 = .ok (.getfield 240, 3) := by decide +kernel
theorem dX6_ofCombine_141 : decode cX6_ofCombine 141 = .ok (.ireturn, 1) := by decide +kernel
theorem dX6_ofCombine_142 : decode cX6_ofCombine 142 = .ok (.aload_n 3, 1) := by decide +kernel
theorem dX6_ofCombine_143 : decode cX6_ofCombine 143 = .ok (.getfield 241, 3) := by decide +kernel
theorem dX6_ofCombine_146 : decode cX6_ofCombine 146 = .ok (.ireturn, 1) := by decide +kernel
theorem dX6_ofTruck_0 : decode cX6_ofTruck 0 = .ok (.aload_n 0, 1) := by decide +kernel
theorem dX6_ofTruck_1 : decode cX6_ofTruck 1 = .ok (.getfield 12, 3) := by decide +kernel
theorem dX6_ofTruck_4 : decode cX6_ofTruck 4 = .ok (.iload_n 1, 1) := by decide +kernel
theorem dX6_ofTruck_5 : decode cX6_ofTruck 5 = .ok (.invokevirtual 138, 3) := by decide +kernel
theorem dX6_ofTruck_8 : decode cX6_ofTruck 8 = .ok (.astore_n 3, 1) := by decide +kernel
theorem dX6_ofTruck_9 : decode cX6_ofTruck 9 = .ok (.aload_n 3, 1) := by decide +kernel
theorem dX6_ofTruck_10 : decode cX6_ofTruck 10 = .ok (.ifnonnull 13, 3) := by decide +kernel
theorem dX6_ofTruck_13 : decode cX6_ofTruck 13 = .ok (.new 34, 3) := by decide +kernel
theorem dX6_ofTruck_16 : decode cX6_ofTruck 16 = .ok (.dup, 1) := by decide +kernel
theorem dX6_ofTruck_17 : decode cX6_ofTruck 17 = .ok (.ldc 142, 2) := by decide +kernel
theorem dX6_ofTruck_19 : decode cX6_ofTruck 19 = .ok (.invokespecial 38, 3) := by decide +kernel
theorem dX6_ofTruck_22 : decode cX6_ofTruck 22 = .ok (.athrow, 1) := by decide +kernel
theorem dX6_ofTruck_23 : decode cX6_ofTruck 23 = .ok (.iload_n 2, 1) := by decide +kernel
theorem dX6_ofTruck_24 : decode cX6_ofTruck 24 = .ok (.iconst 0, 1) := by decide +kernel
theorem dX6_ofTruck_25 : decode cX6_ofTruck 25 = .ok (.bipush 7, 2) := by decide +kernel
theorem dX6_ofTruck_27 : decode cX6_ofTruck 27 = .ok (.invokestatic 30, 3) := by decide +kernel
theorem dX6_ofTruck_30 : decode cX6_ofTruck 30 = .ok (.ifCond .eq 13, 3) := by decide +kernel
theorem dX6_ofTruck_33 : decode cX6_ofTruck 33 = .ok (.new 41, 3) := by decide +kernel
theorem dX6_ofTruck_36 : decode cX6_ofTruck 36 = .ok (.dup, 1) := by decide +kernel
theorem dX6_ofTruck_37 : decode cX6_ofTruck 37 = .ok (.ldc 207, 2) := by decide +kernel
theorem dX6_ofTruck_39 : decode cX6_ofTruck 39 = .ok (.invokespecial 45, 3) := by decide +kernel
theorem dX6_ofTruck_42 : decode cX6_ofTruck 42 = .ok (.athrow, 1) := by decide +kernel
theorem dX6_ofTruck_43 : decode cX6_ofTruck 43 = .ok (.iload_n 2, 1) := by decide +kernel
theorem dX6_ofTruck_44 : decode cX6_ofTruck 44 = .ok (.tableswitch 101 0 6 #[44, 49, 54, 70, 86, 91, 96], 44) := by decide +kernel
theorem dX6_ofTruck_88 : decode cX6_ofTruck 88 = .ok (.aload_n 3, 1) := by decide +kernel
theorem dX6_ofTruck_89 : decode cX6_ofTruck 89 = .ok (.getfield 153, 3) := by decide +kernel
theorem dX6_ofTruck_92 : decode cX6_ofTruck 92 = .ok (.ireturn, 1) := by decide +kernel
theorem dX6_ofTruck_93 : decode cX6_ofTruck 93 = .ok (.aload_n 3, 1) := by decide +kernel
theorem dX6_ofTruck_94 : decode cX6_ofTruck 94 = .ok (.getfield 244, 3) := by decide +kernel
theorem dX6_ofTruck_97 : decode cX6_ofTruck 97 = .ok (.ireturn, 1) := by decide +kernel
theorem dX6_ofTruck_98 : decode cX6_ofTruck 98 = .ok (.aload_n 3, 1) := by decide +kernel
theorem dX6_ofTruck_99 : decode cX6_ofTruck 99 = .ok (.getfield 244, 3) := by decide +kernel
theorem dX6_ofTruck_102 : decode cX6_ofTruck 102 = .ok (.ifCond .le 10, 3) := by decide +kernel
theorem dX6_ofTruck_105 : decode cX6_ofTruck 105 = .ok (.aload_n 3, 1) := by decide +kernel
theorem dX6_ofTruck_106 : decode cX6_ofTruck 106 = .ok (.getfield 247, 3) := by decide +kernel
theorem dX6_ofTruck_109 : decode cX6_ofTruck 109 = .ok (.goto 4, 3) := by decide +kernel
theorem dX6_ofTruck_112 : decode cX6_ofTruck 112 = .ok (.iconst (-1), 1) := by decide +kernel
theorem dX6_ofTruck_113 : decode cX6_ofTruck 113 = .ok (.ireturn, 1) := by decide +kernel
theorem dX6_ofTruck_114 : decode cX6_ofTruck 114 = .ok (.aload_n 3, 1) := by decide +kernel
theorem dX6_ofTruck_115 : decode cX6_ofTruck 115 = .ok (.getfield 244, 3) := by decide +kernel
theorem dX6_ofTruck_118 : decode cX6_ofTruck 118 = .ok (.ifCond .le 10, 3) := by decide +kernel
theorem dX6_ofTruck_121 : decode cX6_ofTruck 121 = .ok (.aload_n 3, 1) := by decide +kernel
theorem dX6_ofTruck_122 : decode cX6_ofTruck 122 = .ok (.getfield 250, 3) := by decide +kernel
theorem dX6_ofTruck_125 : decode cX6_ofTruck 125 = .ok (.goto 4, 3) := by decide +kernel
theorem dX6_ofTruck_128 : decode cX6_ofTruck 128 = .ok (.iconst 0, 1) := by decide +kernel
theorem dX6_ofTruck_129 : decode cX6_ofTruck 129 = .ok (.ireturn, 1) := by decide +kernel
theorem dX6_ofTruck_130 : decode cX6_ofTruck 130 = .ok (.aload_n 3, 1) := by decide +kernel
theorem dX6_ofTruck_131 : decode cX6_ofTruck 131 = .ok (.getfield 166, 3) := by decide +kernel
theorem dX6_ofTruck_134 : decode cX6_ofTruck 134 = .ok (.ireturn, 1) := by decide +kernel
theorem dX6_ofTruck_135 : decode cX6_ofTruck 135 = .ok (.aload_n 3, 1) := by decide +kernel
theorem dX6_ofTruck_136 : decode cX6_ofTruck 136 = .ok (.getfield 251, 3) := by decide +kernel
theorem dX6_ofTruck_139 : decode cX6_ofTruck 139 = .ok (.ireturn, 1) := by decide +kernel
theorem dX6_ofTruck_140 : decode cX6_ofTruck 140 = .ok (.aload_n 3, 1) := by decide +kernel
theorem dX6_ofTruck_141 : decode cX6_ofTruck 141 = .ok (.getfield 254, 3) := by decide +kernel
theorem dX6_ofTruck_144 : decode cX6_ofTruck 144 = .ok (.ireturn, 1) := by decide +kernel
theorem dX6_ofTruck_145 : decode cX6_ofTruck 145 = .ok (.aload_n 3, 1) := by decide +kernel
theorem dX6_ofTruck_146 : decode cX6_ofTruck 146 = .ok (.getfield 257, 3) := by decide +kernel
theorem dX6_ofTruck_149 : decode cX6_ofTruck 149 = .ok (.ireturn, 1) := by decide +kernel
theorem dX6_ofTicket_0 : decode cX6_ofTicket 0 = .ok (.aload_n 0, 1) := by decide +kernel
theorem dX6_ofTicket_1 : decode cX6_ofTicket 1 = .ok (.getfield 12, 3) := by decide +kernel
theorem dX6_ofTicket_4 : decode cX6_ofTicket 4 = .ok (.iload_n 1, 1) := by decide +kernel
theorem dX6_ofTicket_5 : decode cX6_ofTicket 5 = .ok (.invokevirtual 260, 3) := by decide +kernel
theorem dX6_ofTicket_8 : decode cX6_ofTicket 8 = .ok (.astore_n 3, 1) := by decide +kernel
theorem dX6_ofTicket_9 : decode cX6_ofTicket 9 = .ok (.aload_n 3, 1) := by decide +kernel
theorem dX6_ofTicket_10 : decode cX6_ofTicket 10 = .ok (.ifnonnull 14, 3) := by decide +kernel
theorem dX6_ofTicket_13 : decode cX6_ofTicket 13 = .ok (.new 34, 3) := by decide +kernel
theorem dX6_ofTicket_16 : decode cX6_ofTicket 16 = .ok (.dup, 1) := by decide +kernel
theorem dX6_ofTicket_17 : decode cX6_ofTicket 17 = .ok (.ldc_w 264, 3) := by decide +kernel
theorem dX6_ofTicket_20 : decode cX6_ofTicket 20 = .ok (.invokespecial 38, 3) := by decide +kernel
theorem dX6_ofTicket_23 : decode cX6_ofTicket 23 = .ok (.athrow, 1) := by decide +kernel
theorem dX6_ofTicket_24 : decode cX6_ofTicket 24 = .ok (.iload_n 2, 1) := by decide +kernel
theorem dX6_ofTicket_25 : decode cX6_ofTicket 25 = .ok (.iconst 0, 1) := by decide +kernel
theorem dX6_ofTicket_26 : decode cX6_ofTicket 26 = .ok (.bipush 6, 2) := by decide +kernel
theorem dX6_ofTicket_28 : decode cX6_ofTicket 28 = .ok (.invokestatic 30, 3) := by decide +kernel
theorem dX6_ofTicket_31 : decode cX6_ofTicket 31 = .ok (.ifCond .eq 13, 3) := by decide +kernel
theorem dX6_ofTicket_34 : decode cX6_ofTicket 34 = .ok (.new 41, 3) := by decide +kernel
theorem dX6_ofTicket_37 : decode cX6_ofTicket 37 = .ok (.dup, 1) := by decide +kernel
theorem dX6_ofTicket_38 : decode cX6_ofTicket 38 = .ok (.ldc 207, 2) := by decide +kernel
theorem dX6_ofTicket_40 : decode cX6_ofTicket 40 = .ok (.invokespecial 45, 3) := by decide +kernel
theorem dX6_ofTicket_43 : decode cX6_ofTicket 43 = .ok (.athrow, 1) := by decide +kernel
theorem dX6_ofTicket_44 : decode cX6_ofTicket 44 = .ok (.iload_n 2, 1) := by decide +kernel
theorem dX6_ofTicket_45 : decode cX6_ofTicket 45 = .ok (.tableswitch 69 0 5 #[39, 44, 49, 54, 59, 64], 39) := by decide +kernel
theorem dX6_ofTicket_84 : decode cX6_ofTicket 84 = .ok (.aload_n 3, 1) := by decide +kernel
theorem dX6_ofTicket_85 : decode cX6_ofTicket 85 = .ok (.getfield 266, 3) := by decide +kernel
theorem dX6_ofTicket_88 : decode cX6_ofTicket 88 = .ok (.ireturn, 1) := by decide +kernel
theorem dX6_ofTicket_89 : decode cX6_ofTicket 89 = .ok (.aload_n 3, 1) := by decide +kernel
theorem dX6_ofTicket_90 : decode cX6_ofTicket 90 = .ok (.getfield 271, 3) := by decide +kernel
theorem dX6_ofTicket_93 : decode cX6_ofTicket 93 = .ok (.ireturn, 1) := by decide +kernel
theorem dX6_ofTicket_94 : decode cX6_ofTicket 94 = .ok (.aload_n 3, 1) := by decide +kernel
theorem dX6_ofTicket_95 : decode cX6_ofTicket 95 = .ok (.getfield 274, 3) := by decide +kernel
theorem dX6_ofTicket_98 : decode cX6_ofTicket 98 = .ok (.ireturn, 1) := by decide +kernel
theorem dX6_ofTicket_99 : decode cX6_ofTicket 99 = .ok (.aload_n 3, 1) := by decide +kernel
theorem dX6_ofTicket_100 : decode cX6_ofTicket 100 = .ok (.getfield 275, 3) := by decide +kernel
theorem dX6_ofTicket_103 : decode cX6_ofTicket 103 = .ok (.ireturn, 1) := by decide +kernel
theorem dX6_ofTicket_104 : decode cX6_ofTicket 104 = .ok (.aload_n 3, 1) := by decide +kernel
theorem dX6_ofTicket_105 : decode cX6_ofTicket 105 = .ok (.getfield 278, 3) := by decide +kernel
theorem dX6_ofTicket_108 : decode cX6_ofTicket 108 = .ok (.ireturn, 1) := by decide +kernel
theorem dX6_ofTicket_109 : decode cX6_ofTicket 109 = .ok (.aload_n 3, 1) := by decide +kernel
theorem dX6_ofTicket_110 : decode cX6_ofTicket 110 = .ok (.getfield 281, 3) := by decide +kernel
theorem dX6_ofTicket_113 : decode cX6_ofTicket 113 = .ok (.ireturn, 1) := by decide +kernel
theorem dX6_ofTicket_114 : decode cX6_ofTicket 114 = .ok (.aload_n 3, 1) := by decide +kernel
theorem dX6_ofTicket_115 : decode cX6_ofTicket 115 = .ok (.getfield 284, 3) := by decide +kernel
theorem dX6_ofTicket_118 : decode cX6_ofTicket 118 = .ok (.ireturn, 1) := by decide +kernel
theorem dX6_owed_0 : decode cX6_owed 0 = .ok (.iload_n 1, 1) := by decide +kernel
theorem dX6_owed_1 : decode cX6_owed 1 = .ok (.iconst 0, 1) := by decide +kernel
theorem dX6_owed_2 : decode cX6_owed 2 = .ok (.iconst 3, 1) := by decide +kernel
theorem dX6_owed_3 : decode cX6_owed 3 = .ok (.invokestatic 30, 3) := by decide +kernel
theorem dX6_owed_6 : decode cX6_owed 6 = .ok (.ifCond .eq 13, 3) := by decide +kernel
theorem dX6_owed_9 : decode cX6_owed 9 = .ok (.new 34, 3) := by decide +kernel
theorem dX6_owed_12 : decode cX6_owed 12 = .ok (.dup, 1) := by decide +kernel
theorem dX6_owed_13 : decode cX6_owed 13 = .ok (.ldc 36, 2) := by decide +kernel
theorem dX6_owed_15 : decode cX6_owed 15 = .ok (.invokespecial 38, 3) := by decide +kernel
theorem dX6_owed_18 : decode cX6_owed 18 = .ok (.athrow, 1) := by decide +kernel
theorem dX6_owed_19 : decode cX6_owed 19 = .ok (.iconst 0, 1) := by decide +kernel
theorem dX6_owed_20 : decode cX6_owed 20 = .ok (.istore_n 3, 1) := by decide +kernel
theorem dX6_owed_21 : decode cX6_owed 21 = .ok (.iconst 0, 1) := by decide +kernel
theorem dX6_owed_22 : decode cX6_owed 22 = .ok (.istore 4, 2) := by decide +kernel
theorem dX6_owed_24 : decode cX6_owed 24 = .ok (.iload 4, 2) := by decide +kernel
theorem dX6_owed_26 : decode cX6_owed 26 = .ok (.aload_n 0, 1) := by decide +kernel
theorem dX6_owed_27 : decode cX6_owed 27 = .ok (.getfield 12, 3) := by decide +kernel
theorem dX6_owed_30 : decode cX6_owed 30 = .ok (.getfield 46, 3) := by decide +kernel
theorem dX6_owed_33 : decode cX6_owed 33 = .ok (.invokevirtual 50, 3) := by decide +kernel
theorem dX6_owed_36 : decode cX6_owed 36 = .ok (.if_icmp .ge 55, 3) := by decide +kernel
theorem dX6_owed_39 : decode cX6_owed 39 = .ok (.aload_n 0, 1) := by decide +kernel
theorem dX6_owed_40 : decode cX6_owed 40 = .ok (.getfield 12, 3) := by decide +kernel
theorem dX6_owed_43 : decode cX6_owed 43 = .ok (.getfield 46, 3) := by decide +kernel
theorem dX6_owed_46 : decode cX6_owed 46 = .ok (.iload 4, 2) := by decide +kernel
theorem dX6_owed_48 : decode cX6_owed 48 = .ok (.invokevirtual 287, 3) := by decide +kernel
theorem dX6_owed_51 : decode cX6_owed 51 = .ok (.checkcast 21, 3) := by decide +kernel
theorem dX6_owed_54 : decode cX6_owed 54 = .ok (.astore 5, 2) := by decide +kernel
theorem dX6_owed_56 : decode cX6_owed 56 = .ok (.aload 5, 2) := by decide +kernel
theorem dX6_owed_58 : decode cX6_owed 58 = .ok (.getfield 209, 3) := by decide +kernel
theorem dX6_owed_61 : decode cX6_owed 61 = .ok (.iload_n 1, 1) := by decide +kernel
theorem dX6_owed_62 : decode cX6_owed 62 = .ok (.if_icmp .ne 23, 3) := by decide +kernel
theorem dX6_owed_65 : decode cX6_owed 65 = .ok (.iload_n 3, 1) := by decide +kernel
theorem dX6_owed_66 : decode cX6_owed 66 = .ok (.iload_n 2, 1) := by decide +kernel
theorem dX6_owed_67 : decode cX6_owed 67 = .ok (.ifCond .eq 11, 3) := by decide +kernel
theorem dX6_owed_70 : decode cX6_owed 70 = .ok (.aload 5, 2) := by decide +kernel
theorem dX6_owed_72 : decode cX6_owed 72 = .ok (.getfield 291, 3) := by decide +kernel
theorem dX6_owed_75 : decode cX6_owed 75 = .ok (.goto 8, 3) := by decide +kernel
theorem dX6_owed_78 : decode cX6_owed 78 = .ok (.aload 5, 2) := by decide +kernel
theorem dX6_owed_80 : decode cX6_owed 80 = .ok (.getfield 294, 3) := by decide +kernel
theorem dX6_owed_83 : decode cX6_owed 83 = .ok (.iadd, 1) := by decide +kernel
theorem dX6_owed_84 : decode cX6_owed 84 = .ok (.istore_n 3, 1) := by decide +kernel
theorem dX6_owed_85 : decode cX6_owed 85 = .ok (.iinc 4 1, 3) := by decide +kernel
theorem dX6_owed_88 : decode cX6_owed 88 = .ok (.goto (-64), 3) := by decide +kernel
theorem dX6_owed_91 : decode cX6_owed 91 = .ok (.iload_n 3, 1) := by decide +kernel
theorem dX6_owed_92 : decode cX6_owed 92 = .ok (.ireturn, 1) := by decide +kernel
theorem dX6_many_0 : decode cX6_many 0 = .ok (.iload_n 1, 1) := by decide +kernel
theorem dX6_many_1 : decode cX6_many 1 = .ok (.iconst 0, 1) := by decide +kernel
theorem dX6_many_2 : decode cX6_many 2 = .ok (.bipush 12, 2) := by decide +kernel
theorem dX6_many_4 : decode cX6_many 4 = .ok (.invokestatic 30, 3) := by decide +kernel
theorem dX6_many_7 : decode cX6_many 7 = .ok (.ifCond .eq 13, 3) := by decide +kernel
theorem dX6_many_10 : decode cX6_many 10 = .ok (.new 41, 3) := by decide +kernel
theorem dX6_many_13 : decode cX6_many 13 = .ok (.dup, 1) := by decide +kernel
theorem dX6_many_14 : decode cX6_many 14 = .ok (.ldc 207, 2) := by decide +kernel
theorem dX6_many_16 : decode cX6_many 16 = .ok (.invokespecial 45, 3) := by decide +kernel
theorem dX6_many_19 : decode cX6_many 19 = .ok (.athrow, 1) := by decide +kernel
theorem dX6_many_20 : decode cX6_many 20 = .ok (.iload_n 1, 1) := by decide +kernel
theorem dX6_many_21 : decode cX6_many 21 = .ok (.tableswitch 174 0 11 #[63, 71, 82, 90, 101, 109, 120, 131, 142, 150, 158, 166], 63) := by decide +kernel
theorem dX6_many_84 : decode cX6_many 84 = .ok (.aload_n 0, 1) := by decide +kernel
theorem dX6_many_85 : decode cX6_many 85 = .ok (.getfield 12, 3) := by decide +kernel
theorem dX6_many_88 : decode cX6_many 88 = .ok (.getfield 196, 3) := by decide +kernel
theorem dX6_many_91 : decode cX6_many 91 = .ok (.ireturn, 1) := by decide +kernel
theorem dX6_many_92 : decode cX6_many 92 = .ok (.aload_n 0, 1) := by decide +kernel
theorem dX6_many_93 : decode cX6_many 93 = .ok (.getfield 12, 3) := by decide +kernel
theorem dX6_many_96 : decode cX6_many 96 = .ok (.getfield 46, 3) := by decide +kernel
theorem dX6_many_99 : decode cX6_many 99 = .ok (.invokevirtual 50, 3) := by decide +kernel
theorem dX6_many_102 : decode cX6_many 102 = .ok (.ireturn, 1) := by decide +kernel
theorem dX6_many_103 : decode cX6_many 103 = .ok (.aload_n 0, 1) := by decide +kernel
theorem dX6_many_104 : decode cX6_many 104 = .ok (.getfield 12, 3) := by decide +kernel
theorem dX6_many_107 : decode cX6_many 107 = .ok (.invokevirtual 297, 3) := by decide +kernel
theorem dX6_many_110 : decode cX6_many 110 = .ok (.ireturn, 1) := by decide +kernel
theorem dX6_many_111 : decode cX6_many 111 = .ok (.aload_n 0, 1) := by decide +kernel
theorem dX6_many_112 : decode cX6_many 112 = .ok (.getfield 12, 3) := by decide +kernel
theorem dX6_many_115 : decode cX6_many 115 = .ok (.getfield 82, 3) := by decide +kernel
theorem dX6_many_118 : decode cX6_many 118 = .ok (.invokevirtual 50, 3) := by decide +kernel
theorem dX6_many_121 : decode cX6_many 121 = .ok (.ireturn, 1) := by decide +kernel
theorem dX6_many_122 : decode cX6_many 122 = .ok (.aload_n 0, 1) := by decide +kernel
theorem dX6_many_123 : decode cX6_many 123 = .ok (.getfield 12, 3) := by decide +kernel
theorem dX6_many_126 : decode cX6_many 126 = .ok (.invokevirtual 300, 3) := by decide +kernel
theorem dX6_many_129 : decode cX6_many 129 = .ok (.ireturn, 1) := by decide +kernel
theorem dX6_many_130 : decode cX6_many 130 = .ok (.aload_n 0, 1) := by decide +kernel
theorem dX6_many_131 : decode cX6_many 131 = .ok (.getfield 12, 3) := by decide +kernel
theorem dX6_many_134 : decode cX6_many 134 = .ok (.getfield 94, 3) := by decide +kernel
theorem dX6_many_137 : decode cX6_many 137 = .ok (.invokevirtual 50, 3) := by decide +kernel
theorem dX6_many_140 : decode cX6_many 140 = .ok (.ireturn, 1) := by decide +kernel
theorem dX6_many_141 : decode cX6_many 141 = .ok (.aload_n 0, 1) := by decide +kernel
theorem dX6_many_142 : decode cX6_many 142 = .ok (.getfield 12, 3) := by decide +kernel
theorem dX6_many_145 : decode cX6_many 145 = .ok (.getfield 110, 3) := by decide +kernel
theorem dX6_many_148 : decode cX6_many 148 = .ok (.invokevirtual 50, 3) := by decide +kernel
theorem dX6_many_151 : decode cX6_many 151 = .ok (.ireturn, 1) := by decide +kernel
theorem dX6_many_152 : decode cX6_many 152 = .ok (.aload_n 0, 1) := by decide +kernel
theorem dX6_many_153 : decode cX6_many 153 = .ok (.getfield 12, 3) := by decide +kernel
theorem dX6_many_156 : decode cX6_many 156 = .ok (.getfield 201, 3) := by decide +kernel
theorem dX6_many_159 : decode cX6_many 159 = .ok (.invokevirtual 50, 3) := by decide +kernel
theorem dX6_many_162 : decode cX6_many 162 = .ok (.ireturn, 1) := by decide +kernel
theorem dX6_many_163 : decode cX6_many 163 = .ok (.aload_n 0, 1) := by decide +kernel
theorem dX6_many_164 : decode cX6_many 164 = .ok (.getfield 12, 3) := by decide +kernel
theorem dX6_many_167 : decode cX6_many 167 = .ok (.getfield 172, 3) := by decide +kernel
theorem dX6_many_170 : decode cX6_many 170 = .ok (.ireturn, 1) := by decide +kernel
theorem dX6_many_171 : decode cX6_many 171 = .ok (.aload_n 0, 1) := by decide +kernel
theorem dX6_many_172 : decode cX6_many 172 = .ok (.getfield 12, 3) := by decide +kernel
theorem dX6_many_175 : decode cX6_many 175 = .ok (.invokevirtual 303, 3) := by decide +kernel
theorem dX6_many_178 : decode cX6_many 178 = .ok (.ireturn, 1) := by decide +kernel
theorem dX6_many_179 : decode cX6_many 179 = .ok (.aload_n 0, 1) := by decide +kernel
theorem dX6_many_180 : decode cX6_many 180 = .ok (.getfield 12, 3) := by decide +kernel
theorem dX6_many_183 : decode cX6_many 183 = .ok (.invokevirtual 306, 3) := by decide +kernel
theorem dX6_many_186 : decode cX6_many 186 = .ok (.ireturn, 1) := by decide +kernel
theorem dX6_many_187 : decode cX6_many 187 = .ok (.aload_n 0, 1) := by decide +kernel
theorem dX6_many_188 : decode cX6_many 188 = .ok (.getfield 12, 3) := by decide +kernel
theorem dX6_many_191 : decode cX6_many 191 = .ok (.invokevirtual 309, 3) := by decide +kernel
theorem dX6_many_194 : decode cX6_many 194 = .ok (.ireturn, 1) := by decide +kernel
theorem dX6_many_195 : decode cX6_many 195 = .ok (.aload_n 0, 1) := by decide +kernel
theorem dX6_many_196 : decode cX6_many 196 = .ok (.getfield 12, 3) := by decide +kernel
theorem dX6_many_199 : decode cX6_many 199 = .ok (.invokevirtual 312, 3) := by decide +kernel
theorem dX6_many_202 : decode cX6_many 202 = .ok (.ireturn, 1) := by decide +kernel
theorem dX6_readyIn_0 : decode cX6_readyIn 0 = .ok (.aload_n 0, 1) := by decide +kernel
theorem dX6_readyIn_1 : decode cX6_readyIn 1 = .ok (.getfield 12, 3) := by decide +kernel
theorem dX6_readyIn_4 : decode cX6_readyIn 4 = .ok (.iload_n 1, 1) := by decide +kernel
theorem dX6_readyIn_5 : decode cX6_readyIn 5 = .ok (.invokevirtual 65, 3) := by decide +kernel
theorem dX6_readyIn_8 : decode cX6_readyIn 8 = .ok (.astore 4, 2) := by decide +kernel
theorem dX6_readyIn_10 : decode cX6_readyIn 10 = .ok (.aload 4, 2) := by decide +kernel
theorem dX6_readyIn_12 : decode cX6_readyIn 12 = .ok (.ifnonnull 13, 3) := by decide +kernel
theorem dX6_readyIn_15 : decode cX6_readyIn 15 = .ok (.new 34, 3) := by decide +kernel
theorem dX6_readyIn_18 : decode cX6_readyIn 18 = .ok (.dup, 1) := by decide +kernel
theorem dX6_readyIn_19 : decode cX6_readyIn 19 = .ok (.ldc 69, 2) := by decide +kernel
theorem dX6_readyIn_21 : decode cX6_readyIn 21 = .ok (.invokespecial 38, 3) := by decide +kernel
theorem dX6_readyIn_24 : decode cX6_readyIn 24 = .ok (.athrow, 1) := by decide +kernel
theorem dX6_readyIn_25 : decode cX6_readyIn 25 = .ok (.iload_n 2, 1) := by decide +kernel
theorem dX6_readyIn_26 : decode cX6_readyIn 26 = .ok (.iload_n 3, 1) := by decide +kernel
theorem dX6_readyIn_27 : decode cX6_readyIn 27 = .ok (.iconst 0, 1) := by decide +kernel
theorem dX6_readyIn_28 : decode cX6_readyIn 28 = .ok (.invokestatic 318, 3) := by decide +kernel
theorem dX6_readyIn_31 : decode cX6_readyIn 31 = .ok (.ifCond .eq 14, 3) := by decide +kernel
theorem dX6_readyIn_34 : decode cX6_readyIn 34 = .ok (.new 41, 3) := by decide +kernel
theorem dX6_readyIn_37 : decode cX6_readyIn 37 = .ok (.dup, 1) := by decide +kernel
theorem dX6_readyIn_38 : decode cX6_readyIn 38 = .ok (.ldc_w 321, 3) := by decide +kernel
theorem dX6_readyIn_41 : decode cX6_readyIn 41 = .ok (.invokespecial 45, 3) := by decide +kernel
theorem dX6_readyIn_44 : decode cX6_readyIn 44 = .ok (.athrow, 1) := by decide +kernel
theorem dX6_readyIn_45 : decode cX6_readyIn 45 = .ok (.aload_n 0, 1) := by decide +kernel
theorem dX6_readyIn_46 : decode cX6_readyIn 46 = .ok (.getfield 26, 3) := by decide +kernel
theorem dX6_readyIn_49 : decode cX6_readyIn 49 = .ok (.aload 4, 2) := by decide +kernel
theorem dX6_readyIn_51 : decode cX6_readyIn 51 = .ok (.invokevirtual 323, 3) := by decide +kernel
theorem dX6_readyIn_54 : decode cX6_readyIn 54 = .ok (.aload_n 0, 1) := by decide +kernel
theorem dX6_readyIn_55 : decode cX6_readyIn 55 = .ok (.getfield 26, 3) := by decide +kernel
theorem dX6_readyIn_58 : decode cX6_readyIn 58 = .ok (.aload_n 0, 1) := by decide +kernel
theorem dX6_readyIn_59 : decode cX6_readyIn 59 = .ok (.getfield 12, 3) := by decide +kernel
theorem dX6_readyIn_62 : decode cX6_readyIn 62 = .ok (.invokevirtual 327, 3) := by decide +kernel
theorem dX6_readyIn_65 : decode cX6_readyIn 65 = .ok (.invokevirtual 330, 3) := by decide +kernel
theorem dX6_readyIn_68 : decode cX6_readyIn 68 = .ok (.ifCond .eq 5, 3) := by decide +kernel
theorem dX6_readyIn_71 : decode cX6_readyIn 71 = .ok (.iconst 0, 1) := by decide +kernel
theorem dX6_readyIn_72 : decode cX6_readyIn 72 = .ok (.ireturn, 1) := by decide +kernel
theorem dX6_readyIn_73 : decode cX6_readyIn 73 = .ok (.iconst 1, 1) := by decide +kernel
theorem dX6_readyIn_74 : decode cX6_readyIn 74 = .ok (.istore 5, 2) := by decide +kernel
theorem dX6_readyIn_76 : decode cX6_readyIn 76 = .ok (.iload 5, 2) := by decide +kernel
theorem dX6_readyIn_78 : decode cX6_readyIn 78 = .ok (.bipush 96, 2) := by decide +kernel
theorem dX6_readyIn_80 : decode cX6_readyIn 80 = .ok (.if_icmp .gt 51, 3) := by decide +kernel
theorem dX6_readyIn_83 : decode cX6_readyIn 83 = .ok (.aload_n 0, 1) := by decide +kernel
theorem dX6_readyIn_84 : decode cX6_readyIn 84 = .ok (.getfield 12, 3) := by decide +kernel
theorem dX6_readyIn_87 : decode cX6_readyIn 87 = .ok (.getfield 196, 3) := by decide +kernel
theorem dX6_readyIn_90 : decode cX6_readyIn 90 = .ok (.iload 5, 2) := by decide +kernel
theorem dX6_readyIn_92 : decode cX6_readyIn 92 = .ok (.iadd, 1) := by decide +kernel
theorem dX6_readyIn_93 : decode cX6_readyIn 93 = .ok (.bipush 24, 2) := by decide +kernel
theorem dX6_readyIn_95 : decode cX6_readyIn 95 = .ok (.irem, 1) := by decide +kernel
theorem dX6_readyIn_96 : decode cX6_readyIn 96 = .ok (.istore 6, 2) := by decide +kernel
theorem dX6_readyIn_98 : decode cX6_readyIn 98 = .ok (.aload_n 0, 1) := by decide +kernel
theorem dX6_readyIn_99 : decode cX6_readyIn 99 = .ok (.getfield 26, 3) := by decide +kernel
theorem dX6_readyIn_102 : decode cX6_readyIn 102 = .ok (.iload 6, 2) := by decide +kernel
theorem dX6_readyIn_104 : decode cX6_readyIn 104 = .ok (.iload_n 2, 1) := by decide +kernel
theorem dX6_readyIn_105 : decode cX6_readyIn 105 = .ok (.iload_n 3, 1) := by decide +kernel
theorem dX6_readyIn_106 : decode cX6_readyIn 106 = .ok (.iconst 0, 1) := by decide +kernel
theorem dX6_readyIn_107 : decode cX6_readyIn 107 = .ok (.invokevirtual 334, 3) := by decide +kernel
theorem dX6_readyIn_110 : decode cX6_readyIn 110 = .ok (.aload_n 0, 1) := by decide +kernel
theorem dX6_readyIn_111 : decode cX6_readyIn 111 = .ok (.getfield 26, 3) := by decide +kernel
theorem dX6_readyIn_114 : decode cX6_readyIn 114 = .ok (.iload 6, 2) := by decide +kernel
theorem dX6_readyIn_116 : decode cX6_readyIn 116 = .ok (.invokevirtual 330, 3) := by decide +kernel
theorem dX6_readyIn_119 : decode cX6_readyIn 119 = .ok (.ifCond .eq 6, 3) := by decide +kernel
theorem dX6_readyIn_122 : decode cX6_readyIn 122 = .ok (.iload 5, 2) := by decide +kernel
theorem dX6_readyIn_124 : decode cX6_readyIn 124 = .ok (.ireturn, 1) := by decide +kernel
theorem dX6_readyIn_125 : decode cX6_readyIn 125 = .ok (.iinc 5 1, 3) := by decide +kernel
theorem dX6_readyIn_128 : decode cX6_readyIn 128 = .ok (.goto (-52), 3) := by decide +kernel
theorem dX6_readyIn_131 : decode cX6_readyIn 131 = .ok (.iconst (-1), 1) := by decide +kernel
theorem dX6_readyIn_132 : decode cX6_readyIn 132 = .ok (.ireturn, 1) := by decide +kernel
theorem dX6_nextField_0 : decode cX6_nextField 0 = .ok (.aload_n 0, 1) := by decide +kernel
theorem dX6_nextField_1 : decode cX6_nextField 1 = .ok (.getfield 12, 3) := by decide +kernel
theorem dX6_nextField_4 : decode cX6_nextField 4 = .ok (.iload_n 1, 1) := by decide +kernel
theorem dX6_nextField_5 : decode cX6_nextField 5 = .ok (.invokevirtual 125, 3) := by decide +kernel
theorem dX6_nextField_8 : decode cX6_nextField 8 = .ok (.astore 5, 2) := by decide +kernel
theorem dX6_nextField_10 : decode cX6_nextField 10 = .ok (.aload 5, 2) := by decide +kernel
theorem dX6_nextField_12 : decode cX6_nextField 12 = .ok (.ifnonnull 13, 3) := by decide +kernel
theorem dX6_nextField_15 : decode cX6_nextField 15 = .ok (.new 34, 3) := by decide +kernel
theorem dX6_nextField_18 : decode cX6_nextField 18 = .ok (.dup, 1) := by decide +kernel
theorem dX6_nextField_19 : decode cX6_nextField 19 = .ok (.ldc 129, 2) := by decide +kernel
theorem dX6_nextField_21 : decode cX6_nextField 21 = .ok (.invokespecial 38, 3) := by decide +kernel
theorem dX6_nextField_24 : decode cX6_nextField 24 = .ok (.athrow, 1) := by decide +kernel
theorem dX6_nextField_25 : decode cX6_nextField 25 = .ok (.iload_n 2, 1) := by decide +kernel
theorem dX6_nextField_26 : decode cX6_nextField 26 = .ok (.iload_n 3, 1) := by decide +kernel
theorem dX6_nextField_27 : decode cX6_nextField 27 = .ok (.iload 4, 2) := by decide +kernel
theorem dX6_nextField_29 : decode cX6_nextField 29 = .ok (.iconst 0, 1) := by decide +kernel
theorem dX6_nextField_30 : decode cX6_nextField 30 = .ok (.invokestatic 190, 3) := by decide +kernel
theorem dX6_nextField_33 : decode cX6_nextField 33 = .ok (.ifCond .eq 14, 3) := by decide +kernel
theorem dX6_nextField_36 : decode cX6_nextField 36 = .ok (.new 41, 3) := by decide +kernel
theorem dX6_nextField_39 : decode cX6_nextField 39 = .ok (.dup, 1) := by decide +kernel
theorem dX6_nextField_40 : decode cX6_nextField 40 = .ok (.ldc_w 337, 3) := by decide +kernel
theorem dX6_nextField_43 : decode cX6_nextField 43 = .ok (.invokespecial 45, 3) := by decide +kernel
theorem dX6_nextField_46 : decode cX6_nextField 46 = .ok (.athrow, 1) := by decide +kernel
theorem dX6_nextField_47 : decode cX6_nextField 47 = .ok (.iconst (-1), 1) := by decide +kernel
theorem dX6_nextField_48 : decode cX6_nextField 48 = .ok (.istore 6, 2) := by decide +kernel
theorem dX6_nextField_50 : decode cX6_nextField 50 = .ok (.iconst 0, 1) := by decide +kernel
theorem dX6_nextField_51 : decode cX6_nextField 51 = .ok (.istore 7, 2) := by decide +kernel
theorem dX6_nextField_53 : decode cX6_nextField 53 = .ok (.iconst 0, 1) := by decide +kernel
theorem dX6_nextField_54 : decode cX6_nextField 54 = .ok (.istore 8, 2) := by decide +kernel
theorem dX6_nextField_56 : decode cX6_nextField 56 = .ok (.iload 8, 2) := by decide +kernel
theorem dX6_nextField_58 : decode cX6_nextField 58 = .ok (.aload_n 0, 1) := by decide +kernel
theorem dX6_nextField_59 : decode cX6_nextField 59 = .ok (.getfield 12, 3) := by decide +kernel
theorem dX6_nextField_62 : decode cX6_nextField 62 = .ok (.getfield 46, 3) := by decide +kernel
theorem dX6_nextField_65 : decode cX6_nextField 65 = .ok (.invokevirtual 50, 3) := by decide +kernel
theorem dX6_nextField_68 : decode cX6_nextField 68 = .ok (.if_icmp .ge 92, 3) := by decide +kernel
theorem dX6_nextField_71 : decode cX6_nextField 71 = .ok (.aload_n 0, 1) := by decide +kernel
theorem dX6_nextField_72 : decode cX6_nextField 72 = .ok (.getfield 12, 3) := by decide +kernel
theorem dX6_nextField_75 : decode cX6_nextField 75 = .ok (.getfield 46, 3) := by decide +kernel
theorem dX6_nextField_78 : decode cX6_nextField 78 = .ok (.iload 8, 2) := by decide +kernel
theorem dX6_nextField_80 : decode cX6_nextField 80 = .ok (.invokevirtual 287, 3) := by decide +kernel
theorem dX6_nextField_83 : decode cX6_nextField 83 = .ok (.checkcast 21, 3) := by decide +kernel
theorem dX6_nextField_86 : decode cX6_nextField 86 = .ok (.invokevirtual 315, 3) := by decide +kernel
theorem dX6_nextField_89 : decode cX6_nextField 89 = .ok (.ifCond .le 65, 3) := by decide +kernel
theorem dX6_nextField_92 : decode cX6_nextField 92 = .ok (.aload_n 0, 1) := by decide +kernel
theorem dX6_nextField_93 : decode cX6_nextField 93 = .ok (.iload_n 1, 1) := by decide +kernel
theorem dX6_nextField_94 : decode cX6_nextField 94 = .ok (.iload 8, 2) := by decide +kernel
theorem dX6_nextField_96 : decode cX6_nextField 96 = .ok (.iload_n 2, 1) := by decide +kernel
theorem dX6_nextField_97 : decode cX6_nextField 97 = .ok (.iload_n 3, 1) := by decide +kernel
theorem dX6_nextField_98 : decode cX6_nextField 98 = .ok (.iload 4, 2) := by decide +kernel
theorem dX6_nextField_100 : decode cX6_nextField 100 = .ok (.invokevirtual 339, 3) := by decide +kernel
theorem dX6_nextField_103 : decode cX6_nextField 103 = .ok (.istore 9, 2) := by decide +kernel
theorem dX6_nextField_105 : decode cX6_nextField 105 = .ok (.iload 9, 2) := by decide +kernel
theorem dX6_nextField_107 : decode cX6_nextField 107 = .ok (.iload 7, 2) := by decide +kernel
theorem dX6_nextField_109 : decode cX6_nextField 109 = .ok (.if_icmp .ne 22, 3) := by decide +kernel
theorem dX6_nextField_112 : decode cX6_nextField 112 = .ok (.iload 9, 2) := by decide +kernel
theorem dX6_nextField_114 : decode cX6_nextField 114 = .ok (.ifCond .le 17, 3) := by decide +kernel
theorem dX6_nextField_117 : decode cX6_nextField 117 = .ok (.iload 8, 2) := by decide +kernel
theorem dX6_nextField_119 : decode cX6_nextField 119 = .ok (.aload 5, 2) := by decide +kernel
theorem dX6_nextField_121 : decode cX6_nextField 121 = .ok (.getfield 131, 3) := by decide +kernel
theorem dX6_nextField_124 : decode cX6_nextField 124 = .ok (.if_icmp .ne 7, 3) := by decide +kernel
theorem dX6_nextField_127 : decode cX6_nextField 127 = .ok (.iconst 1, 1) := by decide +kernel
theorem dX6_nextField_128 : decode cX6_nextField 128 = .ok (.goto 4, 3) := by decide +kernel
theorem dX6_nextField_131 : decode cX6_nextField 131 = .ok (.iconst 0, 1) := by decide +kernel
theorem dX6_nextField_132 : decode cX6_nextField 132 = .ok (.istore 10, 2) := by decide +kernel
theorem dX6_nextField_134 : decode cX6_nextField 134 = .ok (.iload 9, 2) := by decide +kernel
theorem dX6_nextField_136 : decode cX6_nextField 136 = .ok (.iload 7, 2) := by decide +kernel
theorem dX6_nextField_138 : decode cX6_nextField 138 = .ok (.if_icmp .gt 8, 3) := by decide +kernel
theorem dX6_nextField_141 : decode cX6_nextField 141 = .ok (.iload 10, 2) := by decide +kernel
theorem dX6_nextField_143 : decode cX6_nextField 143 = .ok (.ifCond .eq 11, 3) := by decide +kernel
theorem dX6_nextField_146 : decode cX6_nextField 146 = .ok (.iload 8, 2) := by decide +kernel
theorem dX6_nextField_148 : decode cX6_nextField 148 = .ok (.istore 6, 2) := by decide +kernel
theorem dX6_nextField_150 : decode cX6_nextField 150 = .ok (.iload 9, 2) := by decide +kernel
theorem dX6_nextField_152 : decode cX6_nextField 152 = .ok (.istore 7, 2) := by decide +kernel
theorem dX6_nextField_154 : decode cX6_nextField 154 = .ok (.iinc 8 1, 3) := by decide +kernel
theorem dX6_nextField_157 : decode cX6_nextField 157 = .ok (.goto (-101), 3) := by decide +kernel
theorem dX6_nextField_160 : decode cX6_nextField 160 = .ok (.iload 6, 2) := by decide +kernel
theorem dX6_nextField_162 : decode cX6_nextField 162 = .ok (.ireturn, 1) := by decide +kernel
theorem dX6_waiting_0 : decode cX6_waiting 0 = .ok (.aload_n 0, 1) := by decide +kernel
theorem dX6_waiting_1 : decode cX6_waiting 1 = .ok (.getfield 12, 3) := by decide +kernel
theorem dX6_waiting_4 : decode cX6_waiting 4 = .ok (.iload_n 1, 1) := by decide +kernel
theorem dX6_waiting_5 : decode cX6_waiting 5 = .ok (.invokevirtual 65, 3) := by decide +kernel
theorem dX6_waiting_8 : decode cX6_waiting 8 = .ok (.astore 6, 2) := by decide +kernel
theorem dX6_waiting_10 : decode cX6_waiting 10 = .ok (.aload 6, 2) := by decide +kernel
theorem dX6_waiting_12 : decode cX6_waiting 12 = .ok (.ifnonnull 13, 3) := by decide +kernel
theorem dX6_waiting_15 : decode cX6_waiting 15 = .ok (.new 34, 3) := by decide +kernel
theorem dX6_waiting_18 : decode cX6_waiting 18 = .ok (.dup, 1) := by decide +kernel
theorem dX6_waiting_19 : decode cX6_waiting 19 = .ok (.ldc 69, 2) := by decide +kernel
theorem dX6_waiting_21 : decode cX6_waiting 21 = .ok (.invokespecial 38, 3) := by decide +kernel
theorem dX6_waiting_24 : decode cX6_waiting 24 = .ok (.athrow, 1) := by decide +kernel
theorem dX6_waiting_25 : decode cX6_waiting 25 = .ok (.iload_n 2, 1) := by decide +kernel
theorem dX6_waiting_26 : decode cX6_waiting 26 = .ok (.iload_n 3, 1) := by decide +kernel
theorem dX6_waiting_27 : decode cX6_waiting 27 = .ok (.iload 4, 2) := by decide +kernel
theorem dX6_waiting_29 : decode cX6_waiting 29 = .ok (.iload 5, 2) := by decide +kernel
theorem dX6_waiting_31 : decode cX6_waiting 31 = .ok (.invokestatic 190, 3) := by decide +kernel
theorem dX6_waiting_34 : decode cX6_waiting 34 = .ok (.ifCond .eq 13, 3) := by decide +kernel
theorem dX6_waiting_37 : decode cX6_waiting 37 = .ok (.new 41, 3) := by decide +kernel
theorem dX6_waiting_40 : decode cX6_waiting 40 = .ok (.dup, 1) := by decide +kernel
theorem dX6_waiting_41 : decode cX6_waiting 41 = .ok (.ldc 194, 2) := by decide +kernel
theorem dX6_waiting_43 : decode cX6_waiting 43 = .ok (.invokespecial 45, 3) := by decide +kernel
theorem dX6_waiting_46 : decode cX6_waiting 46 = .ok (.athrow, 1) := by decide +kernel
theorem dX6_waiting_47 : decode cX6_waiting 47 = .ok (.aload_n 0, 1) := by decide +kernel
theorem dX6_waiting_48 : decode cX6_waiting 48 = .ok (.getfield 26, 3) := by decide +kernel
theorem dX6_waiting_51 : decode cX6_waiting 51 = .ok (.aload 6, 2) := by decide +kernel
theorem dX6_waiting_53 : decode cX6_waiting 53 = .ok (.invokevirtual 323, 3) := by decide +kernel
theorem dX6_waiting_56 : decode cX6_waiting 56 = .ok (.iconst 1, 1) := by decide +kernel
theorem dX6_waiting_57 : decode cX6_waiting 57 = .ok (.istore 7, 2) := by decide +kernel
theorem dX6_waiting_59 : decode cX6_waiting 59 = .ok (.iload 7, 2) := by decide +kernel
theorem dX6_waiting_61 : decode cX6_waiting 61 = .ok (.iload_n 2, 1) := by decide +kernel
theorem dX6_waiting_62 : decode cX6_waiting 62 = .ok (.if_icmp .gt 34, 3) := by decide +kernel
theorem dX6_waiting_65 : decode cX6_waiting 65 = .ok (.aload_n 0, 1) := by decide +kernel
theorem dX6_waiting_66 : decode cX6_waiting 66 = .ok (.getfield 26, 3) := by decide +kernel
theorem dX6_waiting_69 : decode cX6_waiting 69 = .ok (.aload_n 0, 1) := by decide +kernel
theorem dX6_waiting_70 : decode cX6_waiting 70 = .ok (.getfield 12, 3) := by decide +kernel
theorem dX6_waiting_73 : decode cX6_waiting 73 = .ok (.getfield 196, 3) := by decide +kernel
theorem dX6_waiting_76 : decode cX6_waiting 76 = .ok (.iload 7, 2) := by decide +kernel
theorem dX6_waiting_78 : decode cX6_waiting 78 = .ok (.iadd, 1) := by decide +kernel
theorem dX6_waiting_79 : decode cX6_waiting 79 = .ok (.bipush 24, 2) := by decide +kernel
theorem dX6_waiting_81 : decode cX6_waiting 81 = .ok (.irem, 1) := by decide +kernel
theorem dX6_waiting_82 : decode cX6_waiting 82 = .ok (.iload_n 3, 1) := by decide +kernel
theorem dX6_waiting_83 : decode cX6_waiting 83 = .ok (.iload 4, 2) := by decide +kernel
theorem dX6_waiting_85 : decode cX6_waiting 85 = .ok (.iload 5, 2) := by decide +kernel
theorem dX6_waiting_87 : decode cX6_waiting 87 = .ok (.invokevirtual 334, 3) := by decide +kernel
theorem dX6_waiting_90 : decode cX6_waiting 90 = .ok (.iinc 7 1, 3) := by decide +kernel
theorem dX6_waiting_93 : decode cX6_waiting 93 = .ok (.goto (-34), 3) := by decide +kernel
theorem dX6_waiting_96 : decode cX6_waiting 96 = .ok (.aload 6, 2) := by decide +kernel
theorem dX6_waiting_98 : decode cX6_waiting 98 = .ok (.invokevirtual 315, 3) := by decide +kernel
theorem dX6_waiting_101 : decode cX6_waiting 101 = .ok (.aload 6, 2) := by decide +kernel
theorem dX6_waiting_103 : decode cX6_waiting 103 = .ok (.invokevirtual 343, 3) := by decide +kernel
theorem dX6_waiting_106 : decode cX6_waiting 106 = .ok (.aload_n 0, 1) := by decide +kernel
theorem dX6_waiting_107 : decode cX6_waiting 107 = .ok (.getfield 26, 3) := by decide +kernel
theorem dX6_waiting_110 : decode cX6_waiting 110 = .ok (.invokevirtual 343, 3) := by decide +kernel
theorem dX6_waiting_113 : decode cX6_waiting 113 = .ok (.isub, 1) := by decide +kernel
theorem dX6_waiting_114 : decode cX6_waiting 114 = .ok (.imul, 1) := by decide +kernel
theorem dX6_waiting_115 : decode cX6_waiting 115 = .ok (.ireturn, 1) := by decide +kernel
theorem dX6_digest_0 : decode cX6_digest 0 = .ok (.ldc2_w 346, 3) := by decide +kernel
theorem dX6_digest_3 : decode cX6_digest 3 = .ok (.lstore_n 1, 1) := by decide +kernel
theorem dX6_digest_4 : decode cX6_digest 4 = .ok (.iconst 0, 1) := by decide +kernel
theorem dX6_digest_5 : decode cX6_digest 5 = .ok (.istore_n 3, 1) := by decide +kernel
theorem dX6_digest_6 : decode cX6_digest 6 = .ok (.iload_n 3, 1) := by decide +kernel
theorem dX6_digest_7 : decode cX6_digest 7 = .ok (.bipush 12, 2) := by decide +kernel
theorem dX6_digest_9 : decode cX6_digest 9 = .ok (.if_icmp .gt 22, 3) := by decide +kernel
theorem dX6_digest_12 : decode cX6_digest 12 = .ok (.lload_n 1, 1) := by decide +kernel
theorem dX6_digest_13 : decode cX6_digest 13 = .ok (.ldc2_w 348, 3) := by decide +kernel
theorem dX6_digest_16 : decode cX6_digest 16 = .ok (.lmul, 1) := by decide +kernel
theorem dX6_digest_17 : decode cX6_digest 17 = .ok (.aload_n 0, 1) := by decide +kernel
theorem dX6_digest_18 : decode cX6_digest 18 = .ok (.iload_n 3, 1) := by decide +kernel
theorem dX6_digest_19 : decode cX6_digest 19 = .ok (.invokevirtual 350, 3) := by decide +kernel
theorem dX6_digest_22 : decode cX6_digest 22 = .ok (.i2l, 1) := by decide +kernel
theorem dX6_digest_23 : decode cX6_digest 23 = .ok (.ladd, 1) := by decide +kernel
theorem dX6_digest_24 : decode cX6_digest 24 = .ok (.lstore_n 1, 1) := by decide +kernel
theorem dX6_digest_25 : decode cX6_digest 25 = .ok (.iinc 3 1, 3) := by decide +kernel
theorem dX6_digest_28 : decode cX6_digest 28 = .ok (.goto (-22), 3) := by decide +kernel
theorem dX6_digest_31 : decode cX6_digest 31 = .ok (.iconst 0, 1) := by decide +kernel
theorem dX6_digest_32 : decode cX6_digest 32 = .ok (.istore_n 3, 1) := by decide +kernel
theorem dX6_digest_33 : decode cX6_digest 33 = .ok (.iload_n 3, 1) := by decide +kernel
theorem dX6_digest_34 : decode cX6_digest 34 = .ok (.aload_n 0, 1) := by decide +kernel
theorem dX6_digest_35 : decode cX6_digest 35 = .ok (.getfield 12, 3) := by decide +kernel
theorem dX6_digest_38 : decode cX6_digest 38 = .ok (.getfield 46, 3) := by decide +kernel
theorem dX6_digest_41 : decode cX6_digest 41 = .ok (.invokevirtual 50, 3) := by decide +kernel
theorem dX6_digest_44 : decode cX6_digest 44 = .ok (.if_icmp .ge 77, 3) := by decide +kernel
theorem dX6_digest_47 : decode cX6_digest 47 = .ok (.iconst 0, 1) := by decide +kernel
theorem dX6_digest_48 : decode cX6_digest 48 = .ok (.istore 4, 2) := by decide +kernel
theorem dX6_digest_50 : decode cX6_digest 50 = .ok (.iload 4, 2) := by decide +kernel
theorem dX6_digest_52 : decode cX6_digest 52 = .ok (.bipush 11, 2) := by decide +kernel
theorem dX6_digest_54 : decode cX6_digest 54 = .ok (.if_icmp .gt 24, 3) := by decide +kernel
theorem dX6_digest_57 : decode cX6_digest 57 = .ok (.lload_n 1, 1) := by decide +kernel
theorem dX6_digest_58 : decode cX6_digest 58 = .ok (.ldc2_w 348, 3) := by decide +kernel
theorem dX6_digest_61 : decode cX6_digest 61 = .ok (.lmul, 1) := by decide +kernel
theorem dX6_digest_62 : decode cX6_digest 62 = .ok (.aload_n 0, 1) := by decide +kernel
theorem dX6_digest_63 : decode cX6_digest 63 = .ok (.iload_n 3, 1) := by decide +kernel
theorem dX6_digest_64 : decode cX6_digest 64 = .ok (.iload 4, 2) := by decide +kernel
theorem dX6_digest_66 : decode cX6_digest 66 = .ok (.invokevirtual 353, 3) := by decide +kernel
theorem dX6_digest_69 : decode cX6_digest 69 = .ok (.i2l, 1) := by decide +kernel
theorem dX6_digest_70 : decode cX6_digest 70 = .ok (.ladd, 1) := by decide +kernel
theorem dX6_digest_71 : decode cX6_digest 71 = .ok (.lstore_n 1, 1) := by decide +kernel
theorem dX6_digest_72 : decode cX6_digest 72 = .ok (.iinc 4 1, 3) := by decide +kernel
theorem dX6_digest_75 : decode cX6_digest 75 = .ok (.goto (-25), 3) := by decide +kernel
theorem dX6_digest_78 : decode cX6_digest 78 = .ok (.lload_n 1, 1) := by decide +kernel
theorem dX6_digest_79 : decode cX6_digest 79 = .ok (.ldc2_w 348, 3) := by decide +kernel
theorem dX6_digest_82 : decode cX6_digest 82 = .ok (.lmul, 1) := by decide +kernel
theorem dX6_digest_83 : decode cX6_digest 83 = .ok (.aload_n 0, 1) := by decide +kernel
theorem dX6_digest_84 : decode cX6_digest 84 = .ok (.iload_n 3, 1) := by decide +kernel
theorem dX6_digest_85 : decode cX6_digest 85 = .ok (.bipush 25, 2) := by decide +kernel
theorem dX6_digest_87 : decode cX6_digest 87 = .ok (.bipush 40, 2) := by decide +kernel
theorem dX6_digest_89 : decode cX6_digest 89 = .ok (.invokevirtual 356, 3) := by decide +kernel
theorem dX6_digest_92 : decode cX6_digest 92 = .ok (.i2l, 1) := by decide +kernel
theorem dX6_digest_93 : decode cX6_digest 93 = .ok (.ladd, 1) := by decide +kernel
theorem dX6_digest_94 : decode cX6_digest 94 = .ok (.lstore_n 1, 1) := by decide +kernel
theorem dX6_digest_95 : decode cX6_digest 95 = .ok (.lload_n 1, 1) := by decide +kernel
theorem dX6_digest_96 : decode cX6_digest 96 = .ok (.ldc2_w 348, 3) := by decide +kernel
theorem dX6_digest_99 : decode cX6_digest 99 = .ok (.lmul, 1) := by decide +kernel
theorem dX6_digest_100 : decode cX6_digest 100 = .ok (.aload_n 0, 1) := by decide +kernel
theorem dX6_digest_101 : decode cX6_digest 101 = .ok (.iload_n 3, 1) := by decide +kernel
theorem dX6_digest_102 : decode cX6_digest 102 = .ok (.bipush 24, 2) := by decide +kernel
theorem dX6_digest_104 : decode cX6_digest 104 = .ok (.bipush 30, 2) := by decide +kernel
theorem dX6_digest_106 : decode cX6_digest 106 = .ok (.bipush 20, 2) := by decide +kernel
theorem dX6_digest_108 : decode cX6_digest 108 = .ok (.iconst 0, 1) := by decide +kernel
theorem dX6_digest_109 : decode cX6_digest 109 = .ok (.invokevirtual 360, 3) := by decide +kernel
theorem dX6_digest_112 : decode cX6_digest 112 = .ok (.i2l, 1) := by decide +kernel
theorem dX6_digest_113 : decode cX6_digest 113 = .ok (.ladd, 1) := by decide +kernel
theorem dX6_digest_114 : decode cX6_digest 114 = .ok (.lstore_n 1, 1) := by decide +kernel
theorem dX6_digest_115 : decode cX6_digest 115 = .ok (.iinc 3 1, 3) := by decide +kernel
theorem dX6_digest_118 : decode cX6_digest 118 = .ok (.goto (-85), 3) := by decide +kernel
theorem dX6_digest_121 : decode cX6_digest 121 = .ok (.iconst 0, 1) := by decide +kernel
theorem dX6_digest_122 : decode cX6_digest 122 = .ok (.istore_n 3, 1) := by decide +kernel
theorem dX6_digest_123 : decode cX6_digest 123 = .ok (.iload_n 3, 1) := by decide +kernel
theorem dX6_digest_124 : decode cX6_digest 124 = .ok (.aload_n 0, 1) := by decide +kernel
theorem dX6_digest_125 : decode cX6_digest 125 = .ok (.getfield 12, 3) := by decide +kernel
theorem dX6_digest_128 : decode cX6_digest 128 = .ok (.getfield 82, 3) := by decide +kernel
theorem dX6_digest_131 : decode cX6_digest 131 = .ok (.invokevirtual 50, 3) := by decide +kernel
theorem dX6_digest_134 : decode cX6_digest 134 = .ok (.if_icmp .ge 59, 3) := by decide +kernel
theorem dX6_digest_137 : decode cX6_digest 137 = .ok (.iconst 0, 1) := by decide +kernel
theorem dX6_digest_138 : decode cX6_digest 138 = .ok (.istore 4, 2) := by decide +kernel
theorem dX6_digest_140 : decode cX6_digest 140 = .ok (.iload 4, 2) := by decide +kernel
theorem dX6_digest_142 : decode cX6_digest 142 = .ok (.bipush 7, 2) := by decide +kernel
theorem dX6_digest_144 : decode cX6_digest 144 = .ok (.if_icmp .gt 24, 3) := by decide +kernel
theorem dX6_digest_147 : decode cX6_digest 147 = .ok (.lload_n 1, 1) := by decide +kernel
theorem dX6_digest_148 : decode cX6_digest 148 = .ok (.ldc2_w 348, 3) := by decide +kernel
theorem dX6_digest_151 : decode cX6_digest 151 = .ok (.lmul, 1) := by decide +kernel
theorem dX6_digest_152 : decode cX6_digest 152 = .ok (.aload_n 0, 1) := by decide +kernel
theorem dX6_digest_153 : decode cX6_digest 153 = .ok (.iload_n 3, 1) := by decide +kernel
theorem dX6_digest_154 : decode cX6_digest 154 = .ok (.iload 4, 2) := by decide +kernel
theorem dX6_digest_156 : decode cX6_digest 156 = .ok (.invokevirtual 363, 3) := by decide +kernel
theorem dX6_digest_159 : decode cX6_digest 159 = .ok (.i2l, 1) := by decide +kernel
theorem dX6_digest_160 : decode cX6_digest 160 = .ok (.ladd, 1) := by decide +kernel
theorem dX6_digest_161 : decode cX6_digest 161 = .ok (.lstore_n 1, 1) := by decide +kernel
theorem dX6_digest_162 : decode cX6_digest 162 = .ok (.iinc 4 1, 3) := by decide +kernel
theorem dX6_digest_165 : decode cX6_digest 165 = .ok (.goto (-25), 3) := by decide +kernel
theorem dX6_digest_168 : decode cX6_digest 168 = .ok (.lload_n 1, 1) := by decide +kernel
theorem dX6_digest_169 : decode cX6_digest 169 = .ok (.ldc2_w 348, 3) := by decide +kernel
theorem dX6_digest_172 : decode cX6_digest 172 = .ok (.lmul, 1) := by decide +kernel
theorem dX6_digest_173 : decode cX6_digest 173 = .ok (.aload_n 0, 1) := by decide +kernel
theorem dX6_digest_174 : decode cX6_digest 174 = .ok (.iload_n 3, 1) := by decide +kernel
theorem dX6_digest_175 : decode cX6_digest 175 = .ok (.bipush 12, 2) := by decide +kernel
theorem dX6_digest_177 : decode cX6_digest 177 = .ok (.bipush 30, 2) := by decide +kernel
theorem dX6_digest_179 : decode cX6_digest 179 = .ok (.bipush 40, 2) := by decide +kernel
theorem dX6_digest_181 : decode cX6_digest 181 = .ok (.invokevirtual 366, 3) := by decide +kernel
theorem dX6_digest_184 : decode cX6_digest 184 = .ok (.i2l, 1) := by decide +kernel
theorem dX6_digest_185 : decode cX6_digest 185 = .ok (.ladd, 1) := by decide +kernel
theorem dX6_digest_186 : decode cX6_digest 186 = .ok (.lstore_n 1, 1) := by decide +kernel
theorem dX6_digest_187 : decode cX6_digest 187 = .ok (.iinc 3 1, 3) := by decide +kernel
theorem dX6_digest_190 : decode cX6_digest 190 = .ok (.goto (-67), 3) := by decide +kernel
theorem dX6_digest_193 : decode cX6_digest 193 = .ok (.iconst 0, 1) := by decide +kernel
theorem dX6_digest_194 : decode cX6_digest 194 = .ok (.istore_n 3, 1) := by decide +kernel
theorem dX6_digest_195 : decode cX6_digest 195 = .ok (.iload_n 3, 1) := by decide +kernel
theorem dX6_digest_196 : decode cX6_digest 196 = .ok (.aload_n 0, 1) := by decide +kernel
theorem dX6_digest_197 : decode cX6_digest 197 = .ok (.getfield 12, 3) := by decide +kernel
theorem dX6_digest_200 : decode cX6_digest 200 = .ok (.getfield 94, 3) := by decide +kernel
theorem dX6_digest_203 : decode cX6_digest 203 = .ok (.invokevirtual 50, 3) := by decide +kernel
theorem dX6_digest_206 : decode cX6_digest 206 = .ok (.if_icmp .ge 40, 3) := by decide +kernel
theorem dX6_digest_209 : decode cX6_digest 209 = .ok (.iconst 0, 1) := by decide +kernel
theorem dX6_digest_210 : decode cX6_digest 210 = .ok (.istore 4, 2) := by decide +kernel
theorem dX6_digest_212 : decode cX6_digest 212 = .ok (.iload 4, 2) := by decide +kernel
theorem dX6_digest_214 : decode cX6_digest 214 = .ok (.bipush 7, 2) := by decide +kernel
theorem dX6_digest_216 : decode cX6_digest 216 = .ok (.if_icmp .gt 24, 3) := by decide +kernel
theorem dX6_digest_219 : decode cX6_digest 219 = .ok (.lload_n 1, 1) := by decide +kernel
theorem dX6_digest_220 : decode cX6_digest 220 = .ok (.ldc2_w 348, 3) := by decide +kernel
theorem dX6_digest_223 : decode cX6_digest 223 = .ok (.lmul, 1) := by decide +kernel
theorem dX6_digest_224 : decode cX6_digest 224 = .ok (.aload_n 0, 1) := by decide +kernel
theorem dX6_digest_225 : decode cX6_digest 225 = .ok (.iload_n 3, 1) := by decide +kernel
theorem dX6_digest_226 : decode cX6_digest 226 = .ok (.iload 4, 2) := by decide +kernel
theorem dX6_digest_228 : decode cX6_digest 228 = .ok (.invokevirtual 370, 3) := by decide +kernel
theorem dX6_digest_231 : decode cX6_digest 231 = .ok (.i2l, 1) := by decide +kernel
theorem dX6_digest_232 : decode cX6_digest 232 = .ok (.ladd, 1) := by decide +kernel
theorem dX6_digest_233 : decode cX6_digest 233 = .ok (.lstore_n 1, 1) := by decide +kernel
theorem dX6_digest_234 : decode cX6_digest 234 = .ok (.iinc 4 1, 3) := by decide +kernel
theorem dX6_digest_237 : decode cX6_digest 237 = .ok (.goto (-25), 3) := by decide +kernel
theorem dX6_digest_240 : decode cX6_digest 240 = .ok (.iinc 3 1, 3) := by decide +kernel
theorem dX6_digest_243 : decode cX6_digest 243 = .ok (.goto (-48), 3) := by decide +kernel
theorem dX6_digest_246 : decode cX6_digest 246 = .ok (.iconst 0, 1) := by decide +kernel
theorem dX6_digest_247 : decode cX6_digest 247 = .ok (.istore_n 3, 1) := by decide +kernel
theorem dX6_digest_248 : decode cX6_digest 248 = .ok (.iload_n 3, 1) := by decide +kernel
theorem dX6_digest_249 : decode cX6_digest 249 = .ok (.aload_n 0, 1) := by decide +kernel
theorem dX6_digest_250 : decode cX6_digest 250 = .ok (.getfield 12, 3) := by decide +kernel
theorem dX6_digest_253 : decode cX6_digest 253 = .ok (.getfield 201, 3) := by decide +kernel
theorem dX6_digest_256 : decode cX6_digest 256 = .ok (.invokevirtual 50, 3) := by decide +kernel
theorem dX6_digest_259 : decode cX6_digest 259 = .ok (.if_icmp .ge 40, 3) := by decide +kernel
theorem dX6_digest_262 : decode cX6_digest 262 = .ok (.iconst 0, 1) := by decide +kernel
theorem dX6_digest_263 : decode cX6_digest 263 = .ok (.istore 4, 2) := by decide +kernel
theorem dX6_digest_265 : decode cX6_digest 265 = .ok (.iload 4, 2) := by decide +kernel
theorem dX6_digest_267 : decode cX6_digest 267 = .ok (.bipush 6, 2) := by decide +kernel
theorem dX6_digest_269 : decode cX6_digest 269 = .ok (.if_icmp .gt 24, 3) := by decide +kernel
theorem dX6_digest_272 : decode cX6_digest 272 = .ok (.lload_n 1, 1) := by decide +kernel
theorem dX6_digest_273 : decode cX6_digest 273 = .ok (.ldc2_w 348, 3) := by decide +kernel
theorem dX6_digest_276 : decode cX6_digest 276 = .ok (.lmul, 1) := by decide +kernel
theorem dX6_digest_277 : decode cX6_digest 277 = .ok (.aload_n 0, 1) := by decide +kernel
theorem dX6_digest_278 : decode cX6_digest 278 = .ok (.iload_n 3, 1) := by decide +kernel
theorem dX6_digest_279 : decode cX6_digest 279 = .ok (.iload 4, 2) := by decide +kernel
theorem dX6_digest_281 : decode cX6_digest 281 = .ok (.invokevirtual 373, 3) := by decide +kernel
theorem dX6_digest_284 : decode cX6_digest 284 = .ok (.i2l, 1) := by decide +kernel
theorem dX6_digest_285 : decode cX6_digest 285 = .ok (.ladd, 1) := by decide +kernel
theorem dX6_digest_286 : decode cX6_digest 286 = .ok (.lstore_n 1, 1) := by decide +kernel
theorem dX6_digest_287 : decode cX6_digest 287 = .ok (.iinc 4 1, 3) := by decide +kernel
theorem dX6_digest_290 : decode cX6_digest 290 = .ok (.goto (-25), 3) := by decide +kernel
theorem dX6_digest_293 : decode cX6_digest 293 = .ok (.iinc 3 1, 3) := by decide +kernel
theorem dX6_digest_296 : decode cX6_digest 296 = .ok (.goto (-48), 3) := by decide +kernel
theorem dX6_digest_299 : decode cX6_digest 299 = .ok (.iconst 0, 1) := by decide +kernel
theorem dX6_digest_300 : decode cX6_digest 300 = .ok (.istore_n 3, 1) := by decide +kernel
theorem dX6_digest_301 : decode cX6_digest 301 = .ok (.iload_n 3, 1) := by decide +kernel
theorem dX6_digest_302 : decode cX6_digest 302 = .ok (.iconst 4, 1) := by decide +kernel
theorem dX6_digest_303 : decode cX6_digest 303 = .ok (.if_icmp .ge 37, 3) := by decide +kernel
theorem dX6_digest_306 : decode cX6_digest 306 = .ok (.lload_n 1, 1) := by decide +kernel
theorem dX6_digest_307 : decode cX6_digest 307 = .ok (.ldc2_w 348, 3) := by decide +kernel
theorem dX6_digest_310 : decode cX6_digest 310 = .ok (.lmul, 1) := by decide +kernel
theorem dX6_digest_311 : decode cX6_digest 311 = .ok (.aload_n 0, 1) := by decide +kernel
theorem dX6_digest_312 : decode cX6_digest 312 = .ok (.iload_n 3, 1) := by decide +kernel
theorem dX6_digest_313 : decode cX6_digest 313 = .ok (.iconst 0, 1) := by decide +kernel
theorem dX6_digest_314 : decode cX6_digest 314 = .ok (.invokevirtual 376, 3) := by decide +kernel
theorem dX6_digest_317 : decode cX6_digest 317 = .ok (.i2l, 1) := by decide +kernel
theorem dX6_digest_318 : decode cX6_digest 318 = .ok (.ladd, 1) := by decide +kernel
theorem dX6_digest_319 : decode cX6_digest 319 = .ok (.lstore_n 1, 1) := by decide +kernel
theorem dX6_digest_320 : decode cX6_digest 320 = .ok (.lload_n 1, 1) := by decide +kernel
theorem dX6_digest_321 : decode cX6_digest 321 = .ok (.ldc2_w 348, 3) := by decide +kernel
theorem dX6_digest_324 : decode cX6_digest 324 = .ok (.lmul, 1) := by decide +kernel
theorem dX6_digest_325 : decode cX6_digest 325 = .ok (.aload_n 0, 1) := by decide +kernel
theorem dX6_digest_326 : decode cX6_digest 326 = .ok (.iload_n 3, 1) := by decide +kernel
theorem dX6_digest_327 : decode cX6_digest 327 = .ok (.iconst 1, 1) := by decide +kernel
theorem dX6_digest_328 : decode cX6_digest 328 = .ok (.invokevirtual 376, 3) := by decide +kernel
theorem dX6_digest_331 : decode cX6_digest 331 = .ok (.i2l, 1) := by decide +kernel
theorem dX6_digest_332 : decode cX6_digest 332 = .ok (.ladd, 1) := by decide +kernel
theorem dX6_digest_333 : decode cX6_digest 333 = .ok (.lstore_n 1, 1) := by decide +kernel
theorem dX6_digest_334 : decode cX6_digest 334 = .ok (.iinc 3 1, 3) := by decide +kernel
theorem dX6_digest_337 : decode cX6_digest 337 = .ok (.goto (-36), 3) := by decide +kernel
theorem dX6_digest_340 : decode cX6_digest 340 = .ok (.lload_n 1, 1) := by decide +kernel
theorem dX6_digest_341 : decode cX6_digest 341 = .ok (.lreturn, 1) := by decide +kernel
theorem dX6_isOutside_0 : decode cX6_isOutside 0 = .ok (.iload_n 0, 1) := by decide +kernel
theorem dX6_isOutside_1 : decode cX6_isOutside 1 = .ok (.iload_n 1, 1) := by decide +kernel
theorem dX6_isOutside_2 : decode cX6_isOutside 2 = .ok (.if_icmp .lt 8, 3) := by decide +kernel
theorem dX6_isOutside_5 : decode cX6_isOutside 5 = .ok (.iload_n 0, 1) := by decide +kernel
theorem dX6_isOutside_6 : decode cX6_isOutside 6 = .ok (.iload_n 2, 1) := by decide +kernel
theorem dX6_isOutside_7 : decode cX6_isOutside 7 = .ok (.if_icmp .le 7, 3) := by decide +kernel
theorem dX6_isOutside_10 : decode cX6_isOutside 10 = .ok (.iconst 1, 1) := by decide +kernel
theorem dX6_isOutside_11 : decode cX6_isOutside 11 = .ok (.goto 4, 3) := by decide +kernel
theorem dX6_isOutside_14 : decode cX6_isOutside 14 = .ok (.iconst 0, 1) := by decide +kernel
theorem dX6_isOutside_15 : decode cX6_isOutside 15 = .ok (.ireturn, 1) := by decide +kernel
theorem dX6_isNoWeather_0 : decode cX6_isNoWeather 0 = .ok (.iload_n 0, 1) := by decide +kernel
theorem dX6_isNoWeather_1 : decode cX6_isNoWeather 1 = .ok (.iconst 0, 1) := by decide +kernel
theorem dX6_isNoWeather_2 : decode cX6_isNoWeather 2 = .ok (.bipush 45, 2) := by decide +kernel
theorem dX6_isNoWeather_4 : decode cX6_isNoWeather 4 = .ok (.invokestatic 30, 3) := by decide +kernel
theorem dX6_isNoWeather_7 : decode cX6_isNoWeather 7 = .ok (.ifCond .ne 23, 3) := by decide +kernel
theorem dX6_isNoWeather_10 : decode cX6_isNoWeather 10 = .ok (.iload_n 1, 1) := by decide +kernel
theorem dX6_isNoWeather_11 : decode cX6_isNoWeather 11 = .ok (.iconst 0, 1) := by decide +kernel
theorem dX6_isNoWeather_12 : decode cX6_isNoWeather 12 = .ok (.bipush 100, 2) := by decide +kernel
theorem dX6_isNoWeather_14 : decode cX6_isNoWeather 14 = .ok (.invokestatic 30, 3) := by decide +kernel
theorem dX6_isNoWeather_17 : decode cX6_isNoWeather 17 = .ok (.ifCond .ne 13, 3) := by decide +kernel
theorem dX6_isNoWeather_20 : decode cX6_isNoWeather 20 = .ok (.iload_n 2, 1) := by decide +kernel
theorem dX6_isNoWeather_21 : decode cX6_isNoWeather 21 = .ok (.iconst 0, 1) := by decide +kernel
theorem dX6_isNoWeather_22 : decode cX6_isNoWeather 22 = .ok (.bipush 20, 2) := by decide +kernel
theorem dX6_isNoWeather_24 : decode cX6_isNoWeather 24 = .ok (.invokestatic 30, 3) := by decide +kernel
theorem dX6_isNoWeather_27 : decode cX6_isNoWeather 27 = .ok (.ifCond .eq 7, 3) := by decide +kernel
theorem dX6_isNoWeather_30 : decode cX6_isNoWeather 30 = .ok (.iconst 1, 1) := by decide +kernel
theorem dX6_isNoWeather_31 : decode cX6_isNoWeather 31 = .ok (.goto 4, 3) := by decide +kernel
theorem dX6_isNoWeather_34 : decode cX6_isNoWeather 34 = .ok (.iconst 0, 1) := by decide +kernel
theorem dX6_isNoWeather_35 : decode cX6_isNoWeather 35 = .ok (.ireturn, 1) := by decide +kernel
theorem dX6_isNoForecast_0 : decode cX6_isNoForecast 0 = .ok (.iload_n 0, 1) := by decide +kernel
theorem dX6_isNoForecast_1 : decode cX6_isNoForecast 1 = .ok (.iconst 1, 1) := by decide +kernel
theorem dX6_isNoForecast_2 : decode cX6_isNoForecast 2 = .ok (.bipush 48, 2) := by decide +kernel
theorem dX6_isNoForecast_4 : decode cX6_isNoForecast 4 = .ok (.invokestatic 30, 3) := by decide +kernel
theorem dX6_isNoForecast_7 : decode cX6_isNoForecast 7 = .ok (.ifCond .ne 12, 3) := by decide +kernel
theorem dX6_isNoForecast_10 : decode cX6_isNoForecast 10 = .ok (.iload_n 1, 1) := by decide +kernel
theorem dX6_isNoForecast_11 : decode cX6_isNoForecast 11 = .ok (.iload_n 2, 1) := by decide +kernel
theorem dX6_isNoForecast_12 : decode cX6_isNoForecast 12 = .ok (.iload_n 3, 1) := by decide +kernel
theorem dX6_isNoForecast_13 : decode cX6_isNoForecast 13 = .ok (.invokestatic 318, 3) := by decide +kernel
theorem dX6_isNoForecast_16 : decode cX6_isNoForecast 16 = .ok (.ifCond .eq 7, 3) := by decide +kernel
theorem dX6_isNoForecast_19 : decode cX6_isNoForecast 19 = .ok (.iconst 1, 1) := by decide +kernel
theorem dX6_isNoForecast_20 : decode cX6_isNoForecast 20 = .ok (.goto 4, 3) := by decide +kernel
theorem dX6_isNoForecast_23 : decode cX6_isNoForecast 23 = .ok (.iconst 0, 1) := by decide +kernel
theorem dX6_isNoForecast_24 : decode cX6_isNoForecast 24 = .ok (.ireturn, 1) := by decide +kernel
theorem dX6_towards_0 : decode cX6_towards 0 = .ok (.iload_n 1, 1) := by decide +kernel
theorem dX6_towards_1 : decode cX6_towards 1 = .ok (.iload_n 0, 1) := by decide +kernel
theorem dX6_towards_2 : decode cX6_towards 2 = .ok (.if_icmp .le 13, 3) := by decide +kernel
theorem dX6_towards_5 : decode cX6_towards 5 = .ok (.iload_n 0, 1) := by decide +kernel
theorem dX6_towards_6 : decode cX6_towards 6 = .ok (.iload_n 2, 1) := by decide +kernel
theorem dX6_towards_7 : decode cX6_towards 7 = .ok (.iadd, 1) := by decide +kernel
theorem dX6_towards_8 : decode cX6_towards 8 = .ok (.iload_n 1, 1) := by decide +kernel
theorem dX6_towards_9 : decode cX6_towards 9 = .ok (.invokestatic 186, 3) := by decide +kernel
theorem dX6_towards_12 : decode cX6_towards 12 = .ok (.goto 10, 3) := by decide +kernel
theorem dX6_towards_15 : decode cX6_towards 15 = .ok (.iload_n 0, 1) := by decide +kernel
theorem dX6_towards_16 : decode cX6_towards 16 = .ok (.iload_n 2, 1) := by decide +kernel
theorem dX6_towards_17 : decode cX6_towards 17 = .ok (.isub, 1) := by decide +kernel
theorem dX6_towards_18 : decode cX6_towards 18 = .ok (.iload_n 1, 1) := by decide +kernel
theorem dX6_towards_19 : decode cX6_towards 19 = .ok (.invokestatic 380, 3) := by decide +kernel
theorem dX6_towards_22 : decode cX6_towards 22 = .ok (.ireturn, 1) := by decide +kernel
theorem dX6_bushelsIfSent_0 : decode cX6_bushelsIfSent 0 = .ok (.aload_n 0, 1) := by decide +kernel
theorem dX6_bushelsIfSent_1 : decode cX6_bushelsIfSent 1 = .ok (.getfield 18, 3) := by decide +kernel
theorem dX6_bushelsIfSent_4 : decode cX6_bushelsIfSent 4 = .ok (.aload_n 0, 1) := by decide +kernel
theorem dX6_bushelsIfSent_5 : decode cX6_bushelsIfSent 5 = .ok (.getfield 12, 3) := by decide +kernel
theorem dX6_bushelsIfSent_8 : decode cX6_bushelsIfSent 8 = .ok (.invokevirtual 383, 3) := by decide +kernel
theorem dX6_bushelsIfSent_11 : decode cX6_bushelsIfSent 11 = .ok (.aload_n 0, 1) := by decide +kernel
theorem dX6_bushelsIfSent_12 : decode cX6_bushelsIfSent 12 = .ok (.getfield 18, 3) := by decide +kernel
theorem dX6_bushelsIfSent_15 : decode cX6_bushelsIfSent 15 = .ok (.iload_n 1, 1) := by decide +kernel
theorem dX6_bushelsIfSent_16 : decode cX6_bushelsIfSent 16 = .ok (.invokevirtual 125, 3) := by decide +kernel
theorem dX6_bushelsIfSent_19 : decode cX6_bushelsIfSent 19 = .ok (.astore 6, 2) := by decide +kernel
theorem dX6_bushelsIfSent_21 : decode cX6_bushelsIfSent 21 = .ok (.aload 6, 2) := by decide +kernel
theorem dX6_bushelsIfSent_23 : decode cX6_bushelsIfSent 23 = .ok (.ifnonnull 5, 3) := by decide +kernel
theorem dX6_bushelsIfSent_26 : decode cX6_bushelsIfSent 26 = .ok (.iconst 0, 1) := by decide +kernel
theorem dX6_bushelsIfSent_27 : decode cX6_bushelsIfSent 27 = .ok (.ireturn, 1) := by decide +kernel
theorem dX6_bushelsIfSent_28 : decode cX6_bushelsIfSent 28 = .ok (.aload 6, 2) := by decide +kernel
theorem dX6_bushelsIfSent_30 : decode cX6_bushelsIfSent 30 = .ok (.getfield 386, 3) := by decide +kernel
theorem dX6_bushelsIfSent_33 : decode cX6_bushelsIfSent 33 = .ok (.istore 7, 2) := by decide +kernel
theorem dX6_bushelsIfSent_35 : decode cX6_bushelsIfSent 35 = .ok (.aload 6, 2) := by decide +kernel
theorem dX6_bushelsIfSent_37 : decode cX6_bushelsIfSent 37 = .ok (.iload_n 2, 1) := by decide +kernel
theorem dX6_bushelsIfSent_38 : decode cX6_bushelsIfSent 38 = .ok (.putfield 131, 3) := by decide +kernel
theorem dX6_bushelsIfSent_41 : decode cX6_bushelsIfSent 41 = .ok (.iconst 0, 1) := by decide +kernel
theorem dX6_bushelsIfSent_42 : decode cX6_bushelsIfSent 42 = .ok (.istore 8, 2) := by decide +kernel
theorem dX6_bushelsIfSent_44 : decode cX6_bushelsIfSent 44 = .ok (.iload 8, 2) := by decide +kernel
theorem dX6_bushelsIfSent_46 : decode cX6_bushelsIfSent 46 = .ok (.iload_n 3, 1) := by decide +kernel
theorem dX6_bushelsIfSent_47 : decode cX6_bushelsIfSent 47 = .ok (.if_icmp .ge 21, 3) := by decide +kernel
theorem dX6_bushelsIfSent_50 : decode cX6_bushelsIfSent 50 = .ok (.aload_n 0, 1) := by decide +kernel
theorem dX6_bushelsIfSent_51 : decode cX6_bushelsIfSent 51 = .ok (.getfield 18, 3) := by decide +kernel
theorem dX6_bushelsIfSent_54 : decode cX6_bushelsIfSent 54 = .ok (.iload 4, 2) := by decide +kernel
theorem dX6_bushelsIfSent_56 : decode cX6_bushelsIfSent 56 = .ok (.iload 5, 2) := by decide +kernel
theorem dX6_bushelsIfSent_58 : decode cX6_bushelsIfSent 58 = .ok (.iconst 0, 1) := by decide +kernel
theorem dX6_bushelsIfSent_59 : decode cX6_bushelsIfSent 59 = .ok (.invokevirtual 204, 3) := by decide +kernel
theorem dX6_bushelsIfSent_62 : decode cX6_bushelsIfSent 62 = .ok (.iinc 8 1, 3) := by decide +kernel
theorem dX6_bushelsIfSent_65 : decode cX6_bushelsIfSent 65 = .ok (.goto (-21), 3) := by decide +kernel
theorem dX6_bushelsIfSent_68 : decode cX6_bushelsIfSent 68 = .ok (.aload 6, 2) := by decide +kernel
theorem dX6_bushelsIfSent_70 : decode cX6_bushelsIfSent 70 = .ok (.getfield 386, 3) := by decide +kernel
theorem dX6_bushelsIfSent_73 : decode cX6_bushelsIfSent 73 = .ok (.iload 7, 2) := by decide +kernel
theorem dX6_bushelsIfSent_75 : decode cX6_bushelsIfSent 75 = .ok (.isub, 1) := by decide +kernel
theorem dX6_bushelsIfSent_76 : decode cX6_bushelsIfSent 76 = .ok (.ireturn, 1) := by decide +kernel
theorem dX7_init_0 : decode cX7_init 0 = .ok (.aload_n 0, 1) := by decide +kernel
theorem dX7_init_1 : decode cX7_init 1 = .ok (.invokespecial 1, 3) := by decide +kernel
theorem dX7_init_4 : decode cX7_init 4 = .ok (.aload_n 0, 1) := by decide +kernel
theorem dX7_init_5 : decode cX7_init 5 = .ok (.new 7, 3) := by decide +kernel
theorem dX7_init_8 : decode cX7_init 8 = .ok (.dup, 1) := by decide +kernel
theorem dX7_init_9 : decode cX7_init 9 = .ok (.invokespecial 9, 3) := by decide +kernel
theorem dX7_init_12 : decode cX7_init 12 = .ok (.putfield 10, 3) := by decide +kernel
theorem dX7_init_15 : decode cX7_init 15 = .ok (.aload_n 0, 1) := by decide +kernel
theorem dX7_init_16 : decode cX7_init 16 = .ok (.iconst 0, 1) := by decide +kernel
theorem dX7_init_17 : decode cX7_init 17 = .ok (.anewarray 16, 3) := by decide +kernel
theorem dX7_init_20 : decode cX7_init 20 = .ok (.putfield 18, 3) := by decide +kernel
theorem dX7_init_23 : decode cX7_init 23 = .ok (.aload_n 0, 1) := by decide +kernel
theorem dX7_init_24 : decode cX7_init 24 = .ok (.iconst 0, 1) := by decide +kernel
theorem dX7_init_25 : decode cX7_init 25 = .ok (.anewarray 16, 3) := by decide +kernel
theorem dX7_init_28 : decode cX7_init 28 = .ok (.putfield 22, 3) := by decide +kernel
theorem dX7_init_31 : decode cX7_init 31 = .ok (.aload_n 0, 1) := by decide +kernel
theorem dX7_init_32 : decode cX7_init 32 = .ok (.iconst 0, 1) := by decide +kernel
theorem dX7_init_33 : decode cX7_init 33 = .ok (.anewarray 16, 3) := by decide +kernel
theorem dX7_init_36 : decode cX7_init 36 = .ok (.putfield 25, 3) := by decide +kernel
theorem dX7_init_39 : decode cX7_init 39 = .ok (.aload_n 0, 1) := by decide +kernel
theorem dX7_init_40 : decode cX7_init 40 = .ok (.iconst 0, 1) := by decide +kernel
theorem dX7_init_41 : decode cX7_init 41 = .ok (.anewarray 16, 3) := by decide +kernel
theorem dX7_init_44 : decode cX7_init 44 = .ok (.putfield 28, 3) := by decide +kernel
theorem dX7_init_47 : decode cX7_init 47 = .ok (.aload_n 0, 1) := by decide +kernel
theorem dX7_init_48 : decode cX7_init 48 = .ok (.iconst 0, 1) := by decide +kernel
theorem dX7_init_49 : decode cX7_init 49 = .ok (.anewarray 16, 3) := by decide +kernel
theorem dX7_init_52 : decode cX7_init 52 = .ok (.putfield 31, 3) := by decide +kernel
theorem dX7_init_55 : decode cX7_init 55 = .ok (.aload_n 0, 1) := by decide +kernel
theorem dX7_init_56 : decode cX7_init 56 = .ok (.bipush 8, 2) := by decide +kernel
theorem dX7_init_58 : decode cX7_init 58 = .ok (.newarray .int, 2) := by decide +kernel
theorem dX7_init_60 : decode cX7_init 60 = .ok (.putfield 34, 3) := by decide +kernel
theorem dX7_init_63 : decode cX7_init 63 = .ok (.aload_n 0, 1) := by decide +kernel
theorem dX7_init_64 : decode cX7_init 64 = .ok (.sipush 400, 3) := by decide +kernel
theorem dX7_init_67 : decode cX7_init 67 = .ok (.putfield 37, 3) := by decide +kernel
theorem dX7_init_70 : decode cX7_init 70 = .ok (.aload_n 0, 1) := by decide +kernel
theorem dX7_init_71 : decode cX7_init 71 = .ok (.sipush 1000, 3) := by decide +kernel
theorem dX7_init_74 : decode cX7_init 74 = .ok (.putfield 41, 3) := by decide +kernel
theorem dX7_init_77 : decode cX7_init 77 = .ok (.aload_n 0, 1) := by decide +kernel
theorem dX7_init_78 : decode cX7_init 78 = .ok (.aload_n 1, 1) := by decide +kernel
theorem dX7_init_79 : decode cX7_init 79 = .ok (.putfield 44, 3) := by decide +kernel
theorem dX7_init_82 : decode cX7_init 82 = .ok (.aload_n 0, 1) := by decide +kernel
theorem dX7_init_83 : decode cX7_init 83 = .ok (.iload_n 2, 1) := by decide +kernel
theorem dX7_init_84 : decode cX7_init 84 = .ok (.putfield 47, 3) := by decide +kernel
theorem dX7_init_87 : decode cX7_init 87 = .ok (.return_, 1) := by decide +kernel
theorem dX7_draw_0 : decode cX7_draw 0 = .ok (.aload_n 0, 1) := by decide +kernel
theorem dX7_draw_1 : decode cX7_draw 1 = .ok (.getfield 44, 3) := by decide +kernel
theorem dX7_draw_4 : decode cX7_draw 4 = .ok (.aload_n 0, 1) := by decide +kernel
theorem dX7_draw_5 : decode cX7_draw 5 = .ok (.getfield 47, 3) := by decide +kernel
theorem dX7_draw_8 : decode cX7_draw 8 = .ok (.bipush 24, 2) := by decide +kernel
theorem dX7_draw_10 : decode cX7_draw 10 = .ok (.irem, 1) := by decide +kernel
theorem dX7_draw_11 : decode cX7_draw 11 = .ok (.invokestatic 50, 3) := by decide +kernel
theorem dX7_draw_14 : decode cX7_draw 14 = .ok (.aload_n 0, 1) := by decide +kernel
theorem dX7_draw_15 : decode cX7_draw 15 = .ok (.getfield 47, 3) := by decide +kernel
theorem dX7_draw_18 : decode cX7_draw 18 = .ok (.bipush 24, 2) := by decide +kernel
theorem dX7_draw_20 : decode cX7_draw 20 = .ok (.idiv, 1) := by decide +kernel
theorem dX7_draw_21 : decode cX7_draw 21 = .ok (.bipush 8, 2) := by decide +kernel
theorem dX7_draw_23 : decode cX7_draw 23 = .ok (.irem, 1) := by decide +kernel
theorem dX7_draw_24 : decode cX7_draw 24 = .ok (.ishr, 1) := by decide +kernel
theorem dX7_draw_25 : decode cX7_draw 25 = .ok (.sipush 337, 3) := by decide +kernel
theorem dX7_draw_28 : decode cX7_draw 28 = .ok (.aload_n 0, 1) := by decide +kernel
theorem dX7_draw_29 : decode cX7_draw 29 = .ok (.getfield 47, 3) := by decide +kernel
theorem dX7_draw_32 : decode cX7_draw 32 = .ok (.imul, 1) := by decide +kernel
theorem dX7_draw_33 : decode cX7_draw 33 = .ok (.iadd, 1) := by decide +kernel
theorem dX7_draw_34 : decode cX7_draw 34 = .ok (.iload_n 1, 1) := by decide +kernel
theorem dX7_draw_35 : decode cX7_draw 35 = .ok (.invokestatic 56, 3) := by decide +kernel
theorem dX7_draw_38 : decode cX7_draw 38 = .ok (.istore_n 2, 1) := by decide +kernel
theorem dX7_draw_39 : decode cX7_draw 39 = .ok (.aload_n 0, 1) := by decide +kernel
theorem dX7_draw_40 : decode cX7_draw 40 = .ok (.dup, 1) := by decide +kernel
theorem dX7_draw_41 : decode cX7_draw 41 = .ok (.getfield 47, 3) := by decide +kernel
theorem dX7_draw_44 : decode cX7_draw 44 = .ok (.iconst 1, 1) := by decide +kernel
theorem dX7_draw_45 : decode cX7_draw 45 = .ok (.iadd, 1) := by decide +kernel
theorem dX7_draw_46 : decode cX7_draw 46 = .ok (.putfield 47, 3) := by decide +kernel
theorem dX7_draw_49 : decode cX7_draw 49 = .ok (.iload_n 2, 1) := by decide +kernel
theorem dX7_draw_50 : decode cX7_draw 50 = .ok (.ireturn, 1) := by decide +kernel
theorem dX7_plus_0 : decode cX7_plus 0 = .ok (.aload_n 0, 1) := by decide +kernel
theorem dX7_plus_1 : decode cX7_plus 1 = .ok (.arraylength, 1) := by decide +kernel
theorem dX7_plus_2 : decode cX7_plus 2 = .ok (.iconst 1, 1) := by decide +kernel
theorem dX7_plus_3 : decode cX7_plus 3 = .ok (.iadd, 1) := by decide +kernel
theorem dX7_plus_4 : decode cX7_plus 4 = .ok (.anewarray 16, 3) := by decide +kernel
theorem dX7_plus_7 : decode cX7_plus 7 = .ok (.astore_n 2, 1) := by decide +kernel
theorem dX7_plus_8 : decode cX7_plus 8 = .ok (.aload_n 0, 1) := by decide +kernel
theorem dX7_plus_9 : decode cX7_plus 9 = .ok (.iconst 0, 1) := by decide +kernel
theorem dX7_plus_10 : decode cX7_plus 10 = .ok (.aload_n 2, 1) := by decide +kernel
theorem dX7_plus_11 : decode cX7_plus 11 = .ok (.iconst 0, 1) := by decide +kernel
theorem dX7_plus_12 : decode cX7_plus 12 = .ok (.aload_n 0, 1) := by decide +kernel
theorem dX7_plus_13 : decode cX7_plus 13 = .ok (.arraylength, 1) := by decide +kernel
theorem dX7_plus_14 : decode cX7_plus 14 = .ok (.invokestatic 60, 3) := by decide +kernel
theorem dX7_plus_17 : decode cX7_plus 17 = .ok (.aload_n 2, 1) := by decide +kernel
theorem dX7_plus_18 : decode cX7_plus 18 = .ok (.aload_n 0, 1) := by decide +kernel
theorem dX7_plus_19 : decode cX7_plus 19 = .ok (.arraylength, 1) := by decide +kernel
theorem dX7_plus_20 : decode cX7_plus 20 = .ok (.aload_n 1, 1) := by decide +kernel
theorem dX7_plus_21 : decode cX7_plus 21 = .ok (.aastore, 1) := by decide +kernel
theorem dX7_plus_22 : decode cX7_plus 22 = .ok (.aload_n 2, 1) := by decide +kernel
theorem dX7_plus_23 : decode cX7_plus 23 = .ok (.areturn, 1) := by decide +kernel
theorem dX7_field_0 : decode cX7_field 0 = .ok (.aload_n 0, 1) := by decide +kernel
theorem dX7_field_1 : decode cX7_field 1 = .ok (.aload_n 0, 1) := by decide +kernel
theorem dX7_field_2 : decode cX7_field 2 = .ok (.getfield 18, 3) := by decide +kernel
theorem dX7_field_5 : decode cX7_field 5 = .ok (.bipush 11, 2) := by decide +kernel
theorem dX7_field_7 : decode cX7_field 7 = .ok (.newarray .int, 2) := by decide +kernel
theorem dX7_field_9 : decode cX7_field 9 = .ok (.dup, 1) := by decide +kernel
theorem dX7_field_10 : decode cX7_field 10 = .ok (.iconst 0, 1) := by decide +kernel
theorem dX7_field_11 : decode cX7_field 11 = .ok (.iload_n 1, 1) := by decide +kernel
theorem dX7_field_12 : decode cX7_field 12 = .ok (.iastore, 1) := by decide +kernel
theorem dX7_field_13 : decode cX7_field 13 = .ok (.dup, 1) := by decide +kernel
theorem dX7_field_14 : decode cX7_field 14 = .ok (.iconst 1, 1) := by decide +kernel
theorem dX7_field_15 : decode cX7_field 15 = .ok (.iload_n 2, 1) := by decide +kernel
theorem dX7_field_16 : decode cX7_field 16 = .ok (.iastore, 1) := by decide +kernel
theorem dX7_field_17 : decode cX7_field 17 = .ok (.dup, 1) := by decide +kernel
theorem dX7_field_18 : decode cX7_field 18 = .ok (.iconst 2, 1) := by decide +kernel
theorem dX7_field_19 : decode cX7_field 19 = .ok (.iload_n 3, 1) := by decide +kernel
theorem dX7_field_20 : decode cX7_field 20 = .ok (.iastore, 1) := by decide +kernel
theorem dX7_field_21 : decode cX7_field 21 = .ok (.dup, 1) := by decide +kernel
theorem dX7_field_22 : decode cX7_field 22 = .ok (.iconst 3, 1) := by decide +kernel
theorem dX7_field_23 : decode cX7_field 23 = .ok (.iconst 0, 1) := by decide +kernel
end
section
theorem dX7_field_24 : decode cX7_field 24 = .ok (.iastore, 1) := by decide +kernel
theorem dX7_field_25 : decode cX7_field 25 = .ok (.dup, 1) := by decide +kernel
theorem dX7_field_26 : decode cX7_field 26 = .ok (.iconst 4, 1) := by decide +kernel
theorem dX7_field_27 : decode cX7_field 27 = .ok (.iconst 0, 1) := by decide +kernel
theorem dX7_field_28 : decode cX7_field 28 = .ok (.iastore, 1) := by decide +kernel
theorem dX7_field_29 : decode cX7_field 29 = .ok (.dup, 1) := by decide +kernel
theorem dX7_field_30 : decode cX7_field 30 = .ok (.iconst 5, 1) := by decide +kernel
theorem dX7_field_31 : decode cX7_field 31 = .ok (.bipush 30, 2) := by decide +kernel
theorem dX7_field_33 : decode cX7_field 33 = .ok (.iastore, 1) := by decide +kernel
theorem dX7_field_34 : decode cX7_field 34 = .ok (.dup, 1) := by decide +kernel
theorem dX7_field_35 : decode cX7_field 35 = .ok (.bipush 6, 2) := by decide +kernel
theorem dX7_field_37 : decode cX7_field 37 = .ok (.iconst 0, 1) := by decide +kernel
theorem dX7_field_38 : decode cX7_field 38 = .ok (.iastore, 1) := by decide +kernel
theorem dX7_field_39 : decode cX7_field 39 = .ok (.dup, 1) := by decide +kernel
theorem dX7_field_40 : decode cX7_field 40 = .ok (.bipush 7, 2) := by decide +kernel
theorem dX7_field_42 : decode cX7_field 42 = .ok (.iconst 0, 1) := by decide +kernel
theorem dX7_field_43 : decode cX7_field 43 = .ok (.iastore, 1) := by decide +kernel
theorem dX7_field_44 : decode cX7_field 44 = .ok (.dup, 1) := by decide +kernel
theorem dX7_field_45 : decode cX7_field 45 = .ok (.bipush 8, 2) := by decide +kernel
theorem dX7_field_47 : decode cX7_field 47 = .ok (.iconst 0, 1) := by decide +kernel
theorem dX7_field_48 : decode cX7_field 48 = .ok (.iastore, 1) := by decide +kernel
theorem dX7_field_49 : decode cX7_field 49 = .ok (.dup, 1) := by decide +kernel
theorem dX7_field_50 : decode cX7_field 50 = .ok (.bipush 9, 2) := by decide +kernel
theorem dX7_field_52 : decode cX7_field 52 = .ok (.iload 4, 2) := by decide +kernel
theorem dX7_field_54 : decode cX7_field 54 = .ok (.iastore, 1) := by decide +kernel
theorem dX7_field_55 : decode cX7_field 55 = .ok (.dup, 1) := by decide +kernel
theorem dX7_field_56 : decode cX7_field 56 = .ok (.bipush 10, 2) := by decide +kernel
theorem dX7_field_58 : decode cX7_field 58 = .ok (.iload 5, 2) := by decide +kernel
theorem dX7_field_60 : decode cX7_field 60 = .ok (.iastore, 1) := by decide +kernel
theorem dX7_field_61 : decode cX7_field 61 = .ok (.invokestatic 66, 3) := by decide +kernel
theorem dX7_field_64 : decode cX7_field 64 = .ok (.putfield 18, 3) := by decide +kernel
theorem dX7_field_67 : decode cX7_field 67 = .ok (.aload_n 0, 1) := by decide +kernel
theorem dX7_field_68 : decode cX7_field 68 = .ok (.getfield 10, 3) := by decide +kernel
theorem dX7_field_71 : decode cX7_field 71 = .ok (.iload_n 1, 1) := by decide +kernel
theorem dX7_field_72 : decode cX7_field 72 = .ok (.iload_n 2, 1) := by decide +kernel
theorem dX7_field_73 : decode cX7_field 73 = .ok (.iload_n 3, 1) := by decide +kernel
theorem dX7_field_74 : decode cX7_field 74 = .ok (.iload 4, 2) := by decide +kernel
theorem dX7_field_76 : decode cX7_field 76 = .ok (.iload 5, 2) := by decide +kernel
theorem dX7_field_78 : decode cX7_field 78 = .ok (.invokevirtual 70, 3) := by decide +kernel
theorem dX7_field_81 : decode cX7_field 81 = .ok (.aload_n 0, 1) := by decide +kernel
theorem dX7_field_82 : decode cX7_field 82 = .ok (.getfield 18, 3) := by decide +kernel
theorem dX7_field_85 : decode cX7_field 85 = .ok (.arraylength, 1) := by decide +kernel
theorem dX7_field_86 : decode cX7_field 86 = .ok (.iconst 1, 1) := by decide +kernel
theorem dX7_field_87 : decode cX7_field 87 = .ok (.isub, 1) := by decide +kernel
theorem dX7_field_88 : decode cX7_field 88 = .ok (.if_icmp .ne 7, 3) := by decide +kernel
theorem dX7_field_91 : decode cX7_field 91 = .ok (.iconst 1, 1) := by decide +kernel
theorem dX7_field_92 : decode cX7_field 92 = .ok (.goto 4, 3) := by decide +kernel
theorem dX7_field_95 : decode cX7_field 95 = .ok (.iconst 0, 1) := by decide +kernel
theorem dX7_field_96 : decode cX7_field 96 = .ok (.ireturn, 1) := by decide +kernel
theorem dX7_crop_0 : decode cX7_crop 0 = .ok (.aload_n 0, 1) := by decide +kernel
theorem dX7_crop_1 : decode cX7_crop 1 = .ok (.getfield 18, 3) := by decide +kernel
theorem dX7_crop_4 : decode cX7_crop 4 = .ok (.iload_n 1, 1) := by decide +kernel
theorem dX7_crop_5 : decode cX7_crop 5 = .ok (.aaload, 1) := by decide +kernel
theorem dX7_crop_6 : decode cX7_crop 6 = .ok (.iconst 4, 1) := by decide +kernel
theorem dX7_crop_7 : decode cX7_crop 7 = .ok (.iaload, 1) := by decide +kernel
theorem dX7_crop_8 : decode cX7_crop 8 = .ok (.istore 4, 2) := by decide +kernel
theorem dX7_crop_10 : decode cX7_crop 10 = .ok (.aload_n 0, 1) := by decide +kernel
theorem dX7_crop_11 : decode cX7_crop 11 = .ok (.getfield 18, 3) := by decide +kernel
theorem dX7_crop_14 : decode cX7_crop 14 = .ok (.iload_n 1, 1) := by decide +kernel
theorem dX7_crop_15 : decode cX7_crop 15 = .ok (.aaload, 1) := by decide +kernel
theorem dX7_crop_16 : decode cX7_crop 16 = .ok (.iconst 4, 1) := by decide +kernel
theorem dX7_crop_17 : decode cX7_crop 17 = .ok (.iload_n 2, 1) := by decide +kernel
theorem dX7_crop_18 : decode cX7_crop 18 = .ok (.iastore, 1) := by decide +kernel
theorem dX7_crop_19 : decode cX7_crop 19 = .ok (.aload_n 0, 1) := by decide +kernel
theorem dX7_crop_20 : decode cX7_crop 20 = .ok (.getfield 18, 3) := by decide +kernel
theorem dX7_crop_23 : decode cX7_crop 23 = .ok (.iload_n 1, 1) := by decide +kernel
theorem dX7_crop_24 : decode cX7_crop 24 = .ok (.aaload, 1) := by decide +kernel
theorem dX7_crop_25 : decode cX7_crop 25 = .ok (.iconst 5, 1) := by decide +kernel
theorem dX7_crop_26 : decode cX7_crop 26 = .ok (.iload_n 3, 1) := by decide +kernel
theorem dX7_crop_27 : decode cX7_crop 27 = .ok (.iastore, 1) := by decide +kernel
theorem dX7_crop_28 : decode cX7_crop 28 = .ok (.aload_n 0, 1) := by decide +kernel
theorem dX7_crop_29 : decode cX7_crop 29 = .ok (.getfield 10, 3) := by decide +kernel
theorem dX7_crop_32 : decode cX7_crop 32 = .ok (.iload_n 1, 1) := by decide +kernel
theorem dX7_crop_33 : decode cX7_crop 33 = .ok (.iload_n 2, 1) := by decide +kernel
theorem dX7_crop_34 : decode cX7_crop 34 = .ok (.iload_n 3, 1) := by decide +kernel
theorem dX7_crop_35 : decode cX7_crop 35 = .ok (.invokevirtual 74, 3) := by decide +kernel
theorem dX7_crop_38 : decode cX7_crop 38 = .ok (.iload 4, 2) := by decide +kernel
theorem dX7_crop_40 : decode cX7_crop 40 = .ok (.if_icmp .ne 7, 3) := by decide +kernel
theorem dX7_crop_43 : decode cX7_crop 43 = .ok (.iconst 1, 1) := by decide +kernel
theorem dX7_crop_44 : decode cX7_crop 44 = .ok (.goto 4, 3) := by decide +kernel
theorem dX7_crop_47 : decode cX7_crop 47 = .ok (.iconst 0, 1) := by decide +kernel
theorem dX7_crop_48 : decode cX7_crop 48 = .ok (.ireturn, 1) := by decide +kernel
theorem dX7_combine_0 : decode cX7_combine 0 = .ok (.aload_n 0, 1) := by decide +kernel
theorem dX7_combine_1 : decode cX7_combine 1 = .ok (.aload_n 0, 1) := by decide +kernel
theorem dX7_combine_2 : decode cX7_combine 2 = .ok (.getfield 22, 3) := by decide +kernel
theorem dX7_combine_5 : decode cX7_combine 5 = .ok (.bipush 10, 2) := by decide +kernel
theorem dX7_combine_7 : decode cX7_combine 7 = .ok (.newarray .int, 2) := by decide +kernel
theorem dX7_combine_9 : decode cX7_combine 9 = .ok (.dup, 1) := by decide +kernel
theorem dX7_combine_10 : decode cX7_combine 10 = .ok (.iconst 0, 1) := by decide +kernel
theorem dX7_combine_11 : decode cX7_combine 11 = .ok (.iload_n 1, 1) := by decide +kernel
theorem dX7_combine_12 : decode cX7_combine 12 = .ok (.iastore, 1) := by decide +kernel
theorem dX7_combine_13 : decode cX7_combine 13 = .ok (.dup, 1) := by decide +kernel
theorem dX7_combine_14 : decode cX7_combine 14 = .ok (.iconst 1, 1) := by decide +kernel
theorem dX7_combine_15 : decode cX7_combine 15 = .ok (.iconst 0, 1) := by decide +kernel
theorem dX7_combine_16 : decode cX7_combine 16 = .ok (.iastore, 1) := by decide +kernel
theorem dX7_combine_17 : decode cX7_combine 17 = .ok (.dup, 1) := by decide +kernel
theorem dX7_combine_18 : decode cX7_combine 18 = .ok (.iconst 2, 1) := by decide +kernel
theorem dX7_combine_19 : decode cX7_combine 19 = .ok (.iconst (-1), 1) := by decide +kernel
theorem dX7_combine_20 : decode cX7_combine 20 = .ok (.iastore, 1) := by decide +kernel
theorem dX7_combine_21 : decode cX7_combine 21 = .ok (.dup, 1) := by decide +kernel
theorem dX7_combine_22 : decode cX7_combine 22 = .ok (.iconst 3, 1) := by decide +kernel
theorem dX7_combine_23 : decode cX7_combine 23 = .ok (.iconst 0, 1) := by decide +kernel
theorem dX7_combine_24 : decode cX7_combine 24 = .ok (.iastore, 1) := by decide +kernel
theorem dX7_combine_25 : decode cX7_combine 25 = .ok (.dup, 1) := by decide +kernel
theorem dX7_combine_26 : decode cX7_combine 26 = .ok (.iconst 4, 1) := by decide +kernel
theorem dX7_combine_27 : decode cX7_combine 27 = .ok (.iconst 0, 1) := by decide +kernel
theorem dX7_combine_28 : decode cX7_combine 28 = .ok (.iastore, 1) := by decide +kernel
theorem dX7_combine_29 : decode cX7_combine 29 = .ok (.dup, 1) := by decide +kernel
theorem dX7_combine_30 : decode cX7_combine 30 = .ok (.iconst 5, 1) := by decide +kernel
theorem dX7_combine_31 : decode cX7_combine 31 = .ok (.iconst (-1), 1) := by decide +kernel
theorem dX7_combine_32 : decode cX7_combine 32 = .ok (.iastore, 1) := by decide +kernel
theorem dX7_combine_33 : decode cX7_combine 33 = .ok (.dup, 1) := by decide +kernel
theorem dX7_combine_34 : decode cX7_combine 34 = .ok (.bipush 6, 2) := by decide +kernel
theorem dX7_combine_36 : decode cX7_combine 36 = .ok (.iconst 0, 1) := by decide +kernel
theorem dX7_combine_37 : decode cX7_combine 37 = .ok (.iastore, 1) := by decide +kernel
theorem dX7_combine_38 : decode cX7_combine 38 = .ok (.dup, 1) := by decide +kernel
theorem dX7_combine_39 : decode cX7_combine 39 = .ok (.bipush 7, 2) := by decide +kernel
theorem dX7_combine_41 : decode cX7_combine 41 = .ok (.iconst 0, 1) := by decide +kernel
theorem dX7_combine_42 : decode cX7_combine 42 = .ok (.iastore, 1) := by decide +kernel
theorem dX7_combine_43 : decode cX7_combine 43 = .ok (.dup, 1) := by decide +kernel
theorem dX7_combine_44 : decode cX7_combine 44 = .ok (.bipush 8, 2) := by decide +kernel
theorem dX7_combine_46 : decode cX7_combine 46 = .ok (.iload_n 2, 1) := by decide +kernel
theorem dX7_combine_47 : decode cX7_combine 47 = .ok (.iastore, 1) := by decide +kernel
theorem dX7_combine_48 : decode cX7_combine 48 = .ok (.dup, 1) := by decide +kernel
theorem dX7_combine_49 : decode cX7_combine 49 = .ok (.bipush 9, 2) := by decide +kernel
theorem dX7_combine_51 : decode cX7_combine 51 = .ok (.iconst 0, 1) := by decide +kernel
theorem dX7_combine_52 : decode cX7_combine 52 = .ok (.iastore, 1) := by decide +kernel
theorem dX7_combine_53 : decode cX7_combine 53 = .ok (.invokestatic 66, 3) := by decide +kernel
theorem dX7_combine_56 : decode cX7_combine 56 = .ok (.putfield 22, 3) := by decide +kernel
theorem dX7_combine_59 : decode cX7_combine 59 = .ok (.aload_n 0, 1) := by decide +kernel
theorem dX7_combine_60 : decode cX7_combine 60 = .ok (.getfield 10, 3) := by decide +kernel
theorem dX7_combine_63 : decode cX7_combine 63 = .ok (.iload_n 1, 1) := by decide +kernel
theorem dX7_combine_64 : decode cX7_combine 64 = .ok (.iload_n 2, 1) := by decide +kernel
theorem dX7_combine_65 : decode cX7_combine 65 = .ok (.invokevirtual 78, 3) := by decide +kernel
theorem dX7_combine_68 : decode cX7_combine 68 = .ok (.aload_n 0, 1) := by decide +kernel
theorem dX7_combine_69 : decode cX7_combine 69 = .ok (.getfield 22, 3) := by decide +kernel
theorem dX7_combine_72 : decode cX7_combine 72 = .ok (.arraylength, 1) := by decide +kernel
theorem dX7_combine_73 : decode cX7_combine 73 = .ok (.iconst 1, 1) := by decide +kernel
theorem dX7_combine_74 : decode cX7_combine 74 = .ok (.isub, 1) := by decide +kernel
theorem dX7_combine_75 : decode cX7_combine 75 = .ok (.if_icmp .ne 7, 3) := by decide +kernel
theorem dX7_combine_78 : decode cX7_combine 78 = .ok (.iconst 1, 1) := by decide +kernel
theorem dX7_combine_79 : decode cX7_combine 79 = .ok (.goto 4, 3) := by decide +kernel
theorem dX7_combine_82 : decode cX7_combine 82 = .ok (.iconst 0, 1) := by decide +kernel
theorem dX7_combine_83 : decode cX7_combine 83 = .ok (.ireturn, 1) := by decide +kernel
theorem dX7_truck_0 : decode cX7_truck 0 = .ok (.aload_n 0, 1) := by decide +kernel
theorem dX7_truck_1 : decode cX7_truck 1 = .ok (.aload_n 0, 1) := by decide +kernel
theorem dX7_truck_2 : decode cX7_truck 2 = .ok (.getfield 25, 3) := by decide +kernel
theorem dX7_truck_5 : decode cX7_truck 5 = .ok (.bipush 10, 2) := by decide +kernel
theorem dX7_truck_7 : decode cX7_truck 7 = .ok (.newarray .int, 2) := by decide +kernel
theorem dX7_truck_9 : decode cX7_truck 9 = .ok (.dup, 1) := by decide +kernel
theorem dX7_truck_10 : decode cX7_truck 10 = .ok (.iconst 0, 1) := by decide +kernel
theorem dX7_truck_11 : decode cX7_truck 11 = .ok (.iload_n 1, 1) := by decide +kernel
theorem dX7_truck_12 : decode cX7_truck 12 = .ok (.iastore, 1) := by decide +kernel
theorem dX7_truck_13 : decode cX7_truck 13 = .ok (.dup, 1) := by decide +kernel
theorem dX7_truck_14 : decode cX7_truck 14 = .ok (.iconst 1, 1) := by decide +kernel
theorem dX7_truck_15 : decode cX7_truck 15 = .ok (.iconst 0, 1) := by decide +kernel
theorem dX7_truck_16 : decode cX7_truck 16 = .ok (.iastore, 1) := by decide +kernel
theorem dX7_truck_17 : decode cX7_truck 17 = .ok (.dup, 1) := by decide +kernel
theorem dX7_truck_18 : decode cX7_truck 18 = .ok (.iconst 2, 1) := by decide +kernel
theorem dX7_truck_19 : decode cX7_truck 19 = .ok (.iconst (-1), 1) := by decide +kernel
theorem dX7_truck_20 : decode cX7_truck 20 = .ok (.iastore, 1) := by decide +kernel
theorem dX7_truck_21 : decode cX7_truck 21 = .ok (.dup, 1) := by decide +kernel
theorem dX7_truck_22 : decode cX7_truck 22 = .ok (.iconst 3, 1) := by decide +kernel
theorem dX7_truck_23 : decode cX7_truck 23 = .ok (.iconst 0, 1) := by decide +kernel
theorem dX7_truck_24 : decode cX7_truck 24 = .ok (.iastore, 1) := by decide +kernel
theorem dX7_truck_25 : decode cX7_truck 25 = .ok (.dup, 1) := by decide +kernel
theorem dX7_truck_26 : decode cX7_truck 26 = .ok (.iconst 4, 1) := by decide +kernel
theorem dX7_truck_27 : decode cX7_truck 27 = .ok (.iconst 0, 1) := by decide +kernel
theorem dX7_truck_28 : decode cX7_truck 28 = .ok (.iastore, 1) := by decide +kernel
theorem dX7_truck_29 : decode cX7_truck 29 = .ok (.dup, 1) := by decide +kernel
theorem dX7_truck_30 : decode cX7_truck 30 = .ok (.iconst 5, 1) := by decide +kernel
theorem dX7_truck_31 : decode cX7_truck 31 = .ok (.iconst 0, 1) := by decide +kernel
theorem dX7_truck_32 : decode cX7_truck 32 = .ok (.iastore, 1) := by decide +kernel
theorem dX7_truck_33 : decode cX7_truck 33 = .ok (.dup, 1) := by decide +kernel
theorem dX7_truck_34 : decode cX7_truck 34 = .ok (.bipush 6, 2) := by decide +kernel
theorem dX7_truck_36 : decode cX7_truck 36 = .ok (.iconst 0, 1) := by decide +kernel
theorem dX7_truck_37 : decode cX7_truck 37 = .ok (.iastore, 1) := by decide +kernel
theorem dX7_truck_38 : decode cX7_truck 38 = .ok (.dup, 1) := by decide +kernel
theorem dX7_truck_39 : decode cX7_truck 39 = .ok (.bipush 7, 2) := by decide +kernel
theorem dX7_truck_41 : decode cX7_truck 41 = .ok (.iconst 0, 1) := by decide +kernel
theorem dX7_truck_42 : decode cX7_truck 42 = .ok (.iastore, 1) := by decide +kernel
theorem dX7_truck_43 : decode cX7_truck 43 = .ok (.dup, 1) := by decide +kernel
theorem dX7_truck_44 : decode cX7_truck 44 = .ok (.bipush 8, 2) := by decide +kernel
theorem dX7_truck_46 : decode cX7_truck 46 = .ok (.iconst 0, 1) := by decide +kernel
theorem dX7_truck_47 : decode cX7_truck 47 = .ok (.iastore, 1) := by decide +kernel
theorem dX7_truck_48 : decode cX7_truck 48 = .ok (.dup, 1) := by decide +kernel
theorem dX7_truck_49 : decode cX7_truck 49 = .ok (.bipush 9, 2) := by decide +kernel
theorem dX7_truck_51 : decode cX7_truck 51 = .ok (.iconst 0, 1) := by decide +kernel
theorem dX7_truck_52 : decode cX7_truck 52 = .ok (.iastore, 1) := by decide +kernel
theorem dX7_truck_53 : decode cX7_truck 53 = .ok (.invokestatic 66, 3) := by decide +kernel
theorem dX7_truck_56 : decode cX7_truck 56 = .ok (.putfield 25, 3) := by decide +kernel
theorem dX7_truck_59 : decode cX7_truck 59 = .ok (.aload_n 0, 1) := by decide +kernel
theorem dX7_truck_60 : decode cX7_truck 60 = .ok (.getfield 10, 3) := by decide +kernel
theorem dX7_truck_63 : decode cX7_truck 63 = .ok (.iload_n 1, 1) := by decide +kernel
theorem dX7_truck_64 : decode cX7_truck 64 = .ok (.invokevirtual 81, 3) := by decide +kernel
theorem dX7_truck_67 : decode cX7_truck 67 = .ok (.aload_n 0, 1) := by decide +kernel
theorem dX7_truck_68 : decode cX7_truck 68 = .ok (.getfield 25, 3) := by decide +kernel
theorem dX7_truck_71 : decode cX7_truck 71 = .ok (.arraylength, 1) := by decide +kernel
theorem dX7_truck_72 : decode cX7_truck 72 = .ok (.iconst 1, 1) := by decide +kernel
theorem dX7_truck_73 : decode cX7_truck 73 = .ok (.isub, 1) := by decide +kernel
theorem dX7_truck_74 : decode cX7_truck 74 = .ok (.if_icmp .ne 7, 3) := by decide +kernel
theorem dX7_truck_77 : decode cX7_truck 77 = .ok (.iconst 1, 1) := by decide +kernel
theorem dX7_truck_78 : decode cX7_truck 78 = .ok (.goto 4, 3) := by decide +kernel
theorem dX7_truck_81 : decode cX7_truck 81 = .ok (.iconst 0, 1) := by decide +kernel
theorem dX7_truck_82 : decode cX7_truck 82 = .ok (.ireturn, 1) := by decide +kernel
theorem dX7_elevator_0 : decode cX7_elevator 0 = .ok (.aload_n 0, 1) := by decide +kernel
theorem dX7_elevator_1 : decode cX7_elevator 1 = .ok (.aload_n 0, 1) := by decide +kernel
theorem dX7_elevator_2 : decode cX7_elevator 2 = .ok (.getfield 28, 3) := by decide +kernel
theorem dX7_elevator_5 : decode cX7_elevator 5 = .ok (.bipush 6, 2) := by decide +kernel
theorem dX7_elevator_7 : decode cX7_elevator 7 = .ok (.newarray .int, 2) := by decide +kernel
theorem dX7_elevator_9 : decode cX7_elevator 9 = .ok (.dup, 1) := by decide +kernel
theorem dX7_elevator_10 : decode cX7_elevator 10 = .ok (.iconst 0, 1) := by decide +kernel
theorem dX7_elevator_11 : decode cX7_elevator 11 = .ok (.iload_n 1, 1) := by decide +kernel
theorem dX7_elevator_12 : decode cX7_elevator 12 = .ok (.iastore, 1) := by decide +kernel
theorem dX7_elevator_13 : decode cX7_elevator 13 = .ok (.dup, 1) := by decide +kernel
theorem dX7_elevator_14 : decode cX7_elevator 14 = .ok (.iconst 1, 1) := by decide +kernel
theorem dX7_elevator_15 : decode cX7_elevator 15 = .ok (.iload_n 2, 1) := by decide +kernel
theorem dX7_elevator_16 : decode cX7_elevator 16 = .ok (.iastore, 1) := by decide +kernel
theorem dX7_elevator_17 : decode cX7_elevator 17 = .ok (.dup, 1) := by decide +kernel
theorem dX7_elevator_18 : decode cX7_elevator 18 = .ok (.iconst 2, 1) := by decide +kernel
theorem dX7_elevator_19 : decode cX7_elevator 19 = .ok (.iload_n 3, 1) := by decide +kernel
theorem dX7_elevator_20 : decode cX7_elevator 20 = .ok (.iastore, 1) := by decide +kernel
theorem dX7_elevator_21 : decode cX7_elevator 21 = .ok (.dup, 1) := by decide +kernel
theorem dX7_elevator_22 : decode cX7_elevator 22 = .ok (.iconst 3, 1) := by decide +kernel
theorem dX7_elevator_23 : decode cX7_elevator 23 = .ok (.iload 4, 2) := by decide +kernel
theorem dX7_elevator_25 : decode cX7_elevator 25 = .ok (.iastore, 1) := by decide +kernel
theorem dX7_elevator_26 : decode cX7_elevator 26 = .ok (.dup, 1) := by decide +kernel
theorem dX7_elevator_27 : decode cX7_elevator 27 = .ok (.iconst 4, 1) := by decide +kernel
theorem dX7_elevator_28 : decode cX7_elevator 28 = .ok (.iload 5, 2) := by decide +kernel
theorem dX7_elevator_30 : decode cX7_elevator 30 = .ok (.iastore, 1) := by decide +kernel
theorem dX7_elevator_31 : decode cX7_elevator 31 = .ok (.dup, 1) := by decide +kernel
theorem dX7_elevator_32 : decode cX7_elevator 32 = .ok (.iconst 5, 1) := by decide +kernel
theorem dX7_elevator_33 : decode cX7_elevator 33 = .ok (.iload 6, 2) := by decide +kernel
theorem dX7_elevator_35 : decode cX7_elevator 35 = .ok (.iastore, 1) := by decide +kernel
theorem dX7_elevator_36 : decode cX7_elevator 36 = .ok (.invokestatic 66, 3) := by decide +kernel
theorem dX7_elevator_39 : decode cX7_elevator 39 = .ok (.putfield 28, 3) := by decide +kernel
theorem dX7_elevator_42 : decode cX7_elevator 42 = .ok (.aload_n 0, 1) := by decide +kernel
theorem dX7_elevator_43 : decode cX7_elevator 43 = .ok (.getfield 10, 3) := by decide +kernel
theorem dX7_elevator_46 : decode cX7_elevator 46 = .ok (.iload_n 1, 1) := by decide +kernel
theorem dX7_elevator_47 : decode cX7_elevator 47 = .ok (.iload_n 2, 1) := by decide +kernel
theorem dX7_elevator_48 : decode cX7_elevator 48 = .ok (.iload_n 3, 1) := by decide +kernel
theorem dX7_elevator_49 : decode cX7_elevator 49 = .ok (.iload 4, 2) := by decide +kernel
theorem dX7_elevator_51 : decode cX7_elevator 51 = .ok (.iload 5, 2) := by decide +kernel
theorem dX7_elevator_53 : decode cX7_elevator 53 = .ok (.iload 6, 2) := by decide +kernel
theorem dX7_elevator_55 : decode cX7_elevator 55 = .ok (.invokevirtual 85, 3) := by decide +kernel
theorem dX7_elevator_58 : decode cX7_elevator 58 = .ok (.aload_n 0, 1) := by decide +kernel
theorem dX7_elevator_59 : decode cX7_elevator 59 = .ok (.getfield 28, 3) := by decide +kernel
theorem dX7_elevator_62 : decode cX7_elevator 62 = .ok (.arraylength, 1) := by decide +kernel
theorem dX7_elevator_63 : decode cX7_elevator 63 = .ok (.iconst 1, 1) := by decide +kernel
theorem dX7_elevator_64 : decode cX7_elevator 64 = .ok (.isub, 1) := by decide +kernel
theorem dX7_elevator_65 : decode cX7_elevator 65 = .ok (.if_icmp .ne 7, 3) := by decide +kernel
theorem dX7_elevator_68 : decode cX7_elevator 68 = .ok (.iconst 1, 1) := by decide +kernel
theorem dX7_elevator_69 : decode cX7_elevator 69 = .ok (.goto 4, 3) := by decide +kernel
theorem dX7_elevator_72 : decode cX7_elevator 72 = .ok (.iconst 0, 1) := by decide +kernel
theorem dX7_elevator_73 : decode cX7_elevator 73 = .ok (.ireturn, 1) := by decide +kernel
theorem dX7_found_0 : decode cX7_found 0 = .ok (.iconst 0, 1) := by decide +kernel
theorem dX7_found_1 : decode cX7_found 1 = .ok (.istore_n 2, 1) := by decide +kernel
theorem dX7_found_2 : decode cX7_found 2 = .ok (.iload_n 2, 1) := by decide +kernel
theorem dX7_found_3 : decode cX7_found 3 = .ok (.iload_n 1, 1) := by decide +kernel
theorem dX7_found_4 : decode cX7_found 4 = .ok (.if_icmp .ge 82, 3) := by decide +kernel
theorem dX7_found_7 : decode cX7_found 7 = .ok (.aload_n 0, 1) := by decide +kernel
theorem dX7_found_8 : decode cX7_found 8 = .ok (.aload_n 0, 1) := by decide +kernel
theorem dX7_found_9 : decode cX7_found 9 = .ok (.iconst 4, 1) := by decide +kernel
theorem dX7_found_10 : decode cX7_found 10 = .ok (.invokevirtual 142, 3) := by decide +kernel
theorem dX7_found_13 : decode cX7_found 13 = .ok (.bipush 10, 2) := by decide +kernel
theorem dX7_found_15 : decode cX7_found 15 = .ok (.aload_n 0, 1) := by decide +kernel
theorem dX7_found_16 : decode cX7_found 16 = .ok (.bipush 12, 2) := by decide +kernel
theorem dX7_found_18 : decode cX7_found 18 = .ok (.invokevirtual 142, 3) := by decide +kernel
theorem dX7_found_21 : decode cX7_found 21 = .ok (.imul, 1) := by decide +kernel
theorem dX7_found_22 : decode cX7_found 22 = .ok (.bipush 20, 2) := by decide +kernel
theorem dX7_found_24 : decode cX7_found 24 = .ok (.aload_n 0, 1) := by decide +kernel
theorem dX7_found_25 : decode cX7_found 25 = .ok (.bipush 100, 2) := by decide +kernel
theorem dX7_found_27 : decode cX7_found 27 = .ok (.invokevirtual 142, 3) := by decide +kernel
theorem dX7_found_30 : decode cX7_found 30 = .ok (.iadd, 1) := by decide +kernel
theorem dX7_found_31 : decode cX7_found 31 = .ok (.bipush 10, 2) := by decide +kernel
theorem dX7_found_33 : decode cX7_found 33 = .ok (.aload_n 0, 1) := by decide +kernel
theorem dX7_found_34 : decode cX7_found 34 = .ok (.bipush 81, 2) := by decide +kernel
theorem dX7_found_36 : decode cX7_found 36 = .ok (.invokevirtual 142, 3) := by decide +kernel
theorem dX7_found_39 : decode cX7_found 39 = .ok (.iadd, 1) := by decide +kernel
theorem dX7_found_40 : decode cX7_found 40 = .ok (.aload_n 0, 1) := by decide +kernel
theorem dX7_found_41 : decode cX7_found 41 = .ok (.bipush 51, 2) := by decide +kernel
theorem dX7_found_43 : decode cX7_found 43 = .ok (.invokevirtual 142, 3) := by decide +kernel
theorem dX7_found_46 : decode cX7_found 46 = .ok (.invokevirtual 145, 3) := by decide +kernel
theorem dX7_found_49 : decode cX7_found 49 = .ok (.ifCond .eq 29, 3) := by decide +kernel
theorem dX7_found_52 : decode cX7_found 52 = .ok (.aload_n 0, 1) := by decide +kernel
theorem dX7_found_53 : decode cX7_found 53 = .ok (.iload_n 2, 1) := by decide +kernel
theorem dX7_found_54 : decode cX7_found 54 = .ok (.bipush 70, 2) := by decide +kernel
theorem dX7_found_56 : decode cX7_found 56 = .ok (.aload_n 0, 1) := by decide +kernel
theorem dX7_found_57 : decode cX7_found 57 = .ok (.bipush 31, 2) := by decide +kernel
theorem dX7_found_59 : decode cX7_found 59 = .ok (.invokevirtual 142, 3) := by decide +kernel
theorem dX7_found_62 : decode cX7_found 62 = .ok (.iadd, 1) := by decide +kernel
theorem dX7_found_63 : decode cX7_found 63 = .ok (.bipush 8, 2) := by decide +kernel
theorem dX7_found_65 : decode cX7_found 65 = .ok (.aload_n 0, 1) := by decide +kernel
theorem dX7_found_66 : decode cX7_found 66 = .ok (.bipush 14, 2) := by decide +kernel
theorem dX7_found_68 : decode cX7_found 68 = .ok (.invokevirtual 142, 3) := by decide +kernel
theorem dX7_found_71 : decode cX7_found 71 = .ok (.iadd, 1) := by decide +kernel
theorem dX7_found_72 : decode cX7_found 72 = .ok (.invokevirtual 148, 3) := by decide +kernel
theorem dX7_found_75 : decode cX7_found 75 = .ok (.ifCond .ne 5, 3) := by decide +kernel
theorem dX7_found_78 : decode cX7_found 78 = .ok (.iconst 0, 1) := by decide +kernel
theorem dX7_found_79 : decode cX7_found 79 = .ok (.ireturn, 1) := by decide +kernel
theorem dX7_found_80 : decode cX7_found 80 = .ok (.iinc 2 1, 3) := by decide +kernel
theorem dX7_found_83 : decode cX7_found 83 = .ok (.goto (-81), 3) := by decide +kernel
theorem dX7_found_86 : decode cX7_found 86 = .ok (.iconst 0, 1) := by decide +kernel
theorem dX7_found_87 : decode cX7_found 87 = .ok (.istore_n 2, 1) := by decide +kernel
theorem dX7_found_88 : decode cX7_found 88 = .ok (.iload_n 2, 1) := by decide +kernel
theorem dX7_found_89 : decode cX7_found 89 = .ok (.iconst 2, 1) := by decide +kernel
theorem dX7_found_90 : decode cX7_found 90 = .ok (.if_icmp .ge 51, 3) := by decide +kernel
theorem dX7_found_93 : decode cX7_found 93 = .ok (.aload_n 0, 1) := by decide +kernel
theorem dX7_found_94 : decode cX7_found 94 = .ok (.bipush 10, 2) := by decide +kernel
theorem dX7_found_96 : decode cX7_found 96 = .ok (.aload_n 0, 1) := by decide +kernel
theorem dX7_found_97 : decode cX7_found 97 = .ok (.bipush 12, 2) := by decide +kernel
theorem dX7_found_99 : decode cX7_found 99 = .ok (.invokevirtual 142, 3) := by decide +kernel
theorem dX7_found_102 : decode cX7_found 102 = .ok (.imul, 1) := by decide +kernel
theorem dX7_found_103 : decode cX7_found 103 = .ok (.iconst 1, 1) := by decide +kernel
theorem dX7_found_104 : decode cX7_found 104 = .ok (.aload_n 0, 1) := by decide +kernel
theorem dX7_found_105 : decode cX7_found 105 = .ok (.bipush 20, 2) := by decide +kernel
theorem dX7_found_107 : decode cX7_found 107 = .ok (.invokevirtual 142, 3) := by decide +kernel
theorem dX7_found_110 : decode cX7_found 110 = .ok (.iadd, 1) := by decide +kernel
theorem dX7_found_111 : decode cX7_found 111 = .ok (.invokevirtual 151, 3) := by decide +kernel
theorem dX7_found_114 : decode cX7_found 114 = .ok (.ifCond .eq 19, 3) := by decide +kernel
theorem dX7_found_117 : decode cX7_found 117 = .ok (.aload_n 0, 1) := by decide +kernel
theorem dX7_found_118 : decode cX7_found 118 = .ok (.bipush 10, 2) := by decide +kernel
theorem dX7_found_120 : decode cX7_found 120 = .ok (.aload_n 0, 1) := by decide +kernel
theorem dX7_found_121 : decode cX7_found 121 = .ok (.bipush 12, 2) := by decide +kernel
theorem dX7_found_123 : decode cX7_found 123 = .ok (.invokevirtual 142, 3) := by decide +kernel
theorem dX7_found_126 : decode cX7_found 126 = .ok (.imul, 1) := by decide +kernel
theorem dX7_found_127 : decode cX7_found 127 = .ok (.invokevirtual 154, 3) := by decide +kernel
theorem dX7_found_130 : decode cX7_found 130 = .ok (.ifCond .ne 5, 3) := by decide +kernel
theorem dX7_found_133 : decode cX7_found 133 = .ok (.iconst 0, 1) := by decide +kernel
theorem dX7_found_134 : decode cX7_found 134 = .ok (.ireturn, 1) := by decide +kernel
theorem dX7_found_135 : decode cX7_found 135 = .ok (.iinc 2 1, 3) := by decide +kernel
theorem dX7_found_138 : decode cX7_found 138 = .ok (.goto (-50), 3) := by decide +kernel
theorem dX7_found_141 : decode cX7_found 141 = .ok (.aload_n 0, 1) := by decide +kernel
theorem dX7_found_142 : decode cX7_found 142 = .ok (.bipush 10, 2) := by decide +kernel
theorem dX7_found_144 : decode cX7_found 144 = .ok (.aload_n 0, 1) := by decide +kernel
theorem dX7_found_145 : decode cX7_found 145 = .ok (.bipush 12, 2) := by decide +kernel
theorem dX7_found_147 : decode cX7_found 147 = .ok (.invokevirtual 142, 3) := by decide +kernel
theorem dX7_found_150 : decode cX7_found 150 = .ok (.imul, 1) := by decide +kernel
theorem dX7_found_151 : decode cX7_found 151 = .ok (.sipush 500, 3) := by decide +kernel
theorem dX7_found_154 : decode cX7_found 154 = .ok (.aload_n 0, 1) := by decide +kernel
theorem dX7_found_155 : decode cX7_found 155 = .ok (.sipush 9000, 3) := by decide +kernel
theorem dX7_found_158 : decode cX7_found 158 = .ok (.invokevirtual 142, 3) := by decide +kernel
theorem dX7_found_161 : decode cX7_found 161 = .ok (.iadd, 1) := by decide +kernel
theorem dX7_found_162 : decode cX7_found 162 = .ok (.aload_n 0, 1) := by decide +kernel
theorem dX7_found_163 : decode cX7_found 163 = .ok (.bipush 12, 2) := by decide +kernel
theorem dX7_found_165 : decode cX7_found 165 = .ok (.invokevirtual 142, 3) := by decide +kernel
theorem dX7_found_168 : decode cX7_found 168 = .ok (.bipush 12, 2) := by decide +kernel
theorem dX7_found_170 : decode cX7_found 170 = .ok (.aload_n 0, 1) := by decide +kernel
theorem dX7_found_171 : decode cX7_found 171 = .ok (.bipush 12, 2) := by decide +kernel
theorem dX7_found_173 : decode cX7_found 173 = .ok (.invokevirtual 142, 3) := by decide +kernel
theorem dX7_found_176 : decode cX7_found 176 = .ok (.iadd, 1) := by decide +kernel
theorem dX7_found_177 : decode cX7_found 177 = .ok (.iconst 5, 1) := by decide +kernel
theorem dX7_found_178 : decode cX7_found 178 = .ok (.aload_n 0, 1) := by decide +kernel
theorem dX7_found_179 : decode cX7_found 179 = .ok (.bipush 9, 2) := by decide +kernel
theorem dX7_found_181 : decode cX7_found 181 = .ok (.invokevirtual 142, 3) := by decide +kernel
theorem dX7_found_184 : decode cX7_found 184 = .ok (.iadd, 1) := by decide +kernel
theorem dX7_found_185 : decode cX7_found 185 = .ok (.bipush 14, 2) := by decide +kernel
theorem dX7_found_187 : decode cX7_found 187 = .ok (.aload_n 0, 1) := by decide +kernel
theorem dX7_found_188 : decode cX7_found 188 = .ok (.bipush 20, 2) := by decide +kernel
theorem dX7_found_190 : decode cX7_found 190 = .ok (.invokevirtual 142, 3) := by decide +kernel
theorem dX7_found_193 : decode cX7_found 193 = .ok (.iadd, 1) := by decide +kernel
theorem dX7_found_194 : decode cX7_found 194 = .ok (.invokevirtual 157, 3) := by decide +kernel
theorem dX7_found_197 : decode cX7_found 197 = .ok (.ifCond .eq 66, 3) := by decide +kernel
theorem dX7_found_200 : decode cX7_found 200 = .ok (.aload_n 0, 1) := by decide +kernel
theorem dX7_found_201 : decode cX7_found 201 = .ok (.bipush 10, 2) := by decide +kernel
theorem dX7_found_203 : decode cX7_found 203 = .ok (.aload_n 0, 1) := by decide +kernel
theorem dX7_found_204 : decode cX7_found 204 = .ok (.bipush 12, 2) := by decide +kernel
theorem dX7_found_206 : decode cX7_found 206 = .ok (.invokevirtual 142, 3) := by decide +kernel
theorem dX7_found_209 : decode cX7_found 209 = .ok (.imul, 1) := by decide +kernel
theorem dX7_found_210 : decode cX7_found 210 = .ok (.sipush 500, 3) := by decide +kernel
theorem dX7_found_213 : decode cX7_found 213 = .ok (.aload_n 0, 1) := by decide +kernel
theorem dX7_found_214 : decode cX7_found 214 = .ok (.sipush 9000, 3) := by decide +kernel
theorem dX7_found_217 : decode cX7_found 217 = .ok (.invokevirtual 142, 3) := by decide +kernel
theorem dX7_found_220 : decode cX7_found 220 = .ok (.iadd, 1) := by decide +kernel
theorem dX7_found_221 : decode cX7_found 221 = .ok (.bipush 12, 2) := by decide +kernel
theorem dX7_found_223 : decode cX7_found 223 = .ok (.aload_n 0, 1) := by decide +kernel
theorem dX7_found_224 : decode cX7_found 224 = .ok (.bipush 12, 2) := by decide +kernel
theorem dX7_found_226 : decode cX7_found 226 = .ok (.invokevirtual 142, 3) := by decide +kernel
theorem dX7_found_229 : decode cX7_found 229 = .ok (.iadd, 1) := by decide +kernel
theorem dX7_found_230 : decode cX7_found 230 = .ok (.aload_n 0, 1) := by decide +kernel
theorem dX7_found_231 : decode cX7_found 231 = .ok (.bipush 12, 2) := by decide +kernel
theorem dX7_found_233 : decode cX7_found 233 = .ok (.invokevirtual 142, 3) := by decide +kernel
theorem dX7_found_236 : decode cX7_found 236 = .ok (.iconst 5, 1) := by decide +kernel
theorem dX7_found_237 : decode cX7_found 237 = .ok (.aload_n 0, 1) := by decide +kernel
theorem dX7_found_238 : decode cX7_found 238 = .ok (.bipush 9, 2) := by decide +kernel
theorem dX7_found_240 : decode cX7_found 240 = .ok (.invokevirtual 142, 3) := by decide +kernel
theorem dX7_found_243 : decode cX7_found 243 = .ok (.iadd, 1) := by decide +kernel
theorem dX7_found_244 : decode cX7_found 244 = .ok (.bipush 14, 2) := by decide +kernel
theorem dX7_found_246 : decode cX7_found 246 = .ok (.aload_n 0, 1) := by decide +kernel
theorem dX7_found_247 : decode cX7_found 247 = .ok (.bipush 20, 2) := by decide +kernel
theorem dX7_found_249 : decode cX7_found 249 = .ok (.invokevirtual 142, 3) := by decide +kernel
theorem dX7_found_252 : decode cX7_found 252 = .ok (.iadd, 1) := by decide +kernel
theorem dX7_found_253 : decode cX7_found 253 = .ok (.invokevirtual 157, 3) := by decide +kernel
theorem dX7_found_256 : decode cX7_found 256 = .ok (.ifCond .eq 7, 3) := by decide +kernel
theorem dX7_found_259 : decode cX7_found 259 = .ok (.iconst 1, 1) := by decide +kernel
theorem dX7_found_260 : decode cX7_found 260 = .ok (.goto 4, 3) := by decide +kernel
theorem dX7_found_263 : decode cX7_found 263 = .ok (.iconst 0, 1) := by decide +kernel
theorem dX7_found_264 : decode cX7_found 264 = .ok (.ireturn, 1) := by decide +kernel
theorem dJ9_abs_0f7a4_0 : decode cJ9_abs_0f7a4 0 = .ok (.iload_n 0, 1) := by decide +kernel
theorem dJ9_abs_0f7a4_1 : decode cJ9_abs_0f7a4 1 = .ok (.ifCond .ge 8, 3) := by decide +kernel
theorem dJ9_abs_0f7a4_4 : decode cJ9_abs_0f7a4 4 = .ok (.iload_n 0, 1) := by decide +kernel
theorem dJ9_abs_0f7a4_5 : decode cJ9_abs_0f7a4 5 = .ok (.ineg, 1) := by decide +kernel
theorem dJ9_abs_0f7a4_6 : decode cJ9_abs_0f7a4 6 = .ok (.goto 4, 3) := by decide +kernel
theorem dJ9_abs_0f7a4_9 : decode cJ9_abs_0f7a4 9 = .ok (.iload_n 0, 1) := by decide +kernel
theorem dJ9_abs_0f7a4_10 : decode cJ9_abs_0f7a4 10 = .ok (.ireturn, 1) := by decide +kernel
theorem dJ9_max_7cf53_0 : decode cJ9_max_7cf53 0 = .ok (.iload_n 0, 1) := by decide +kernel
theorem dJ9_max_7cf53_1 : decode cJ9_max_7cf53 1 = .ok (.iload_n 1, 1) := by decide +kernel
theorem dJ9_max_7cf53_2 : decode cJ9_max_7cf53 2 = .ok (.if_icmp .lt 7, 3) := by decide +kernel
theorem dJ9_max_7cf53_5 : decode cJ9_max_7cf53 5 = .ok (.iload_n 0, 1) := by decide +kernel
theorem dJ9_max_7cf53_6 : decode cJ9_max_7cf53 6 = .ok (.goto 4, 3) := by decide +kernel
theorem dJ9_max_7cf53_9 : decode cJ9_max_7cf53 9 = .ok (.iload_n 1, 1) := by decide +kernel
theorem dJ9_max_7cf53_10 : decode cJ9_max_7cf53 10 = .ok (.ireturn, 1) := by decide +kernel
theorem dJ9_min_7cf53_0 : decode cJ9_min_7cf53 0 = .ok (.iload_n 0, 1) := by decide +kernel
theorem dJ9_min_7cf53_1 : decode cJ9_min_7cf53 1 = .ok (.iload_n 1, 1) := by decide +kernel
theorem dJ9_min_7cf53_2 : decode cJ9_min_7cf53 2 = .ok (.if_icmp .gt 7, 3) := by decide +kernel
theorem dJ9_min_7cf53_5 : decode cJ9_min_7cf53 5 = .ok (.iload_n 0, 1) := by decide +kernel
theorem dJ9_min_7cf53_6 : decode cJ9_min_7cf53 6 = .ok (.goto 4, 3) := by decide +kernel
theorem dJ9_min_7cf53_9 : decode cJ9_min_7cf53 9 = .ok (.iload_n 1, 1) := by decide +kernel
theorem dJ9_min_7cf53_10 : decode cJ9_min_7cf53 10 = .ok (.ireturn, 1) := by decide +kernel
theorem dJxa1e45_init_da8c8_0 : decode cJxa1e45_init_da8c8 0 = .ok (.aload_n 0, 1) := by decide +kernel
theorem dJxa1e45_init_da8c8_1 : decode cJxa1e45_init_da8c8 1 = .ok (.invokespecial 1, 3) := by decide +kernel
theorem dJxa1e45_init_da8c8_4 : decode cJxa1e45_init_da8c8 4 = .ok (.return_, 1) := by decide +kernel
theorem dJxc12de_init_da8c8_0 : decode cJxc12de_init_da8c8 0 = .ok (.aload_n 0, 1) := by decide +kernel
theorem dJxc12de_init_da8c8_1 : decode cJxc12de_init_da8c8 1 = .ok (.invokespecial 1, 3) := by decide +kernel
theorem dJxc12de_init_da8c8_4 : decode cJxc12de_init_da8c8 4 = .ok (.aload_n 0, 1) := by decide +kernel
theorem dJxc12de_init_da8c8_5 : decode cJxc12de_init_da8c8 5 = .ok (.iconst 0, 1) := by decide +kernel
theorem dJxc12de_init_da8c8_6 : decode cJxc12de_init_da8c8 6 = .ok (.putfield 7, 3) := by decide +kernel
theorem dJxc12de_init_da8c8_9 : decode cJxc12de_init_da8c8 9 = .ok (.return_, 1) := by decide +kernel
theorem dJx4a65c_init_da8c8_0 : decode cJx4a65c_init_da8c8 0 = .ok (.aload_n 0, 1) := by decide +kernel
theorem dJx4a65c_init_da8c8_1 : decode cJx4a65c_init_da8c8 1 = .ok (.invokespecial 1, 3) := by decide +kernel
theorem dJx4a65c_init_da8c8_4 : decode cJx4a65c_init_da8c8 4 = .ok (.aload_n 0, 1) := by decide +kernel
theorem dJx4a65c_init_da8c8_5 : decode cJx4a65c_init_da8c8 5 = .ok (.getstatic 39, 3) := by decide +kernel
theorem dJx4a65c_init_da8c8_8 : decode cJx4a65c_init_da8c8 8 = .ok (.putfield 9, 3) := by decide +kernel
theorem dJx4a65c_init_da8c8_11 : decode cJx4a65c_init_da8c8 11 = .ok (.return_, 1) := by decide +kernel
theorem dJx4a65c_grow_92f84_0 : decode cJx4a65c_grow_92f84 0 = .ok (.aload_n 0, 1) := by decide +kernel
theorem dJx4a65c_grow_92f84_1 : decode cJx4a65c_grow_92f84 1 = .ok (.getfield 9, 3) := by decide +kernel
theorem dJx4a65c_grow_92f84_4 : decode cJx4a65c_grow_92f84 4 = .ok (.arraylength, 1) := by decide +kernel
theorem dJx4a65c_grow_92f84_5 : decode cJx4a65c_grow_92f84 5 = .ok (.istore_n 2, 1) := by decide +kernel
theorem dJx4a65c_grow_92f84_6 : decode cJx4a65c_grow_92f84 6 = .ok (.iload_n 2, 1) := by decide +kernel
theorem dJx4a65c_grow_92f84_7 : decode cJx4a65c_grow_92f84 7 = .ok (.ifCond .gt 13, 3) := by decide +kernel
theorem dJx4a65c_grow_92f84_10 : decode cJx4a65c_grow_92f84 10 = .ok (.aload_n 0, 1) := by decide +kernel
theorem dJx4a65c_grow_92f84_11 : decode cJx4a65c_grow_92f84 11 = .ok (.getfield 9, 3) := by decide +kernel
theorem dJx4a65c_grow_92f84_14 : decode cJx4a65c_grow_92f84 14 = .ok (.getstatic 39, 3) := by decide +kernel
theorem dJx4a65c_grow_92f84_17 : decode cJx4a65c_grow_92f84 17 = .ok (.if_acmp .eq 28, 3) := by decide +kernel
theorem dJx4a65c_grow_92f84_20 : decode cJx4a65c_grow_92f84 20 = .ok (.iload_n 2, 1) := by decide +kernel
theorem dJx4a65c_grow_92f84_21 : decode cJx4a65c_grow_92f84 21 = .ok (.iload_n 1, 1) := by decide +kernel
theorem dJx4a65c_grow_92f84_22 : decode cJx4a65c_grow_92f84 22 = .ok (.iload_n 2, 1) := by decide +kernel
theorem dJx4a65c_grow_92f84_23 : decode cJx4a65c_grow_92f84 23 = .ok (.isub, 1) := by decide +kernel
theorem dJx4a65c_grow_92f84_24 : decode cJx4a65c_grow_92f84 24 = .ok (.iload_n 2, 1) := by decide +kernel
theorem dJx4a65c_grow_92f84_25 : decode cJx4a65c_grow_92f84 25 = .ok (.iconst 1, 1) := by decide +kernel
theorem dJx4a65c_grow_92f84_26 : decode cJx4a65c_grow_92f84 26 = .ok (.ishr, 1) := by decide +kernel
theorem dJx4a65c_grow_92f84_27 : decode cJx4a65c_grow_92f84 27 = .ok (.invokestatic 73, 3) := by decide +kernel
theorem dJx4a65c_grow_92f84_30 : decode cJx4a65c_grow_92f84 30 = .ok (.istore_n 3, 1) := by decide +kernel
theorem dJx4a65c_grow_92f84_31 : decode cJx4a65c_grow_92f84 31 = .ok (.aload_n 0, 1) := by decide +kernel
theorem dJx4a65c_grow_92f84_32 : decode cJx4a65c_grow_92f84 32 = .ok (.aload_n 0, 1) := by decide +kernel
theorem dJx4a65c_grow_92f84_33 : decode cJx4a65c_grow_92f84 33 = .ok (.getfield 9, 3) := by decide +kernel
theorem dJx4a65c_grow_92f84_36 : decode cJx4a65c_grow_92f84 36 = .ok (.iload_n 3, 1) := by decide +kernel
theorem dJx4a65c_grow_92f84_37 : decode cJx4a65c_grow_92f84 37 = .ok (.invokestatic 66, 3) := by decide +kernel
theorem dJx4a65c_grow_92f84_40 : decode cJx4a65c_grow_92f84 40 = .ok (.dup_x1, 1) := by decide +kernel
theorem dJx4a65c_grow_92f84_41 : decode cJx4a65c_grow_92f84 41 = .ok (.putfield 9, 3) := by decide +kernel
theorem dJx4a65c_grow_92f84_44 : decode cJx4a65c_grow_92f84 44 = .ok (.areturn, 1) := by decide +kernel
theorem dJx4a65c_grow_92f84_45 : decode cJx4a65c_grow_92f84 45 = .ok (.aload_n 0, 1) := by decide +kernel
theorem dJx4a65c_grow_92f84_46 : decode cJx4a65c_grow_92f84 46 = .ok (.bipush 10, 2) := by decide +kernel
theorem dJx4a65c_grow_92f84_48 : decode cJx4a65c_grow_92f84 48 = .ok (.iload_n 1, 1) := by decide +kernel
theorem dJx4a65c_grow_92f84_49 : decode cJx4a65c_grow_92f84 49 = .ok (.invokestatic 79, 3) := by decide +kernel
theorem dJx4a65c_grow_92f84_52 : decode cJx4a65c_grow_92f84 52 = .ok (.anewarray 7, 3) := by decide +kernel
theorem dJx4a65c_grow_92f84_55 : decode cJx4a65c_grow_92f84 55 = .ok (.dup_x1, 1) := by decide +kernel
theorem dJx4a65c_grow_92f84_56 : decode cJx4a65c_grow_92f84 56 = .ok (.putfield 9, 3) := by decide +kernel
theorem dJx4a65c_grow_92f84_59 : decode cJx4a65c_grow_92f84 59 = .ok (.areturn, 1) := by decide +kernel
theorem dJx4a65c_grow_d5877_0 : decode cJx4a65c_grow_d5877 0 = .ok (.aload_n 0, 1) := by decide +kernel
theorem dJx4a65c_grow_d5877_1 : decode cJx4a65c_grow_d5877 1 = .ok (.aload_n 0, 1) := by decide +kernel
theorem dJx4a65c_grow_d5877_2 : decode cJx4a65c_grow_d5877 2 = .ok (.getfield 48, 3) := by decide +kernel
theorem dJx4a65c_grow_d5877_5 : decode cJx4a65c_grow_d5877 5 = .ok (.iconst 1, 1) := by decide +kernel
theorem dJx4a65c_grow_d5877_6 : decode cJx4a65c_grow_d5877 6 = .ok (.iadd, 1) := by decide +kernel
theorem dJx4a65c_grow_d5877_7 : decode cJx4a65c_grow_d5877 7 = .ok (.invokevirtual 69, 3) := by decide +kernel
theorem dJx4a65c_grow_d5877_10 : decode cJx4a65c_grow_d5877 10 = .ok (.areturn, 1) := by decide +kernel
theorem dJx4a65c_size_8abf5_0 : decode cJx4a65c_size_8abf5 0 = .ok (.aload_n 0, 1) := by decide +kernel
theorem dJx4a65c_size_8abf5_1 : decode cJx4a65c_size_8abf5 1 = .ok (.getfield 48, 3) := by decide +kernel
theorem dJx4a65c_size_8abf5_4 : decode cJx4a65c_size_8abf5 4 = .ok (.ireturn, 1) := by decide +kernel
theorem dJx4a65c_elementData_915e3_0 : decode cJx4a65c_elementData_915e3 0 = .ok (.aload_n 0, 1) := by decide +kernel
theorem dJx4a65c_elementData_915e3_1 : decode cJx4a65c_elementData_915e3 1 = .ok (.getfield 9, 3) := by decide +kernel
theorem dJx4a65c_elementData_915e3_4 : decode cJx4a65c_elementData_915e3 4 = .ok (.iload_n 1, 1) := by decide +kernel
theorem dJx4a65c_elementData_915e3_5 : decode cJx4a65c_elementData_915e3 5 = .ok (.aaload, 1) := by decide +kernel
theorem dJx4a65c_elementData_915e3_6 : decode cJx4a65c_elementData_915e3 6 = .ok (.areturn, 1) := by decide +kernel
theorem dJx4a65c_get_915e3_0 : decode cJx4a65c_get_915e3 0 = .ok (.iload_n 1, 1) := by decide +kernel
theorem dJx4a65c_get_915e3_1 : decode cJx4a65c_get_915e3 1 = .ok (.aload_n 0, 1) := by decide +kernel
theorem dJx4a65c_get_915e3_2 : decode cJx4a65c_get_915e3 2 = .ok (.getfield 48, 3) := by decide +kernel
theorem dJx4a65c_get_915e3_5 : decode cJx4a65c_get_915e3 5 = .ok (.invokestatic 118, 3) := by decide +kernel
theorem dJx4a65c_get_915e3_8 : decode cJx4a65c_get_915e3 8 = .ok (.pop, 1) := by decide +kernel
theorem dJx4a65c_get_915e3_9 : decode cJx4a65c_get_915e3 9 = .ok (.aload_n 0, 1) := by decide +kernel
theorem dJx4a65c_get_915e3_10 : decode cJx4a65c_get_915e3 10 = .ok (.iload_n 1, 1) := by decide +kernel
theorem dJx4a65c_get_915e3_11 : decode cJx4a65c_get_915e3 11 = .ok (.invokevirtual 123, 3) := by decide +kernel
theorem dJx4a65c_get_915e3_14 : decode cJx4a65c_get_915e3 14 = .ok (.areturn, 1) := by decide +kernel
theorem dJx4a65c_add_72be8_0 : decode cJx4a65c_add_72be8 0 = .ok (.iload_n 3, 1) := by decide +kernel
theorem dJx4a65c_add_72be8_1 : decode cJx4a65c_add_72be8 1 = .ok (.aload_n 2, 1) := by decide +kernel
theorem dJx4a65c_add_72be8_2 : decode cJx4a65c_add_72be8 2 = .ok (.arraylength, 1) := by decide +kernel
theorem dJx4a65c_add_72be8_3 : decode cJx4a65c_add_72be8 3 = .ok (.if_icmp .ne 8, 3) := by decide +kernel
theorem dJx4a65c_add_72be8_6 : decode cJx4a65c_add_72be8 6 = .ok (.aload_n 0, 1) := by decide +kernel
theorem dJx4a65c_add_72be8_7 : decode cJx4a65c_add_72be8 7 = .ok (.invokevirtual 129, 3) := by decide +kernel
theorem dJx4a65c_add_72be8_10 : decode cJx4a65c_add_72be8 10 = .ok (.astore_n 2, 1) := by decide +kernel
theorem dJx4a65c_add_72be8_11 : decode cJx4a65c_add_72be8 11 = .ok (.aload_n 2, 1) := by decide +kernel
theorem dJx4a65c_add_72be8_12 : decode cJx4a65c_add_72be8 12 = .ok (.iload_n 3, 1) := by decide +kernel
theorem dJx4a65c_add_72be8_13 : decode cJx4a65c_add_72be8 13 = .ok (.aload_n 1, 1) := by decide +kernel
theorem dJx4a65c_add_72be8_14 : decode cJx4a65c_add_72be8 14 = .ok (.aastore, 1) := by decide +kernel
theorem dJx4a65c_add_72be8_15 : decode cJx4a65c_add_72be8 15 = .ok (.aload_n 0, 1) := by decide +kernel
theorem dJx4a65c_add_72be8_16 : decode cJx4a65c_add_72be8 16 = .ok (.iload_n 3, 1) := by decide +kernel
theorem dJx4a65c_add_72be8_17 : decode cJx4a65c_add_72be8 17 = .ok (.iconst 1, 1) := by decide +kernel
theorem dJx4a65c_add_72be8_18 : decode cJx4a65c_add_72be8 18 = .ok (.iadd, 1) := by decide +kernel
theorem dJx4a65c_add_72be8_19 : decode cJx4a65c_add_72be8 19 = .ok (.putfield 48, 3) := by decide +kernel
theorem dJx4a65c_add_72be8_22 : decode cJx4a65c_add_72be8 22 = .ok (.return_, 1) := by decide +kernel
theorem dJx4a65c_add_9ea2d_0 : decode cJx4a65c_add_9ea2d 0 = .ok (.aload_n 0, 1) := by decide +kernel
theorem dJx4a65c_add_9ea2d_1 : decode cJx4a65c_add_9ea2d 1 = .ok (.dup, 1) := by decide +kernel
theorem dJx4a65c_add_9ea2d_2 : decode cJx4a65c_add_9ea2d 2 = .ok (.getfield 63, 3) := by decide +kernel
theorem dJx4a65c_add_9ea2d_5 : decode cJx4a65c_add_9ea2d 5 = .ok (.iconst 1, 1) := by decide +kernel
theorem dJx4a65c_add_9ea2d_6 : decode cJx4a65c_add_9ea2d 6 = .ok (.iadd, 1) := by decide +kernel
theorem dJx4a65c_add_9ea2d_7 : decode cJx4a65c_add_9ea2d 7 = .ok (.putfield 63, 3) := by decide +kernel
theorem dJx4a65c_add_9ea2d_10 : decode cJx4a65c_add_9ea2d 10 = .ok (.aload_n 0, 1) := by decide +kernel
theorem dJx4a65c_add_9ea2d_11 : decode cJx4a65c_add_9ea2d 11 = .ok (.aload_n 1, 1) := by decide +kernel
theorem dJx4a65c_add_9ea2d_12 : decode cJx4a65c_add_9ea2d 12 = .ok (.aload_n 0, 1) := by decide +kernel
theorem dJx4a65c_add_9ea2d_13 : decode cJx4a65c_add_9ea2d 13 = .ok (.getfield 9, 3) := by decide +kernel
theorem dJx4a65c_add_9ea2d_16 : decode cJx4a65c_add_9ea2d 16 = .ok (.aload_n 0, 1) := by decide +kernel
theorem dJx4a65c_add_9ea2d_17 : decode cJx4a65c_add_9ea2d 17 = .ok (.getfield 48, 3) := by decide +kernel
theorem dJx4a65c_add_9ea2d_20 : decode cJx4a65c_add_9ea2d 20 = .ok (.invokevirtual 131, 3) := by decide +kernel
theorem dJx4a65c_add_9ea2d_23 : decode cJx4a65c_add_9ea2d 23 = .ok (.iconst 1, 1) := by decide +kernel
theorem dJx4a65c_add_9ea2d_24 : decode cJx4a65c_add_9ea2d 24 = .ok (.ireturn, 1) := by decide +kernel
theorem dJ7_copyOf_1904c_0 : decode cJ7_copyOf_1904c 0 = .ok (.aload_n 0, 1) := by decide +kernel
theorem dJ7_copyOf_1904c_1 : decode cJ7_copyOf_1904c 1 = .ok (.iload_n 1, 1) := by decide +kernel
theorem dJ7_copyOf_1904c_2 : decode cJ7_copyOf_1904c 2 = .ok (.aload_n 0, 1) := by decide +kernel
theorem dJ7_copyOf_1904c_3 : decode cJ7_copyOf_1904c 3 = .ok (.invokevirtual 86, 3) := by decide +kernel
theorem dJ7_copyOf_1904c_6 : decode cJ7_copyOf_1904c 6 = .ok (.invokestatic 300, 3) := by decide +kernel
theorem dJ7_copyOf_1904c_9 : decode cJ7_copyOf_1904c 9 = .ok (.areturn, 1) := by decide +kernel
theorem dJ7_copyOf_6403c_0 : decode cJ7_copyOf_6403c 0 = .ok (.aload_n 2, 1) := by decide +kernel
theorem dJ7_copyOf_6403c_1 : decode cJ7_copyOf_6403c 1 = .ok (.ldc 110, 2) := by decide +kernel
theorem dJ7_copyOf_6403c_3 : decode cJ7_copyOf_6403c 3 = .ok (.if_acmp .ne 10, 3) := by decide +kernel
theorem dJ7_copyOf_6403c_6 : decode cJ7_copyOf_6403c 6 = .ok (.iload_n 1, 1) := by decide +kernel
theorem dJ7_copyOf_6403c_7 : decode cJ7_copyOf_6403c 7 = .ok (.anewarray 2, 3) := by decide +kernel
theorem dJ7_copyOf_6403c_10 : decode cJ7_copyOf_6403c 10 = .ok (.goto 14, 3) := by decide +kernel
theorem dJ7_copyOf_6403c_13 : decode cJ7_copyOf_6403c 13 = .ok (.aload_n 2, 1) := by decide +kernel
theorem dJ7_copyOf_6403c_14 : decode cJ7_copyOf_6403c 14 = .ok (.invokevirtual 90, 3) := by decide +kernel
theorem dJ7_copyOf_6403c_17 : decode cJ7_copyOf_6403c 17 = .ok (.iload_n 1, 1) := by decide +kernel
theorem dJ7_copyOf_6403c_18 : decode cJ7_copyOf_6403c 18 = .ok (.invokestatic 95, 3) := by decide +kernel
theorem dJ7_copyOf_6403c_21 : decode cJ7_copyOf_6403c 21 = .ok (.checkcast 110, 3) := by decide +kernel
theorem dJ7_copyOf_6403c_24 : decode cJ7_copyOf_6403c 24 = .ok (.astore_n 3, 1) := by decide +kernel
theorem dJ7_copyOf_6403c_25 : decode cJ7_copyOf_6403c 25 = .ok (.aload_n 0, 1) := by decide +kernel
theorem dJ7_copyOf_6403c_26 : decode cJ7_copyOf_6403c 26 = .ok (.iconst 0, 1) := by decide +kernel
theorem dJ7_copyOf_6403c_27 : decode cJ7_copyOf_6403c 27 = .ok (.aload_n 3, 1) := by decide +kernel
theorem dJ7_copyOf_6403c_28 : decode cJ7_copyOf_6403c 28 = .ok (.iconst 0, 1) := by decide +kernel
theorem dJ7_copyOf_6403c_29 : decode cJ7_copyOf_6403c 29 = .ok (.aload_n 0, 1) := by decide +kernel
theorem dJ7_copyOf_6403c_30 : decode cJ7_copyOf_6403c 30 = .ok (.arraylength, 1) := by decide +kernel
theorem dJ7_copyOf_6403c_31 : decode cJ7_copyOf_6403c 31 = .ok (.iload_n 1, 1) := by decide +kernel
theorem dJ7_copyOf_6403c_32 : decode cJ7_copyOf_6403c 32 = .ok (.invokestatic 304, 3) := by decide +kernel
theorem dJ7_copyOf_6403c_35 : decode cJ7_copyOf_6403c 35 = .ok (.invokestatic 150, 3) := by decide +kernel
theorem dJ7_copyOf_6403c_38 : decode cJ7_copyOf_6403c 38 = .ok (.aload_n 3, 1) := by decide +kernel
theorem dJ7_copyOf_6403c_39 : decode cJ7_copyOf_6403c 39 = .ok (.areturn, 1) := by decide +kernel
theorem dJ15_checkIndex_7cf53_0 : decode cJ15_checkIndex_7cf53 0 = .ok (.iload_n 0, 1) := by decide +kernel
theorem dJ15_checkIndex_7cf53_1 : decode cJ15_checkIndex_7cf53 1 = .ok (.iload_n 1, 1) := by decide +kernel
theorem dJ15_checkIndex_7cf53_2 : decode cJ15_checkIndex_7cf53 2 = .ok (.aconst_null, 1) := by decide +kernel
theorem dJ15_checkIndex_7cf53_3 : decode cJ15_checkIndex_7cf53 3 = .ok (.invokestatic 105, 3) := by decide +kernel
theorem dJ15_checkIndex_7cf53_6 : decode cJ15_checkIndex_7cf53 6 = .ok (.ireturn, 1) := by decide +kernel
theorem dJ8_newLength_cabcc_0 : decode cJ8_newLength_cabcc 0 = .ok (.iload_n 0, 1) := by decide +kernel
theorem dJ8_newLength_cabcc_1 : decode cJ8_newLength_cabcc 1 = .ok (.iload_n 1, 1) := by decide +kernel
theorem dJ8_newLength_cabcc_2 : decode cJ8_newLength_cabcc 2 = .ok (.iload_n 2, 1) := by decide +kernel
theorem dJ8_newLength_cabcc_3 : decode cJ8_newLength_cabcc 3 = .ok (.invokestatic 194, 3) := by decide +kernel
theorem dJ8_newLength_cabcc_6 : decode cJ8_newLength_cabcc 6 = .ok (.iadd, 1) := by decide +kernel
theorem dJ8_newLength_cabcc_7 : decode cJ8_newLength_cabcc 7 = .ok (.istore_n 3, 1) := by decide +kernel
theorem dJ8_newLength_cabcc_8 : decode cJ8_newLength_cabcc 8 = .ok (.iconst 0, 1) := by decide +kernel
theorem dJ8_newLength_cabcc_9 : decode cJ8_newLength_cabcc 9 = .ok (.iload_n 3, 1) := by decide +kernel
theorem dJ8_newLength_cabcc_10 : decode cJ8_newLength_cabcc 10 = .ok (.if_icmp .ge 11, 3) := by decide +kernel
theorem dJ8_newLength_cabcc_13 : decode cJ8_newLength_cabcc 13 = .ok (.iload_n 3, 1) := by decide +kernel
theorem dJ8_newLength_cabcc_14 : decode cJ8_newLength_cabcc 14 = .ok (.ldc 200, 2) := by decide +kernel
theorem dJ8_newLength_cabcc_16 : decode cJ8_newLength_cabcc 16 = .ok (.if_icmp .gt 5, 3) := by decide +kernel
theorem dJ8_newLength_cabcc_19 : decode cJ8_newLength_cabcc 19 = .ok (.iload_n 3, 1) := by decide +kernel
theorem dJ8_newLength_cabcc_20 : decode cJ8_newLength_cabcc 20 = .ok (.ireturn, 1) := by decide +kernel
theorem dJ8_newLength_cabcc_21 : decode cJ8_newLength_cabcc 21 = .ok (.iload_n 0, 1) := by decide +kernel
theorem dJ8_newLength_cabcc_22 : decode cJ8_newLength_cabcc 22 = .ok (.iload_n 1, 1) := by decide +kernel
theorem dJ8_newLength_cabcc_23 : decode cJ8_newLength_cabcc 23 = .ok (.invokestatic 201, 3) := by decide +kernel
theorem dJ8_newLength_cabcc_26 : decode cJ8_newLength_cabcc 26 = .ok (.ireturn, 1) := by decide +kernel
theorem dJ8_hugeLength_7cf53_0 : decode cJ8_hugeLength_7cf53 0 = .ok (.iload_n 0, 1) := by decide +kernel
theorem dJ8_hugeLength_7cf53_1 : decode cJ8_hugeLength_7cf53 1 = .ok (.iload_n 1, 1) := by decide +kernel
theorem dJ8_hugeLength_7cf53_2 : decode cJ8_hugeLength_7cf53 2 = .ok (.iadd, 1) := by decide +kernel
theorem dJ8_hugeLength_7cf53_3 : decode cJ8_hugeLength_7cf53 3 = .ok (.istore_n 2, 1) := by decide +kernel
theorem dJ8_hugeLength_7cf53_4 : decode cJ8_hugeLength_7cf53 4 = .ok (.iload_n 2, 1) := by decide +kernel
theorem dJ8_hugeLength_7cf53_5 : decode cJ8_hugeLength_7cf53 5 = .ok (.ifCond .ge 44, 3) := by decide +kernel
theorem dJ8_hugeLength_7cf53_8 : decode cJ8_hugeLength_7cf53 8 = .ok (.new 204, 3) := by decide +kernel
theorem dJ8_hugeLength_7cf53_11 : decode cJ8_hugeLength_7cf53 11 = .ok (.dup, 1) := by decide +kernel
theorem dJ8_hugeLength_7cf53_12 : decode cJ8_hugeLength_7cf53 12 = .ok (.new 89, 3) := by decide +kernel
theorem dJ8_hugeLength_7cf53_15 : decode cJ8_hugeLength_7cf53 15 = .ok (.dup, 1) := by decide +kernel
theorem dJ8_hugeLength_7cf53_16 : decode cJ8_hugeLength_7cf53 16 = .ok (.invokespecial 91, 3) := by decide +kernel
theorem dJ8_hugeLength_7cf53_19 : decode cJ8_hugeLength_7cf53 19 = .ok (.ldc 206, 2) := by decide +kernel
theorem dJ8_hugeLength_7cf53_21 : decode cJ8_hugeLength_7cf53 21 = .ok (.invokevirtual 94, 3) := by decide +kernel
theorem dJ8_hugeLength_7cf53_24 : decode cJ8_hugeLength_7cf53 24 = .ok (.iload_n 0, 1) := by decide +kernel
theorem dJ8_hugeLength_7cf53_25 : decode cJ8_hugeLength_7cf53 25 = .ok (.invokevirtual 98, 3) := by decide +kernel
theorem dJ8_hugeLength_7cf53_28 : decode cJ8_hugeLength_7cf53 28 = .ok (.ldc 208, 2) := by decide +kernel
theorem dJ8_hugeLength_7cf53_30 : decode cJ8_hugeLength_7cf53 30 = .ok (.invokevirtual 94, 3) := by decide +kernel
theorem dJ8_hugeLength_7cf53_33 : decode cJ8_hugeLength_7cf53 33 = .ok (.iload_n 1, 1) := by decide +kernel
theorem dJ8_hugeLength_7cf53_34 : decode cJ8_hugeLength_7cf53 34 = .ok (.invokevirtual 98, 3) := by decide +kernel
theorem dJ8_hugeLength_7cf53_37 : decode cJ8_hugeLength_7cf53 37 = .ok (.ldc 210, 2) := by decide +kernel
theorem dJ8_hugeLength_7cf53_39 : decode cJ8_hugeLength_7cf53 39 = .ok (.invokevirtual 94, 3) := by decide +kernel
theorem dJ8_hugeLength_7cf53_42 : decode cJ8_hugeLength_7cf53 42 = .ok (.invokevirtual 101, 3) := by decide +kernel
theorem dJ8_hugeLength_7cf53_45 : decode cJ8_hugeLength_7cf53 45 = .ok (.invokespecial 212, 3) := by decide +kernel
theorem dJ8_hugeLength_7cf53_48 : decode cJ8_hugeLength_7cf53 48 = .ok (.athrow, 1) := by decide +kernel
theorem dJ8_hugeLength_7cf53_49 : decode cJ8_hugeLength_7cf53 49 = .ok (.iload_n 2, 1) := by decide +kernel
theorem dJ8_hugeLength_7cf53_50 : decode cJ8_hugeLength_7cf53 50 = .ok (.ldc 200, 2) := by decide +kernel
theorem dJ8_hugeLength_7cf53_52 : decode cJ8_hugeLength_7cf53 52 = .ok (.if_icmp .gt 6, 3) := by decide +kernel
theorem dJ8_hugeLength_7cf53_55 : decode cJ8_hugeLength_7cf53 55 = .ok (.ldc 200, 2) := by decide +kernel
theorem dJ8_hugeLength_7cf53_57 : decode cJ8_hugeLength_7cf53 57 = .ok (.ireturn, 1) := by decide +kernel
theorem dJ8_hugeLength_7cf53_58 : decode cJ8_hugeLength_7cf53 58 = .ok (.iload_n 2, 1) := by decide +kernel
theorem dJ8_hugeLength_7cf53_59 : decode cJ8_hugeLength_7cf53 59 = .ok (.ireturn, 1) := by decide +kernel
theorem dJ3_checkIndex_8e157_0 : decode cJ3_checkIndex_8e157 0 = .ok (.iload_n 0, 1) := by decide +kernel
theorem dJ3_checkIndex_8e157_1 : decode cJ3_checkIndex_8e157 1 = .ok (.ifCond .lt 8, 3) := by decide +kernel
theorem dJ3_checkIndex_8e157_4 : decode cJ3_checkIndex_8e157 4 = .ok (.iload_n 0, 1) := by decide +kernel
theorem dJ3_checkIndex_8e157_5 : decode cJ3_checkIndex_8e157 5 = .ok (.iload_n 1, 1) := by decide +kernel
theorem dJ3_checkIndex_8e157_6 : decode cJ3_checkIndex_8e157 6 = .ok (.if_icmp .lt 10, 3) := by decide +kernel
theorem dJ3_checkIndex_8e157_9 : decode cJ3_checkIndex_8e157 9 = .ok (.aload_n 2, 1) := by decide +kernel
theorem dJ3_checkIndex_8e157_10 : decode cJ3_checkIndex_8e157 10 = .ok (.iload_n 0, 1) := by decide +kernel
theorem dJ3_checkIndex_8e157_11 : decode cJ3_checkIndex_8e157 11 = .ok (.iload_n 1, 1) := by decide +kernel
theorem dJ3_checkIndex_8e157_12 : decode cJ3_checkIndex_8e157 12 = .ok (.invokestatic 95, 3) := by decide +kernel
theorem dJ3_checkIndex_8e157_15 : decode cJ3_checkIndex_8e157 15 = .ok (.athrow, 1) := by decide +kernel
theorem dJ3_checkIndex_8e157_16 : decode cJ3_checkIndex_8e157 16 = .ok (.iload_n 0, 1) := by decide +kernel
theorem dJ3_checkIndex_8e157_17 : decode cJ3_checkIndex_8e157 17 = .ok (.ireturn, 1) := by decide +kernel
theorem dL_below_0 : decode cL_below 0 = .ok (.iload_n 0, 1) := by decide +kernel
theorem dL_below_1 : decode cL_below 1 = .ok (.ldc 7, 2) := by decide +kernel
theorem dL_below_3 : decode cL_below 3 = .ok (.iand, 1) := by decide +kernel
theorem dL_below_4 : decode cL_below 4 = .ok (.iload_n 1, 1) := by decide +kernel
theorem dL_below_5 : decode cL_below 5 = .ok (.irem, 1) := by decide +kernel
theorem dL_below_6 : decode cL_below 6 = .ok (.ireturn, 1) := by decide +kernel
theorem dL_cell_0 : decode cL_cell 0 = .ok (.iload_n 1, 1) := by decide +kernel
theorem dL_cell_1 : decode cL_cell 1 = .ok (.aload_n 0, 1) := by decide +kernel
theorem dL_cell_2 : decode cL_cell 2 = .ok (.arraylength, 1) := by decide +kernel
theorem dL_cell_3 : decode cL_cell 3 = .ok (.if_icmp .ge 9, 3) := by decide +kernel
theorem dL_cell_6 : decode cL_cell 6 = .ok (.aload_n 0, 1) := by decide +kernel
theorem dL_cell_7 : decode cL_cell 7 = .ok (.iload_n 1, 1) := by decide +kernel
theorem dL_cell_8 : decode cL_cell 8 = .ok (.iaload, 1) := by decide +kernel
theorem dL_cell_9 : decode cL_cell 9 = .ok (.goto 9, 3) := by decide +kernel
theorem dL_cell_12 : decode cL_cell 12 = .ok (.ldc 8, 2) := by decide +kernel
theorem dL_cell_14 : decode cL_cell 14 = .ok (.iload_n 1, 1) := by decide +kernel
theorem dL_cell_15 : decode cL_cell 15 = .ok (.iconst 3, 1) := by decide +kernel
theorem dL_cell_16 : decode cL_cell 16 = .ok (.iadd, 1) := by decide +kernel
theorem dL_cell_17 : decode cL_cell 17 = .ok (.imul, 1) := by decide +kernel
theorem dL_cell_18 : decode cL_cell 18 = .ok (.ireturn, 1) := by decide +kernel
theorem dL_law_0 : decode cL_law 0 = .ok (.iconst 0, 1) := by decide +kernel
theorem dL_law_1 : decode cL_law 1 = .ok (.istore_n 1, 1) := by decide +kernel
theorem dL_law_2 : decode cL_law 2 = .ok (.iload_n 1, 1) := by decide +kernel
theorem dL_law_3 : decode cL_law 3 = .ok (.iconst 3, 1) := by decide +kernel
theorem dL_law_4 : decode cL_law 4 = .ok (.if_icmp .ge 653, 3) := by decide +kernel
theorem dL_law_7 : decode cL_law 7 = .ok (.new 9, 3) := by decide +kernel
theorem dL_law_10 : decode cL_law 10 = .ok (.dup, 1) := by decide +kernel
theorem dL_law_11 : decode cL_law 11 = .ok (.aload_n 0, 1) := by decide +kernel
theorem dL_law_12 : decode cL_law 12 = .ok (.bipush 31, 2) := by decide +kernel
theorem dL_law_14 : decode cL_law 14 = .ok (.iload_n 1, 1) := by decide +kernel
theorem dL_law_15 : decode cL_law 15 = .ok (.imul, 1) := by decide +kernel
theorem dL_law_16 : decode cL_law 16 = .ok (.bipush 7, 2) := by decide +kernel
theorem dL_law_18 : decode cL_law 18 = .ok (.iadd, 1) := by decide +kernel
theorem dL_law_19 : decode cL_law 19 = .ok (.invokespecial 11, 3) := by decide +kernel
theorem dL_law_22 : decode cL_law 22 = .ok (.astore_n 2, 1) := by decide +kernel
theorem dL_law_23 : decode cL_law 23 = .ok (.new 9, 3) := by decide +kernel
theorem dL_law_26 : decode cL_law 26 = .ok (.dup, 1) := by decide +kernel
theorem dL_law_27 : decode cL_law 27 = .ok (.aload_n 0, 1) := by decide +kernel
theorem dL_law_28 : decode cL_law 28 = .ok (.bipush 31, 2) := by decide +kernel
theorem dL_law_30 : decode cL_law 30 = .ok (.iload_n 1, 1) := by decide +kernel
theorem dL_law_31 : decode cL_law 31 = .ok (.imul, 1) := by decide +kernel
theorem dL_law_32 : decode cL_law 32 = .ok (.bipush 7, 2) := by decide +kernel
theorem dL_law_34 : decode cL_law 34 = .ok (.iadd, 1) := by decide +kernel
theorem dL_law_35 : decode cL_law 35 = .ok (.invokespecial 11, 3) := by decide +kernel
theorem dL_law_38 : decode cL_law 38 = .ok (.astore_n 3, 1) := by decide +kernel
theorem dL_law_39 : decode cL_law 39 = .ok (.aload_n 2, 1) := by decide +kernel
theorem dL_law_40 : decode cL_law 40 = .ok (.getfield 14, 3) := by decide +kernel
theorem dL_law_43 : decode cL_law 43 = .ok (.astore 4, 2) := by decide +kernel
theorem dL_law_45 : decode cL_law 45 = .ok (.aload_n 2, 1) := by decide +kernel
theorem dL_law_46 : decode cL_law 46 = .ok (.iconst 4, 1) := by decide +kernel
theorem dL_law_47 : decode cL_law 47 = .ok (.invokevirtual 18, 3) := by decide +kernel
theorem dL_law_50 : decode cL_law 50 = .ok (.ifCond .eq 11, 3) := by decide +kernel
theorem dL_law_53 : decode cL_law 53 = .ok (.aload_n 3, 1) := by decide +kernel
theorem dL_law_54 : decode cL_law 54 = .ok (.iconst 4, 1) := by decide +kernel
theorem dL_law_55 : decode cL_law 55 = .ok (.invokevirtual 18, 3) := by decide +kernel
theorem dL_law_58 : decode cL_law 58 = .ok (.ifCond .ne 5, 3) := by decide +kernel
theorem dL_law_61 : decode cL_law 61 = .ok (.iconst 0, 1) := by decide +kernel
theorem dL_law_62 : decode cL_law 62 = .ok (.ireturn, 1) := by decide +kernel
theorem dL_law_63 : decode cL_law 63 = .ok (.iconst 0, 1) := by decide +kernel
theorem dL_law_64 : decode cL_law 64 = .ok (.istore 5, 2) := by decide +kernel
theorem dL_law_66 : decode cL_law 66 = .ok (.iload 5, 2) := by decide +kernel
theorem dL_law_68 : decode cL_law 68 = .ok (.bipush 7, 2) := by decide +kernel
theorem dL_law_70 : decode cL_law 70 = .ok (.if_icmp .ge 581, 3) := by decide +kernel
theorem dL_law_73 : decode cL_law 73 = .ok (.aload_n 2, 1) := by decide +kernel
theorem dL_law_74 : decode cL_law 74 = .ok (.iconst 4, 1) := by decide +kernel
theorem dL_law_75 : decode cL_law 75 = .ok (.invokevirtual 22, 3) := by decide +kernel
theorem dL_law_78 : decode cL_law 78 = .ok (.istore 6, 2) := by decide +kernel
theorem dL_law_80 : decode cL_law 80 = .ok (.bipush 10, 2) := by decide +kernel
theorem dL_law_82 : decode cL_law 82 = .ok (.aload_n 2, 1) := by decide +kernel
theorem dL_law_83 : decode cL_law 83 = .ok (.bipush 30, 2) := by decide +kernel
theorem dL_law_85 : decode cL_law 85 = .ok (.invokevirtual 22, 3) := by decide +kernel
theorem dL_law_88 : decode cL_law 88 = .ok (.iadd, 1) := by decide +kernel
theorem dL_law_89 : decode cL_law 89 = .ok (.istore 7, 2) := by decide +kernel
theorem dL_law_91 : decode cL_law 91 = .ok (.aload_n 2, 1) := by decide +kernel
theorem dL_law_92 : decode cL_law 92 = .ok (.bipush 70, 2) := by decide +kernel
theorem dL_law_94 : decode cL_law 94 = .ok (.invokevirtual 22, 3) := by decide +kernel
theorem dL_law_97 : decode cL_law 97 = .ok (.istore 8, 2) := by decide +kernel
theorem dL_law_99 : decode cL_law 99 = .ok (.iconst 1, 1) := by decide +kernel
theorem dL_law_100 : decode cL_law 100 = .ok (.aload_n 2, 1) := by decide +kernel
theorem dL_law_101 : decode cL_law 101 = .ok (.bipush 12, 2) := by decide +kernel
theorem dL_law_103 : decode cL_law 103 = .ok (.invokevirtual 22, 3) := by decide +kernel
theorem dL_law_106 : decode cL_law 106 = .ok (.iadd, 1) := by decide +kernel
theorem dL_law_107 : decode cL_law 107 = .ok (.istore 9, 2) := by decide +kernel
theorem dL_law_109 : decode cL_law 109 = .ok (.aload 4, 2) := by decide +kernel
theorem dL_law_111 : decode cL_law 111 = .ok (.invokevirtual 26, 3) := by decide +kernel
theorem dL_law_114 : decode cL_law 114 = .ok (.lstore 10, 2) := by decide +kernel
theorem dL_law_116 : decode cL_law 116 = .ok (.aload 4, 2) := by decide +kernel
theorem dL_law_118 : decode cL_law 118 = .ok (.iload 6, 2) := by decide +kernel
theorem dL_law_120 : decode cL_law 120 = .ok (.iload 7, 2) := by decide +kernel
theorem dL_law_122 : decode cL_law 122 = .ok (.iload 8, 2) := by decide +kernel
theorem dL_law_124 : decode cL_law 124 = .ok (.invokevirtual 32, 3) := by decide +kernel
theorem dL_law_127 : decode cL_law 127 = .ok (.istore 12, 2) := by decide +kernel
theorem dL_law_129 : decode cL_law 129 = .ok (.aload 4, 2) := by decide +kernel
theorem dL_law_131 : decode cL_law 131 = .ok (.iload 6, 2) := by decide +kernel
theorem dL_law_133 : decode cL_law 133 = .ok (.iload 9, 2) := by decide +kernel
theorem dL_law_135 : decode cL_law 135 = .ok (.iload 7, 2) := by decide +kernel
theorem dL_law_137 : decode cL_law 137 = .ok (.iload 8, 2) := by decide +kernel
theorem dL_law_139 : decode cL_law 139 = .ok (.iconst 0, 1) := by decide +kernel
theorem dL_law_140 : decode cL_law 140 = .ok (.invokevirtual 36, 3) := by decide +kernel
theorem dL_law_143 : decode cL_law 143 = .ok (.istore 13, 2) := by decide +kernel
theorem dL_law_145 : decode cL_law 145 = .ok (.aload 4, 2) := by decide +kernel
theorem dL_law_147 : decode cL_law 147 = .ok (.iconst 0, 1) := by decide +kernel
theorem dL_law_148 : decode cL_law 148 = .ok (.iload 9, 2) := by decide +kernel
theorem dL_law_150 : decode cL_law 150 = .ok (.iload 7, 2) := by decide +kernel
theorem dL_law_152 : decode cL_law 152 = .ok (.iload 8, 2) := by decide +kernel
theorem dL_law_154 : decode cL_law 154 = .ok (.invokevirtual 40, 3) := by decide +kernel
theorem dL_law_157 : decode cL_law 157 = .ok (.istore 14, 2) := by decide +kernel
theorem dL_law_159 : decode cL_law 159 = .ok (.aload 4, 2) := by decide +kernel
theorem dL_law_161 : decode cL_law 161 = .ok (.invokevirtual 26, 3) := by decide +kernel
theorem dL_law_164 : decode cL_law 164 = .ok (.lload 10, 2) := by decide +kernel
theorem dL_law_166 : decode cL_law 166 = .ok (.lcmp, 1) := by decide +kernel
theorem dL_law_167 : decode cL_law 167 = .ok (.ifCond .ne 16, 3) := by decide +kernel
theorem dL_law_170 : decode cL_law 170 = .ok (.aload_n 3, 1) := by decide +kernel
theorem dL_law_171 : decode cL_law 171 = .ok (.getfield 14, 3) := by decide +kernel
theorem dL_law_174 : decode cL_law 174 = .ok (.invokevirtual 26, 3) := by decide +kernel
theorem dL_law_177 : decode cL_law 177 = .ok (.lload 10, 2) := by decide +kernel
theorem dL_law_179 : decode cL_law 179 = .ok (.lcmp, 1) := by decide +kernel
theorem dL_law_180 : decode cL_law 180 = .ok (.ifCond .eq 5, 3) := by decide +kernel
theorem dL_law_183 : decode cL_law 183 = .ok (.iconst 0, 1) := by decide +kernel
theorem dL_law_184 : decode cL_law 184 = .ok (.ireturn, 1) := by decide +kernel
theorem dL_law_185 : decode cL_law 185 = .ok (.aload 4, 2) := by decide +kernel
theorem dL_law_187 : decode cL_law 187 = .ok (.iload 6, 2) := by decide +kernel
theorem dL_law_189 : decode cL_law 189 = .ok (.bipush 11, 2) := by decide +kernel
theorem dL_law_191 : decode cL_law 191 = .ok (.invokevirtual 44, 3) := by decide +kernel
theorem dL_law_194 : decode cL_law 194 = .ok (.ifCond .ne 7, 3) := by decide +kernel
theorem dL_law_197 : decode cL_law 197 = .ok (.iconst 1, 1) := by decide +kernel
theorem dL_law_198 : decode cL_law 198 = .ok (.goto 4, 3) := by decide +kernel
theorem dL_law_201 : decode cL_law 201 = .ok (.iconst 0, 1) := by decide +kernel
theorem dL_law_202 : decode cL_law 202 = .ok (.istore 15, 2) := by decide +kernel
theorem dL_law_204 : decode cL_law 204 = .ok (.aload 4, 2) := by decide +kernel
theorem dL_law_206 : decode cL_law 206 = .ok (.iload 6, 2) := by decide +kernel
theorem dL_law_208 : decode cL_law 208 = .ok (.bipush 6, 2) := by decide +kernel
theorem dL_law_210 : decode cL_law 210 = .ok (.invokevirtual 44, 3) := by decide +kernel
theorem dL_law_213 : decode cL_law 213 = .ok (.istore 16, 2) := by decide +kernel
theorem dL_law_215 : decode cL_law 215 = .ok (.aload 4, 2) := by decide +kernel
theorem dL_law_217 : decode cL_law 217 = .ok (.iload 6, 2) := by decide +kernel
theorem dL_law_219 : decode cL_law 219 = .ok (.iconst 2, 1) := by decide +kernel
theorem dL_law_220 : decode cL_law 220 = .ok (.invokevirtual 44, 3) := by decide +kernel
theorem dL_law_223 : decode cL_law 223 = .ok (.aload 4, 2) := by decide +kernel
theorem dL_law_225 : decode cL_law 225 = .ok (.iload 6, 2) := by decide +kernel
theorem dL_law_227 : decode cL_law 227 = .ok (.iconst 3, 1) := by decide +kernel
theorem dL_law_228 : decode cL_law 228 = .ok (.invokevirtual 44, 3) := by decide +kernel
theorem dL_law_231 : decode cL_law 231 = .ok (.isub, 1) := by decide +kernel
theorem dL_law_232 : decode cL_law 232 = .ok (.istore 17, 2) := by decide +kernel
theorem dL_law_234 : decode cL_law 234 = .ok (.iload 14, 2) := by decide +kernel
theorem dL_law_236 : decode cL_law 236 = .ok (.ifCond .lt 49, 3) := by decide +kernel
theorem dL_law_239 : decode cL_law 239 = .ok (.iload 5, 2) := by decide +kernel
theorem dL_law_241 : decode cL_law 241 = .ok (.iconst 2, 1) := by decide +kernel
theorem dL_law_242 : decode cL_law 242 = .ok (.irem, 1) := by decide +kernel
theorem dL_law_243 : decode cL_law 243 = .ok (.ifCond .ne 42, 3) := by decide +kernel
theorem dL_law_246 : decode cL_law 246 = .ok (.aload 4, 2) := by decide +kernel
theorem dL_law_248 : decode cL_law 248 = .ok (.iconst 0, 1) := by decide +kernel
theorem dL_law_249 : decode cL_law 249 = .ok (.iload 14, 2) := by decide +kernel
theorem dL_law_251 : decode cL_law 251 = .ok (.invokevirtual 48, 3) := by decide +kernel
theorem dL_law_254 : decode cL_law 254 = .ok (.pop, 1) := by decide +kernel
theorem dL_law_255 : decode cL_law 255 = .ok (.aload_n 3, 1) := by decide +kernel
theorem dL_law_256 : decode cL_law 256 = .ok (.getfield 14, 3) := by decide +kernel
theorem dL_law_259 : decode cL_law 259 = .ok (.iconst 0, 1) := by decide +kernel
theorem dL_law_260 : decode cL_law 260 = .ok (.iload 14, 2) := by decide +kernel
theorem dL_law_262 : decode cL_law 262 = .ok (.invokevirtual 48, 3) := by decide +kernel
theorem dL_law_265 : decode cL_law 265 = .ok (.pop, 1) := by decide +kernel
theorem dL_law_266 : decode cL_law 266 = .ok (.aload 4, 2) := by decide +kernel
theorem dL_law_268 : decode cL_law 268 = .ok (.iconst 0, 1) := by decide +kernel
theorem dL_law_269 : decode cL_law 269 = .ok (.iload 9, 2) := by decide +kernel
theorem dL_law_271 : decode cL_law 271 = .ok (.iload 7, 2) := by decide +kernel
theorem dL_law_273 : decode cL_law 273 = .ok (.iload 8, 2) := by decide +kernel
theorem dL_law_275 : decode cL_law 275 = .ok (.invokevirtual 40, 3) := by decide +kernel
theorem dL_law_278 : decode cL_law 278 = .ok (.iload 14, 2) := by decide +kernel
theorem dL_law_280 : decode cL_law 280 = .ok (.if_icmp .eq 5, 3) := by decide +kernel
theorem dL_law_283 : decode cL_law 283 = .ok (.iconst 0, 1) := by decide +kernel
theorem dL_law_284 : decode cL_law 284 = .ok (.ireturn, 1) := by decide +kernel
theorem dL_law_285 : decode cL_law 285 = .ok (.aload 4, 2) := by decide +kernel
theorem dL_law_287 : decode cL_law 287 = .ok (.iconst 0, 1) := by decide +kernel
theorem dL_law_288 : decode cL_law 288 = .ok (.bipush 6, 2) := by decide +kernel
theorem dL_law_290 : decode cL_law 290 = .ok (.invokevirtual 51, 3) := by decide +kernel
theorem dL_law_293 : decode cL_law 293 = .ok (.istore 18, 2) := by decide +kernel
theorem dL_law_295 : decode cL_law 295 = .ok (.iconst 0, 1) := by decide +kernel
theorem dL_law_296 : decode cL_law 296 = .ok (.istore 19, 2) := by decide +kernel
theorem dL_law_298 : decode cL_law 298 = .ok (.iload 19, 2) := by decide +kernel
theorem dL_law_300 : decode cL_law 300 = .ok (.iload 9, 2) := by decide +kernel
theorem dL_law_302 : decode cL_law 302 = .ok (.if_icmp .ge 99, 3) := by decide +kernel
theorem dL_law_305 : decode cL_law 305 = .ok (.aload 4, 2) := by decide +kernel
theorem dL_law_307 : decode cL_law 307 = .ok (.iload 6, 2) := by decide +kernel
theorem dL_law_309 : decode cL_law 309 = .ok (.iconst 4, 1) := by decide +kernel
theorem dL_law_310 : decode cL_law 310 = .ok (.invokevirtual 44, 3) := by decide +kernel
theorem dL_law_313 : decode cL_law 313 = .ok (.bipush 79, 2) := by decide +kernel
theorem dL_law_315 : decode cL_law 315 = .ok (.if_icmp .le 34, 3) := by decide +kernel
theorem dL_law_318 : decode cL_law 318 = .ok (.aload 4, 2) := by decide +kernel
theorem dL_law_320 : decode cL_law 320 = .ok (.iload 6, 2) := by decide +kernel
theorem dL_law_322 : decode cL_law 322 = .ok (.iconst 5, 1) := by decide +kernel
theorem dL_law_323 : decode cL_law 323 = .ok (.invokevirtual 44, 3) := by decide +kernel
theorem dL_law_326 : decode cL_law 326 = .ok (.bipush 20, 2) := by decide +kernel
theorem dL_law_328 : decode cL_law 328 = .ok (.if_icmp .ge 21, 3) := by decide +kernel
theorem dL_law_331 : decode cL_law 331 = .ok (.aload 4, 2) := by decide +kernel
theorem dL_law_333 : decode cL_law 333 = .ok (.iconst 0, 1) := by decide +kernel
theorem dL_law_334 : decode cL_law 334 = .ok (.invokevirtual 54, 3) := by decide +kernel
theorem dL_law_337 : decode cL_law 337 = .ok (.bipush 24, 2) := by decide +kernel
theorem dL_law_339 : decode cL_law 339 = .ok (.irem, 1) := by decide +kernel
theorem dL_law_340 : decode cL_law 340 = .ok (.bipush 7, 2) := by decide +kernel
theorem dL_law_342 : decode cL_law 342 = .ok (.if_icmp .le 7, 3) := by decide +kernel
theorem dL_law_345 : decode cL_law 345 = .ok (.iconst 1, 1) := by decide +kernel
theorem dL_law_346 : decode cL_law 346 = .ok (.goto 4, 3) := by decide +kernel
theorem dL_law_349 : decode cL_law 349 = .ok (.iconst 0, 1) := by decide +kernel
theorem dL_law_350 : decode cL_law 350 = .ok (.istore 20, 2) := by decide +kernel
theorem dL_law_352 : decode cL_law 352 = .ok (.iload 20, 2) := by decide +kernel
theorem dL_law_354 : decode cL_law 354 = .ok (.iload 12, 2) := by decide +kernel
theorem dL_law_356 : decode cL_law 356 = .ok (.iload 19, 2) := by decide +kernel
theorem dL_law_358 : decode cL_law 358 = .ok (.if_icmp .ne 7, 3) := by decide +kernel
theorem dL_law_361 : decode cL_law 361 = .ok (.iconst 1, 1) := by decide +kernel
theorem dL_law_362 : decode cL_law 362 = .ok (.goto 4, 3) := by decide +kernel
theorem dL_law_365 : decode cL_law 365 = .ok (.iconst 0, 1) := by decide +kernel
theorem dL_law_366 : decode cL_law 366 = .ok (.if_icmp .eq 17, 3) := by decide +kernel
theorem dL_law_369 : decode cL_law 369 = .ok (.iload 12, 2) := by decide +kernel
theorem dL_law_371 : decode cL_law 371 = .ok (.ifCond .lt 10, 3) := by decide +kernel
theorem dL_law_374 : decode cL_law 374 = .ok (.iload 19, 2) := by decide +kernel
theorem dL_law_376 : decode cL_law 376 = .ok (.iload 12, 2) := by decide +kernel
theorem dL_law_378 : decode cL_law 378 = .ok (.if_icmp .gt 5, 3) := by decide +kernel
theorem dL_law_381 : decode cL_law 381 = .ok (.iconst 0, 1) := by decide +kernel
theorem dL_law_382 : decode cL_law 382 = .ok (.ireturn, 1) := by decide +kernel
theorem dL_law_383 : decode cL_law 383 = .ok (.aload 4, 2) := by decide +kernel
theorem dL_law_385 : decode cL_law 385 = .ok (.iconst 1, 1) := by decide +kernel
theorem dL_law_386 : decode cL_law 386 = .ok (.iload 7, 2) := by decide +kernel
theorem dL_law_388 : decode cL_law 388 = .ok (.iload 8, 2) := by decide +kernel
theorem dL_law_390 : decode cL_law 390 = .ok (.iconst 0, 1) := by decide +kernel
theorem dL_law_391 : decode cL_law 391 = .ok (.invokevirtual 57, 3) := by decide +kernel
theorem dL_law_394 : decode cL_law 394 = .ok (.pop, 1) := by decide +kernel
theorem dL_law_395 : decode cL_law 395 = .ok (.iinc 19 1, 3) := by decide +kernel
theorem dL_law_398 : decode cL_law 398 = .ok (.goto (-100), 3) := by decide +kernel
theorem dL_law_401 : decode cL_law 401 = .ok (.aload_n 3, 1) := by decide +kernel
theorem dL_law_402 : decode cL_law 402 = .ok (.getfield 14, 3) := by decide +kernel
theorem dL_law_405 : decode cL_law 405 = .ok (.iload 9, 2) := by decide +kernel
theorem dL_law_407 : decode cL_law 407 = .ok (.iload 7, 2) := by decide +kernel
theorem dL_law_409 : decode cL_law 409 = .ok (.iload 8, 2) := by decide +kernel
theorem dL_law_411 : decode cL_law 411 = .ok (.iconst 0, 1) := by decide +kernel
theorem dL_law_412 : decode cL_law 412 = .ok (.invokevirtual 57, 3) := by decide +kernel
theorem dL_law_415 : decode cL_law 415 = .ok (.pop, 1) := by decide +kernel
theorem dL_law_416 : decode cL_law 416 = .ok (.aload 4, 2) := by decide +kernel
theorem dL_law_418 : decode cL_law 418 = .ok (.invokevirtual 26, 3) := by decide +kernel
theorem dL_law_421 : decode cL_law 421 = .ok (.aload_n 3, 1) := by decide +kernel
theorem dL_law_422 : decode cL_law 422 = .ok (.getfield 14, 3) := by decide +kernel
theorem dL_law_425 : decode cL_law 425 = .ok (.invokevirtual 26, 3) := by decide +kernel
theorem dL_law_428 : decode cL_law 428 = .ok (.lcmp, 1) := by decide +kernel
theorem dL_law_429 : decode cL_law 429 = .ok (.ifCond .eq 5, 3) := by decide +kernel
theorem dL_law_432 : decode cL_law 432 = .ok (.iconst 0, 1) := by decide +kernel
theorem dL_law_433 : decode cL_law 433 = .ok (.ireturn, 1) := by decide +kernel
theorem dL_law_434 : decode cL_law 434 = .ok (.iload 14, 2) := by decide +kernel
theorem dL_law_436 : decode cL_law 436 = .ok (.ifCond .lt 25, 3) := by decide +kernel
theorem dL_law_439 : decode cL_law 439 = .ok (.iload 5, 2) := by decide +kernel
theorem dL_law_441 : decode cL_law 441 = .ok (.iconst 2, 1) := by decide +kernel
theorem dL_law_442 : decode cL_law 442 = .ok (.irem, 1) := by decide +kernel
theorem dL_law_443 : decode cL_law 443 = .ok (.ifCond .ne 18, 3) := by decide +kernel
theorem dL_law_446 : decode cL_law 446 = .ok (.aload 4, 2) := by decide +kernel
theorem dL_law_448 : decode cL_law 448 = .ok (.iconst 0, 1) := by decide +kernel
theorem dL_law_449 : decode cL_law 449 = .ok (.bipush 6, 2) := by decide +kernel
theorem dL_law_451 : decode cL_law 451 = .ok (.invokevirtual 51, 3) := by decide +kernel
theorem dL_law_454 : decode cL_law 454 = .ok (.iload 18, 2) := by decide +kernel
theorem dL_law_456 : decode cL_law 456 = .ok (.if_icmp .ne 5, 3) := by decide +kernel
theorem dL_law_459 : decode cL_law 459 = .ok (.iconst 0, 1) := by decide +kernel
theorem dL_law_460 : decode cL_law 460 = .ok (.ireturn, 1) := by decide +kernel
theorem dL_law_461 : decode cL_law 461 = .ok (.aload_n 2, 1) := by decide +kernel
theorem dL_law_462 : decode cL_law 462 = .ok (.getfield 60, 3) := by decide +kernel
theorem dL_law_465 : decode cL_law 465 = .ok (.iload 6, 2) := by decide +kernel
theorem dL_law_467 : decode cL_law 467 = .ok (.aaload, 1) := by decide +kernel
theorem dL_law_468 : decode cL_law 468 = .ok (.bipush 9, 2) := by decide +kernel
theorem dL_law_470 : decode cL_law 470 = .ok (.iaload, 1) := by decide +kernel
theorem dL_law_471 : decode cL_law 471 = .ok (.bipush 100, 2) := by decide +kernel
theorem dL_law_473 : decode cL_law 473 = .ok (.iload 16, 2) := by decide +kernel
theorem dL_law_475 : decode cL_law 475 = .ok (.isub, 1) := by decide +kernel
theorem dL_law_476 : decode cL_law 476 = .ok (.imul, 1) := by decide +kernel
theorem dL_law_477 : decode cL_law 477 = .ok (.bipush 100, 2) := by decide +kernel
theorem dL_law_479 : decode cL_law 479 = .ok (.idiv, 1) := by decide +kernel
theorem dL_law_480 : decode cL_law 480 = .ok (.aload_n 2, 1) := by decide +kernel
theorem dL_law_481 : decode cL_law 481 = .ok (.getfield 60, 3) := by decide +kernel
theorem dL_law_484 : decode cL_law 484 = .ok (.iload 6, 2) := by decide +kernel
theorem dL_law_486 : decode cL_law 486 = .ok (.aaload, 1) := by decide +kernel
theorem dL_law_487 : decode cL_law 487 = .ok (.bipush 9, 2) := by decide +kernel
theorem dL_law_489 : decode cL_law 489 = .ok (.iaload, 1) := by decide +kernel
theorem dL_law_490 : decode cL_law 490 = .ok (.bipush 100, 2) := by decide +kernel
theorem dL_law_492 : decode cL_law 492 = .ok (.aload 4, 2) := by decide +kernel
theorem dL_law_494 : decode cL_law 494 = .ok (.iload 6, 2) := by decide +kernel
theorem dL_law_496 : decode cL_law 496 = .ok (.bipush 6, 2) := by decide +kernel
theorem dL_law_498 : decode cL_law 498 = .ok (.invokevirtual 44, 3) := by decide +kernel
theorem dL_law_501 : decode cL_law 501 = .ok (.isub, 1) := by decide +kernel
theorem dL_law_502 : decode cL_law 502 = .ok (.imul, 1) := by decide +kernel
theorem dL_law_503 : decode cL_law 503 = .ok (.bipush 100, 2) := by decide +kernel
theorem dL_law_505 : decode cL_law 505 = .ok (.idiv, 1) := by decide +kernel
theorem dL_law_506 : decode cL_law 506 = .ok (.isub, 1) := by decide +kernel
theorem dL_law_507 : decode cL_law 507 = .ok (.istore 19, 2) := by decide +kernel
theorem dL_law_509 : decode cL_law 509 = .ok (.iload 13, 2) := by decide +kernel
theorem dL_law_511 : decode cL_law 511 = .ok (.iload 17, 2) := by decide +kernel
theorem dL_law_513 : decode cL_law 513 = .ok (.iload 19, 2) := by decide +kernel
theorem dL_law_515 : decode cL_law 515 = .ok (.imul, 1) := by decide +kernel
theorem dL_law_516 : decode cL_law 516 = .ok (.if_icmp .ne 38, 3) := by decide +kernel
theorem dL_law_519 : decode cL_law 519 = .ok (.iload 15, 2) := by decide +kernel
theorem dL_law_521 : decode cL_law 521 = .ok (.ifCond .eq 35, 3) := by decide +kernel
theorem dL_law_524 : decode cL_law 524 = .ok (.iload 5, 2) := by decide +kernel
theorem dL_law_526 : decode cL_law 526 = .ok (.iconst 2, 1) := by decide +kernel
theorem dL_law_527 : decode cL_law 527 = .ok (.irem, 1) := by decide +kernel
theorem dL_law_528 : decode cL_law 528 = .ok (.iconst 1, 1) := by decide +kernel
theorem dL_law_529 : decode cL_law 529 = .ok (.if_icmp .ne 27, 3) := by decide +kernel
theorem dL_law_532 : decode cL_law 532 = .ok (.aload 4, 2) := by decide +kernel
theorem dL_law_534 : decode cL_law 534 = .ok (.iload 6, 2) := by decide +kernel
theorem dL_law_536 : decode cL_law 536 = .ok (.iconst 2, 1) := by decide +kernel
theorem dL_law_537 : decode cL_law 537 = .ok (.invokevirtual 44, 3) := by decide +kernel
theorem dL_law_540 : decode cL_law 540 = .ok (.aload 4, 2) := by decide +kernel
theorem dL_law_542 : decode cL_law 542 = .ok (.iload 6, 2) := by decide +kernel
theorem dL_law_544 : decode cL_law 544 = .ok (.iconst 3, 1) := by decide +kernel
theorem dL_law_545 : decode cL_law 545 = .ok (.invokevirtual 44, 3) := by decide +kernel
theorem dL_law_548 : decode cL_law 548 = .ok (.isub, 1) := by decide +kernel
theorem dL_law_549 : decode cL_law 549 = .ok (.iload 17, 2) := by decide +kernel
theorem dL_law_551 : decode cL_law 551 = .ok (.if_icmp .eq 5, 3) := by decide +kernel
theorem dL_law_554 : decode cL_law 554 = .ok (.iconst 0, 1) := by decide +kernel
theorem dL_law_555 : decode cL_law 555 = .ok (.ireturn, 1) := by decide +kernel
theorem dL_law_556 : decode cL_law 556 = .ok (.aload_n 2, 1) := by decide +kernel
theorem dL_law_557 : decode cL_law 557 = .ok (.iconst 2, 1) := by decide +kernel
theorem dL_law_558 : decode cL_law 558 = .ok (.invokevirtual 22, 3) := by decide +kernel
theorem dL_law_561 : decode cL_law 561 = .ok (.istore 20, 2) := by decide +kernel
theorem dL_law_563 : decode cL_law 563 = .ok (.aload_n 2, 1) := by decide +kernel
theorem dL_law_564 : decode cL_law 564 = .ok (.iconst 3, 1) := by decide +kernel
theorem dL_law_565 : decode cL_law 565 = .ok (.invokevirtual 22, 3) := by decide +kernel
theorem dL_law_568 : decode cL_law 568 = .ok (.istore 21, 2) := by decide +kernel
theorem dL_law_570 : decode cL_law 570 = .ok (.iconst 0, 1) := by decide +kernel
theorem dL_law_571 : decode cL_law 571 = .ok (.istore 22, 2) := by decide +kernel
theorem dL_law_573 : decode cL_law 573 = .ok (.iload 22, 2) := by decide +kernel
theorem dL_law_575 : decode cL_law 575 = .ok (.iconst 2, 1) := by decide +kernel
theorem dL_law_576 : decode cL_law 576 = .ok (.if_icmp .ge 69, 3) := by decide +kernel
theorem dL_law_579 : decode cL_law 579 = .ok (.iload 22, 2) := by decide +kernel
theorem dL_law_581 : decode cL_law 581 = .ok (.ifCond .ne 8, 3) := by decide +kernel
theorem dL_law_584 : decode cL_law 584 = .ok (.aload 4, 2) := by decide +kernel
theorem dL_law_586 : decode cL_law 586 = .ok (.goto 7, 3) := by decide +kernel
theorem dL_law_589 : decode cL_law 589 = .ok (.aload_n 3, 1) := by decide +kernel
theorem dL_law_590 : decode cL_law 590 = .ok (.getfield 14, 3) := by decide +kernel
theorem dL_law_593 : decode cL_law 593 = .ok (.astore 23, 2) := by decide +kernel
theorem dL_law_595 : decode cL_law 595 = .ok (.iload 21, 2) := by decide +kernel
theorem dL_law_597 : decode cL_law 597 = .ok (.ifCond .ne 15, 3) := by decide +kernel
theorem dL_law_600 : decode cL_law 600 = .ok (.aload 23, 2) := by decide +kernel
theorem dL_law_602 : decode cL_law 602 = .ok (.iload 20, 2) := by decide +kernel
theorem dL_law_604 : decode cL_law 604 = .ok (.iconst 0, 1) := by decide +kernel
theorem dL_law_605 : decode cL_law 605 = .ok (.invokevirtual 64, 3) := by decide +kernel
theorem dL_law_608 : decode cL_law 608 = .ok (.pop, 1) := by decide +kernel
theorem dL_law_609 : decode cL_law 609 = .ok (.goto 30, 3) := by decide +kernel
theorem dL_law_612 : decode cL_law 612 = .ok (.iload 21, 2) := by decide +kernel
theorem dL_law_614 : decode cL_law 614 = .ok (.iconst 1, 1) := by decide +kernel
theorem dL_law_615 : decode cL_law 615 = .ok (.if_icmp .ne 15, 3) := by decide +kernel
theorem dL_law_618 : decode cL_law 618 = .ok (.aload 23, 2) := by decide +kernel
theorem dL_law_620 : decode cL_law 620 = .ok (.iload 20, 2) := by decide +kernel
theorem dL_law_622 : decode cL_law 622 = .ok (.iconst 1, 1) := by decide +kernel
theorem dL_law_623 : decode cL_law 623 = .ok (.invokevirtual 67, 3) := by decide +kernel
theorem dL_law_626 : decode cL_law 626 = .ok (.pop, 1) := by decide +kernel
theorem dL_law_627 : decode cL_law 627 = .ok (.goto 12, 3) := by decide +kernel
theorem dL_law_630 : decode cL_law 630 = .ok (.aload 23, 2) := by decide +kernel
theorem dL_law_632 : decode cL_law 632 = .ok (.iconst 1, 1) := by decide +kernel
theorem dL_law_633 : decode cL_law 633 = .ok (.iload 20, 2) := by decide +kernel
theorem dL_law_635 : decode cL_law 635 = .ok (.invokevirtual 48, 3) := by decide +kernel
theorem dL_law_638 : decode cL_law 638 = .ok (.pop, 1) := by decide +kernel
theorem dL_law_639 : decode cL_law 639 = .ok (.iinc 22 1, 3) := by decide +kernel
theorem dL_law_642 : decode cL_law 642 = .ok (.goto (-69), 3) := by decide +kernel
theorem dL_law_645 : decode cL_law 645 = .ok (.iinc 5 1, 3) := by decide +kernel
theorem dL_law_648 : decode cL_law 648 = .ok (.goto (-582), 3) := by decide +kernel
theorem dL_law_651 : decode cL_law 651 = .ok (.iinc 1 1, 3) := by decide +kernel
theorem dL_law_654 : decode cL_law 654 = .ok (.goto (-652), 3) := by decide +kernel
theorem dL_law_657 : decode cL_law 657 = .ok (.iconst 1, 1) := by decide +kernel
theorem dL_law_658 : decode cL_law 658 = .ok (.ireturn, 1) := by decide +kernel
end
section
/-! MY OWN LAYER: a world is a map from addresses to a region's number and a cell; one contract shape for all methods -/
abbrev HM : Type := Nat → Option (Nat × va_E)
abbrev GG : Type := va_G × (Nat → ClassId) × (Nat → Nat)
def hu (M : HM) (a r : Nat) (e : va_E) : HM := fun q => if q = a then some (r, e) else M q
theorem hu_s {M : HM} {a r : Nat} {e : va_E} : hu M a r e a = some (r, e) := if_pos rfl
theorem hu_n {M : HM} {a b r : Nat} {e : va_E} {o : Option (Nat × va_E)} (h : b ≠ a) (ho : M b = o) : hu M a r e b = o := (if_neg h).trans ho
theorem hu_u (M : HM) (a r r2 : Nat) (e e2 : va_E) : hu (hu M a r e) a r2 e2 = hu M a r2 e2 := by
  funext q
  by_cases h : q = a <;> simp [hu, h]
theorem hu_c (M : HM) {a b : Nat} (r r2 : Nat) (e e2 : va_E) (h : a ≠ b) : hu (hu M a r e) b r2 e2 = hu (hu M b r2 e2) a r e := by
  funext q
  by_cases h1 : q = a
  · subst h1; simp [hu, h]
  · by_cases h2 : q = b <;> simp [hu, h1, h2, Ne.symm h]
theorem hu_i {M : HM} {a r : Nat} {e : va_E} (h : M a = some (r, e)) : hu M a r e = M := by
  funext q
  by_cases h1 : q = a
  · subst h1; simp [hu, h]
  · simp [hu, h1]
/-- an address is not another, by what the map says of them -/
theorem hu_ne {M : HM} {a b : Nat} {x y : Option (Nat × va_E)} (ha : M a = x) (hb : M b = y) (h : x ≠ y) : a ≠ b := fun e => h (by rw [← ha, ← hb, e])
def hm (G : GG) (M : HM) (H : Heap) : Prop := ∃ ws : va_W, va_P G.1 vwCl ws H ∧ va_D (fun q => G.2.2 0 ≤ q) ws ∧ ∀ (a r : Nat) (e : va_E), M a = some (r, e) → ∃ k : Nat, ws[k]? = some (a, e)
def Wd (G : GG) (M : HM) (s : State) (H : Heap) (locs : List Loc) : Prop := hm G M H ∧ va_S (fun q => G.2.2 0 ≤ q) s.heap H locs ∧ G.2.2 0 ≤ s.heap.size
theorem hm.set {G : GG} {M : HM} {ws : va_W} {a r k : Nat} {e0 e : va_E} {H1 : Heap} (hw : ∀ (a r : Nat) (e : va_E), M a = some (r, e) → ∃ k : Nat, ws[k]? = some (a, e)) (hk : ws[k]? = some (a, e0)) (hP : va_P G.1 vwCl (ws.set k (a, e)) H1) (hD : va_D (fun q => G.2.2 0 ≤ q) (ws.set k (a, e))) : hm G (hu M a r e) H1 := by
  have hl := (List.getElem?_eq_some_iff.mp hk).1
  refine ⟨_, hP, hD, fun b r2 e2 hb => ?_⟩
  by_cases h : b = a
  · subst h
    rw [hu_s] at hb
    cases hb
    exact ⟨k, List.getElem?_set_self hl⟩
  · rw [show hu M a r e b = M b from if_neg h] at hb
    obtain ⟨j, hj⟩ := hw b r2 e2 hb
    have hne : k ≠ j := fun z => by
      subst z
      rw [hk] at hj
      cases hj
      exact h rfl
    exact ⟨j, by rw [List.getElem?_set_ne hne]; exact hj⟩
theorem hm.push {G : GG} {M : HM} {ws : va_W} {a r : Nat} {e : va_E} {H1 : Heap} (hw : ∀ (a r : Nat) (e : va_E), M a = some (r, e) → ∃ k : Nat, ws[k]? = some (a, e)) (hP : va_P G.1 vwCl (ws ++ [(a, e)]) H1) (hD : va_D (fun q => G.2.2 0 ≤ q) (ws ++ [(a, e)])) : M a = none ∧ hm G (hu M a r e) H1 := by
  have hlast : (ws ++ [(a, e)])[ws.length]? = some (a, e) := by simp
  refine ⟨?_, _, hP, hD, fun b r2 e2 hb => ?_⟩
  · cases hm0 : M a with
    | none => rfl
    | some q =>
      obtain ⟨j, hj⟩ := hw a q.1 q.2 hm0
      have hjl := (List.getElem?_eq_some_iff.mp hj).1
      have := hD.1 j ws.length (a, q.2) (a, e) (by rw [List.getElem?_append_left hjl]; exact hj) hlast rfl
      omega
  · by_cases h : b = a
    · subst h
      rw [hu_s] at hb
      cases hb
      exact ⟨ws.length, hlast⟩
    · rw [show hu M a r e b = M b from if_neg h] at hb
      obtain ⟨j, hj⟩ := hw b r2 e2 hb
      exact ⟨j, by rw [List.getElem?_append_left (List.getElem?_eq_some_iff.mp hj).1]; exact hj⟩
/-- less is known -/
theorem hm.less {G : GG} {M M2 : HM} {H : Heap} (h : hm G M H) (hs : ∀ a r e, M2 a = some (r, e) → M a = some (r, e)) : hm G M2 H := by
  obtain ⟨ws, h1, h2, h3⟩ := h
  exact ⟨ws, h1, h2, fun a r e q => h3 a r e (hs a r e q)⟩
theorem Wd.eq {G : GG} {M M2 : HM} {s : State} {H : Heap} {locs : List Loc} (h : Wd G M s H locs) (e : M = M2) : Wd G M2 s H locs := e ▸ h
theorem Wd.hA {G : GG} {M : HM} {s : State} {H : Heap} {locs : List Loc} (h : Wd G M s H locs) : ∀ q, s.heap.size ≤ q → G.2.2 0 ≤ q := fun _ hq => Nat.le_trans h.2.2 hq
/-! what holds of the tables and of the statics, at every state -/
def va_AOx (ty : FieldType) (U : State) : Prop := va_Nw (.arrayOver ty) U
abbrev tyG (G : GG) : List (ClassId × FieldType) := [(G.2.1 0, .int), (G.2.1 1, .array .int), (G.2.1 2, .object "java/lang/Object")]
abbrev mLsize : MethodName := ⟨"java/util/List", "size", "()I"⟩
abbrev mLget : MethodName := ⟨"java/util/List", "get", "(I)Ljava/lang/Object;"⟩
abbrev mLadd : MethodName := ⟨"java/util/List", "add", "(Ljava/lang/Object;)Z"⟩
def Kb (U : State) : Prop := va_Nw (.methodLinkNest RX0 52 yX6_towards RX6) U ∧ va_Nw (.methodLinkNest RX5 42 yX6_towards RX6) U ∧ va_Nw (.methodLinkNest RX7 50 yL_cell RL) U ∧ va_Nw (.methodLinkNest RX7 56 yL_below RL) U
def Kc (U : State) : Prop := va_Fw RJx4a65c mLsize yJx4a65c_size_8abf5 U ∧ va_Fw RJx4a65c mLget yJx4a65c_get_915e3 U ∧ va_Fw RJx4a65c mLadd yJx4a65c_add_9ea2d U
def kdL : List String := [RX0, RX1, RX2, RX4, RX5, "[I"]
def Kd (U : State) : Prop := va_AO "java/lang/Object" U ∧ (∀ C ∈ kdL, va_Nw (.castable C "java/lang/Object") U) ∧ va_AOx (.array .int) U
def Ke (G : GG) (U : State) (H : Heap) : Prop := va_Z RJx4a65c "DEFAULTCAPACITY_EMPTY_ELEMENTDATA" "[Ljava/lang/Object;" (.ref (G.2.2 1)) (fun q => G.2.2 0 ≤ q) U H ∧ (∃ fv, va_T (.object "java/lang/Object") (G.2.2 1) 0 fv (fun q => G.2.2 0 ≤ q) U H) ∧ va_Mi "[Ljava/lang/Object;" (G.2.2 2) U ∧ va_Dc U
def Kw (G : GG) (U : State) : Prop := va_K G.1 vwCl (tyG G) U ∧ Kb U ∧ Kc U ∧ Kd U ∧ Ke G U U.heap
theorem Kw.at {G : GG} {s U : State} (h : Kw G s) (hW : s.WarmedH U.vm) (hq : ∀ a : Nat, a < s.heap.size → ¬ G.2.2 0 ≤ a → U.heap[a]? = s.heap[a]?) : Kw G U := by
  obtain ⟨h1, ⟨b1, b2, b3, b4⟩, ⟨c1, c2, c3⟩, ⟨d1, d2, d3⟩, e1, ⟨fv, e2⟩, e3, e4⟩ := h
  have hvm := hW.alike
  exact ⟨va_K.moved hvm h1, ⟨va_Nw.warmM hW b1, va_Nw.warmM hW b2, va_Nw.warmM hW b3, va_Nw.warmM hW b4⟩, ⟨va_Fw.moved (by decide) hvm c1, va_Fw.moved (by decide) hvm c2, va_Fw.moved (by decide) hvm c3⟩, ⟨va_AO.moved hvm d1, fun C hC => va_Nw.warmC hW (d2 C hC), over_moved hvm d3⟩, va_Z.kept (va_Z.moved hvm e1) hq, ⟨fv, va_T.kept (va_T.moved hvm e2) hq⟩, va_Mi.moved hvm e3, va_Dc.moved hvm e4⟩
/-! contracts: from any world M; the answer and the world behind it by P -/
abbrev gP (G : GG) (M : HM) : State → Prop := fun U => Kw G U ∧ hm G M U.heap ∧ G.2.2 0 ≤ U.heap.size
abbrev gB (G : GG) (M : HM) (t : State) : Prop := hm G M t.heap
abbrev gA (G : GG) : Nat → Prop := fun q => G.2.2 0 ≤ q
abbrev Mi (l : Launch) (y : MethodName) (ws : List Cond) (fr lo mc ms : Nat) (av : List Value) (G : GG) (M : HM) (P : Int32 → HM → Prop) : Prop := Met l y ws ({ frames := fr, cells := mc, slots := ms, locals := lo } : Room) (va_Pc av (gP G M)) (va_Qi P (gB G) (gA G)) mc ms (gA G)
abbrev Ml (l : Launch) (y : MethodName) (ws : List Cond) (fr lo mc ms : Nat) (av : List Value) (G : GG) (M : HM) (P : Int64 → HM → Prop) : Prop := Met l y ws ({ frames := fr, cells := mc, slots := ms, locals := lo } : Room) (va_Pc av (gP G M)) (va_Ql P (gB G) (gA G)) mc ms (gA G)
abbrev Mv (l : Launch) (y : MethodName) (ws : List Cond) (fr lo mc ms : Nat) (av : List Value) (G : GG) (M : HM) (P : HM → Prop) : Prop := Met l y ws ({ frames := fr, cells := mc, slots := ms, locals := lo } : Room) (va_Pc av (gP G M)) (va_Qv P (gB G) (gA G)) mc ms (gA G)
abbrev Mq (l : Launch) (y : MethodName) (ws : List Cond) (fr lo mc ms : Nat) (av : List Value) (G : GG) (M : HM) (P : Option Nat → HM → Prop) : Prop := Met l y ws ({ frames := fr, cells := mc, slots := ms, locals := lo } : Room) (va_Pc av (gP G M)) (va_Qq P (gB G) (gA G)) mc ms (gA G)
theorem gP.blind {G : GG} {M : HM} {av : List Value} : FrameBlind (va_Pc av (gP G M)) := fun a U g mk h => ⟨h.1, h.2.1.at (State.WarmedH.refl U) (fun _ _ _ => rfl), h.2.2⟩
section GW
variable {p : Program} {l : Launch} {e : Env} {R : Room} {s : State} {m : MethodId} {args : Array Value} {below : List Frame} {meth : Method} {c : Code} {H : Heap} {locs : List Loc} {cells slots : Nat} {Q : State → Prop}
variable {cc : ByteArray} {pc : Nat} {ls : Array Slot} {rest : List Value} {a : Nat} {G : GG} {M : HM} {cl : List vw_C}
theorem Wd.kw {U : State} (hM : Wd G M s H locs) (hK : Kw G s) (hU : U.heap = H) (hW : s.WarmedH U.vm) : Kw G U := hK.at hW (fun q h1 h2 => by rw [hU]; exact hM.2.1.2.1 q h1 h2)
theorem Wd.pre {U : State} {av : List Value} (hM : Wd G M s H locs) (hK : Kw G s) (hU : U.heap = H) (hW : s.WarmedH U.vm) : va_Pc av (gP G M) av.toArray U := ⟨rfl, hM.kw hK hU hW, by rw [hU]; exact hM.1, by rw [hU]; exact Nat.le_trans hM.2.2 hM.2.1.1⟩
theorem Wd.lt {r : Nat} {en : va_E} (hM : Wd G M s H locs) (ha : M a = some (r, en)) : a < H.size := by
  obtain ⟨ws, hP, hD, hw⟩ := hM.1
  obtain ⟨k, hk⟩ := hw _ _ _ ha
  exact (hP k _ hk).lt
theorem Wd.recv {r ci : Nat} {fs : List Value} {q : vw_C} (hM : Wd G M s H locs) (hK : Kw G s) (hc : vwCl[ci]? = some q) (ha : M a = some (r, .inr (ci, fs))) : ∃ cell : Cell, H[a]? = some cell ∧ cell.vm.isStatics = false ∧ s.vm.findClass q.1 = some cell.cls := by
  obtain ⟨ws, hP, hD, hw⟩ := hM.1
  obtain ⟨k, hk⟩ := hw _ _ _ ha
  exact va_recv hK.1 hP hc hk
theorem g_get (hx : p.tables.exec = Jvm.exec) (hb : c.code = cc) {own ref C : String} {T : u_T} {N ci index : Nat} (hts : ∀ w ∈ AL, w.before args s = true) (hown : s.vm.findClass own = some m.cls) (hK : Kw G s) (hM : Wd G M s H locs) (hin : ∀ w ∈ u_ws C T N, w ∈ AL) (hc : vwCl[ci]? = some (C, T, N)) (k : Nat) (hk : k < N) (hlink : Cond.fieldLink own index ref (T k).2.1 (T k).2.2.1 ∈ AL) (hsame : ∀ x, s.fieldFound? (T k).1 (T k).2.1 (T k).2.2.1 = some x → s.fieldFound? ref (T k).2.1 (T k).2.2.1 = some x) {r : Nat} {fs : List Value} {v : Value} (ha : M a = some (r, .inr (ci, fs))) (hv : fs[k]? = some v) (hdg : decode cc pc = .ok (.getfield index, 3))
    (kk : W p l e R s m args below meth c H locs cells slots Q (F0 m (pc + 3) ls (v :: rest))) : W p l e R s m args below meth c H locs cells slots Q (F0 m pc ls (.ref a :: rest)) := by
  obtain ⟨ws, hP, hD, hw⟩ := hM.1
  obtain ⟨k0, hk0⟩ := hw _ _ _ ha
  exact va_get (D := G.1) hx hb hts hin hown hK.1 hP k0 hk0 hc k hk (hts _ hlink) hsame hv hdg kk
theorem g_put (hx : p.tables.exec = Jvm.exec) (hb : c.code = cc) {own ref C : String} {T : u_T} {N ci index : Nat} (hts : ∀ w ∈ AL, w.before args s = true) (hown : s.vm.findClass own = some m.cls) (hK : Kw G s) (hM : Wd G M s H locs) (hin : ∀ w ∈ u_ws C T N, w ∈ AL) (hc : vwCl[ci]? = some (C, T, N)) (k : Nat) (hk : k < N) (hlink : Cond.fieldLink own index ref (T k).2.1 (T k).2.2.1 ∈ AL) (hsame : ∀ x, s.fieldFound? (T k).1 (T k).2.1 (T k).2.2.1 = some x → s.fieldFound? ref (T k).2.1 (T k).2.2.1 = some x) (ty0 : Nat → FieldType) (hty : ∀ k, k < N → parseFieldDescriptor (T k).2.2.1 = some (ty0 k)) (hnm : ∀ a, a < N → ∀ b, b < N → a ≠ b → (T a).2.1 ≠ (T b).2.1) (hfin : (T k).2.2.2 = false) {ty : FieldType} {v : Value} (hd : parseFieldDescriptor (T k).2.2.1 = some ty) (hn : narrow ty v = v) (hfit : fits ty v = true) {r : Nat} {fs : List Value} (ha : M a = some (r, .inr (ci, fs))) (hl : k < fs.length) (hdg : decode cc pc = .ok (.putfield index, 3))
    (kk : ∀ (H : Heap) (locs : List Loc), Wd G (hu M a r (.inr (ci, fs.set k v))) s H locs → W p l e R s m args below meth c H locs cells slots Q (F0 m (pc + 3) ls rest)) : W p l e R s m args below meth c H locs cells slots Q (F0 m pc ls (v :: .ref a :: rest)) := by
  obtain ⟨ws, hP, hD, hw⟩ := hM.1
  obtain ⟨k0, hk0⟩ := hw _ _ _ ha
  exact va_put (D := G.1) hx hb hts hin ty0 hty hnm hown hK.1 hP hD hM.2.1 k0 hk0 hc k hk (hts _ hlink) hsame hfin hd hn hfit hl hdg (fun H1 locs1 hP1 hD1 hS1 => kk H1 locs1 ⟨hm.set hw hk0 hP1 hD1, hS1, hM.2.2⟩)
theorem g_putF (hx : p.tables.exec = Jvm.exec) (hb : c.code = cc) {own ref C : String} {T : u_T} {N ci index : Nat} (hts : ∀ w ∈ AL, w.before args s = true) (hown : s.vm.findClass own = some m.cls) (hK : Kw G s) (hM : Wd G M s H locs) (hin : ∀ w ∈ u_ws C T N, w ∈ AL) (hc : vwCl[ci]? = some (C, T, N)) (k : Nat) (hk : k < N) (hlink : Cond.fieldLink own index ref (T k).2.1 (T k).2.2.1 ∈ AL) (hsame : ∀ x, s.fieldFound? (T k).1 (T k).2.1 (T k).2.2.1 = some x → s.fieldFound? ref (T k).2.1 (T k).2.2.1 = some x) (ty0 : Nat → FieldType) (hty : ∀ k, k < N → parseFieldDescriptor (T k).2.2.1 = some (ty0 k)) (hnm : ∀ a, a < N → ∀ b, b < N → a ≠ b → (T a).2.1 ≠ (T b).2.1) (hfin : (T k).2.2.2 = true) (hin2 : meth.name = "<init>") (hdecl : (T k).1 = own) {ty : FieldType} {v : Value} (hd : parseFieldDescriptor (T k).2.2.1 = some ty) (hn : narrow ty v = v) (hfit : fits ty v = true) {r : Nat} {fs : List Value} (ha : M a = some (r, .inr (ci, fs))) (hl : k < fs.length) (hdg : decode cc pc = .ok (.putfield index, 3))
    (kk : ∀ (H : Heap) (locs : List Loc), Wd G (hu M a r (.inr (ci, fs.set k v))) s H locs → W p l e R s m args below meth c H locs cells slots Q (F0 m (pc + 3) ls rest)) : W p l e R s m args below meth c H locs cells slots Q (F0 m pc ls (v :: .ref a :: rest)) := by
  obtain ⟨ws, hP, hD, hw⟩ := hM.1
  obtain ⟨k0, hk0⟩ := hw _ _ _ ha
  exact va_putF (D := G.1) hx hb hts hin ty0 hty hnm hown hK.1 hP hD hM.2.1 k0 hk0 hc k hk (hts _ hlink) hsame hfin hin2 hdecl hd hn hfit hl hdg (fun H1 locs1 hP1 hD1 hS1 => kk H1 locs1 ⟨hm.set hw hk0 hP1 hD1, hS1, hM.2.2⟩)
theorem g_iald (hx : p.tables.exec = Jvm.exec) (hb : c.code = cc) (hK : Kw G s) (hM : Wd G M s H locs) {n r : Nat} {f : Nat → Int32} (ha : M a = some (r, .inl (G.2.1 0, n, .inl f))) {i : Int32} (hin : vp_in i n) (hdg : decode cc pc = .ok (.iaload, 1))
    (kk : W p l e R s m args below meth c H locs cells slots Q (F0 m (pc + 1) ls (.int (f i.toNatClampNeg) :: rest))) : W p l e R s m args below meth c H locs cells slots Q (F0 m pc ls (.int i :: .ref a :: rest)) := by
  obtain ⟨ws, hP, hD, hw⟩ := hM.1
  obtain ⟨k0, hk0⟩ := hw _ _ _ ha
  exact va_iald (D := G.1) hx hb hK.1 hP k0 0 hk0 rfl hin hdg kk
theorem g_iast (hx : p.tables.exec = Jvm.exec) (hb : c.code = cc) (hK : Kw G s) (hM : Wd G M s H locs) {n r : Nat} {f : Nat → Int32} (ha : M a = some (r, .inl (G.2.1 0, n, .inl f))) {i : Int32} {x : Int32} (hin : vp_in i n) (hdg : decode cc pc = .ok (.iastore, 1))
    (kk : ∀ (H : Heap) (locs : List Loc), Wd G (hu M a r (.inl (G.2.1 0, n, .inl (upd f i.toNatClampNeg x)))) s H locs → W p l e R s m args below meth c H locs cells slots Q (F0 m (pc + 1) ls rest)) : W p l e R s m args below meth c H locs cells slots Q (F0 m pc ls (.int x :: .int i :: .ref a :: rest)) := by
  obtain ⟨ws, hP, hD, hw⟩ := hM.1
  obtain ⟨k0, hk0⟩ := hw _ _ _ ha
  exact va_iast (D := G.1) hx hb hK.1 hP hD hM.2.1 k0 0 hk0 rfl hin hdg (fun H1 locs1 hP1 hD1 hS1 => kk H1 locs1 ⟨hm.set hw hk0 hP1 hD1, hS1, hM.2.2⟩)
theorem g_alen (hx : p.tables.exec = Jvm.exec) (hb : c.code = cc) (hK : Kw G s) (hM : Wd G M s H locs) {r j : Nat} {x : vp_A} {ty : FieldType} (ha : M a = some (r, .inl (G.2.1 j, x))) (hj : (tyG G)[j]? = some (G.2.1 j, ty)) {v : Int32} (hv : Int32.ofNat x.1 = v) (hdg : decode cc pc = .ok (.arraylength, 1))
    (kk : W p l e R s m args below meth c H locs cells slots Q (F0 m (pc + 1) ls (.int v :: rest))) : W p l e R s m args below meth c H locs cells slots Q (F0 m pc ls (.ref a :: rest)) := by
  obtain ⟨ws, hP, hD, hw⟩ := hM.1
  obtain ⟨k0, hk0⟩ := hw _ _ _ ha
  exact va_alen (D := G.1) hx hb hK.1 hP k0 j hk0 hj hv hdg kk
theorem g_aald (hx : p.tables.exec = Jvm.exec) (hb : c.code = cc) (hK : Kw G s) (hM : Wd G M s H locs) {n r j : Nat} {f : Nat → Option Nat} (ha : M a = some (r, .inl (G.2.1 j, n, .inr (.inr (.inr (.inr f)))))) {ty : FieldType} (hj : (tyG G)[j]? = some (G.2.1 j, ty)) (href : ty.isReference = true) {i : Int32} (hin : vp_in i n) (hdg : decode cc pc = .ok (.aaload, 1))
    (kk : W p l e R s m args below meth c H locs cells slots Q (F0 m (pc + 1) ls (va_rf (f i.toNatClampNeg) :: rest))) : W p l e R s m args below meth c H locs cells slots Q (F0 m pc ls (.int i :: .ref a :: rest)) := by
  obtain ⟨ws, hP, hD, hw⟩ := hM.1
  obtain ⟨k0, hk0⟩ := hw _ _ _ ha
  have hlt : i.toNatClampNeg < n := Nat.not_le.mp fun q => hin (Or.inr q)
  exact W.aald (v := va_rf (f i.toNatClampNeg)) (ty := ty) hx hb (hP k0 _ hk0) ((hK.1.2 j _ hj).1 n (fun j => va_rf (f j))) href (fun q => by cases q) (by show ¬ (i < 0 ∨ (arrV _ _ _).slots.size ≤ _); rw [arrV_size]; exact hin) (by show (arrV _ _ _).slots[_]? = _; rw [arrV_read _ _ hlt]) rfl rfl hdg kk
theorem g_aast (hx : p.tables.exec = Jvm.exec) (hb : c.code = cc) (hK : Kw G s) (hM : Wd G M s H locs) {n r v : Nat} {f : Nat → Option Nat} (ha : M a = some (r, .inl (G.2.1 2, n, .inr (.inr (.inr (.inr f)))))) (hv : va_Any "java/lang/Object" s H v) {i : Int32} (hin : vp_in i n) (hdg : decode cc pc = .ok (.aastore, 1))
    (kk : ∀ (H : Heap) (locs : List Loc), Wd G (hu M a r (.inl (G.2.1 2, n, .inr (.inr (.inr (.inr (va_up f i.toNatClampNeg (some v)))))))) s H locs → W p l e R s m args below meth c H locs cells slots Q (F0 m (pc + 1) ls rest)) : W p l e R s m args below meth c H locs cells slots Q (F0 m pc ls (.ref v :: .int i :: .ref a :: rest)) := by
  obtain ⟨ws, hP, hD, hw⟩ := hM.1
  obtain ⟨k0, hk0⟩ := hw _ _ _ ha
  exact va_astqM (D := G.1) hx hb hK.1 hP hD hM.2.1 k0 2 hk0 rfl hv hin hdg (fun H1 locs1 hP1 hD1 hS1 => kk H1 locs1 ⟨hm.set hw hk0 hP1 hD1, hS1, hM.2.2⟩)
theorem g_new (hx : p.tables.exec = Jvm.exec) (hb : c.code = cc) {own C : String} {T : u_T} {N ci index : Nat} (hts : ∀ w ∈ AL, w.before args s = true) (hown : s.vm.findClass own = some m.cls) (hK : Kw G s) (hM : Wd G M s H locs) (hin : ∀ w ∈ u_ws C T N, w ∈ AL) (hc : vwCl[ci]? = some (C, T, N)) (ty0 : Nat → FieldType) (hty : ∀ k, k < N → parseFieldDescriptor (T k).2.2.1 = some (ty0 k)) (hcl : Cond.classLink own index C ∈ AL) (hinst : Cond.instantiable C N ∈ AL) (hini : Cond.initialized C ∈ AL) {fs : List Value} (hfs : ∀ j, j < N → defaultValue (ty0 j) = vp_V fs j) (r : Nat) (hcells : cells + 1 ≤ R.cells) (hslots : slots + N ≤ R.slots) (hdg : decode cc pc = .ok (.new index, 3))
    (kk : ∀ (q : Nat) (H : Heap), M q = none → Wd G (hu M q r (.inr (ci, fs))) s H locs → W p l e R s m args below meth c H locs (cells + 1) (slots + N) Q (F0 m (pc + 3) ls (.ref q :: rest))) : W p l e R s m args below meth c H locs cells slots Q (F0 m pc ls rest) := by
  obtain ⟨ws, hP, hD, hw⟩ := hM.1
  exact va_new (D := G.1) hx hb hts hin ty0 hty hown (hts _ hcl) (hts _ hinst) (hts _ hini) hK.1 hP hD hM.2.1 hM.hA hc hfs hcells hslots hdg (fun q H1 hP1 hD1 hS1 => by
    obtain ⟨z1, z2⟩ := hm.push (r := r) hw hP1 hD1
    exact kk q H1 z1 ⟨z2, hS1, hM.2.2⟩)
theorem tyG_at {j : Nat} {ty : FieldType} {cA : ClassId} (hK : Kw G s) (hj : (tyG G)[j]? = some (G.2.1 j, ty)) (hr : va_RA s cA ty) : cA = G.2.1 j := by
  have h2 := (hK.1.2 j _ hj).2
  cases ty with
  | object C =>
    obtain ⟨_, _, _, _, _, h4⟩ := hr
    obtain ⟨_, _, _, _, _, k4⟩ := h2
    exact Option.some.inj (h4.symm.trans k4)
  | _ =>
    have e1 : s.vm.findClass _ = some cA := hr
    have e2 : s.vm.findClass _ = some (G.2.1 j) := h2
    exact Option.some.inj (e1.symm.trans e2)
theorem g_newa (hx : p.tables.exec = Jvm.exec) (hb : c.code = cc) (hK : Kw G s) (hM : Wd G M s H locs) {atype : ArrayType} {ty : FieldType} {j : Nat} (hts : ∀ w ∈ AL, w.before args s = true) (harr : Cond.arrayClass (newarray.typeOf atype) ∈ AL) (hty : newarray.typeOf atype = ty) (hj : (tyG G)[j]? = some (G.2.1 j, ty)) {n : Int32} {N' : Nat} {a0 : vp_A} (h0 : ∀ cA : ClassId, vp_cell cA a0 = arrV cA N' (fun _ => defaultValue ty)) (hn : ¬ n < 0) (hN : n.toNatClampNeg = N') (hbytes : N' * componentBytes ty ≤ 536870912) (r : Nat) (hcells : cells + 1 ≤ R.cells) (hslots : slots + N' ≤ R.slots) (hdg : decode cc pc = .ok (.newarray atype, 2))
    (kk : ∀ (q : Nat) (H : Heap), M q = none → Wd G (hu M q r (.inl (G.2.1 j, a0))) s H locs → W p l e R s m args below meth c H locs (cells + 1) (slots + N') Q (F0 m (pc + 2) ls (.ref q :: rest))) : W p l e R s m args below meth c H locs cells slots Q (F0 m pc ls (.int n :: rest)) := by
  obtain ⟨ws, hP, hD, hw⟩ := hM.1
  exact va_newa (D := G.1) (ty := ty) (a0 := a0) hx hb (hts _ harr) hty hK.1 hP hD hM.2.1 hM.hA h0 hn hN hbytes hcells hslots hdg (fun q cA H1 hK1 hP1 hD1 hS1 => by
    have e := tyG_at hK hj (hK1.2 (tyG G).length (cA, ty) (by simp)).2
    subst e
    obtain ⟨z1, z2⟩ := hm.push (r := r) hw hP1 hD1
    exact kk q H1 z1 ⟨z2, hS1, hM.2.2⟩)
theorem g_newq (hx : p.tables.exec = Jvm.exec) (hb : c.code = cc) {own : String} {index : Nat} (hts : ∀ w ∈ AL, w.before args s = true) (hown : s.vm.findClass own = some m.cls) (hK : Kw G s) (hM : Wd G M s H locs) (hcl : Cond.classLink own index "java/lang/Object" ∈ AL) {n : Int32} {N' : Nat} (hn : ¬ n < 0) (hN : n.toNatClampNeg = N') (hbytes : N' * 4 ≤ 536870912) (r : Nat) (hcells : cells + 1 ≤ R.cells) (hslots : slots + N' ≤ R.slots) (hdg : decode cc pc = .ok (.anewarray index, 3))
    (kk : ∀ (q : Nat) (H : Heap), M q = none → Wd G (hu M q r (.inl (G.2.1 2, N', .inr (.inr (.inr (.inr (fun _ => none))))))) s H locs → W p l e R s m args below meth c H locs (cells + 1) (slots + N') Q (F0 m (pc + 3) ls (.ref q :: rest))) : W p l e R s m args below meth c H locs cells slots Q (F0 m pc ls (.int n :: rest)) := by
  obtain ⟨ws, hP, hD, hw⟩ := hM.1
  exact va_newq (D := G.1) hx hb hown (hts _ hcl) hK.2.2.2.1.1 hK.1 hP hD hM.2.1 hM.hA hn hN hbytes hcells hslots hdg (fun q cA H1 hK1 hP1 hD1 hS1 => by
    have e := tyG_at (j := 2) hK rfl (hK1.2 (tyG G).length (cA, .object "java/lang/Object") (by simp)).2
    subst e
    obtain ⟨z1, z2⟩ := hm.push (r := r) hw hP1 hD1
    exact kk q H1 z1 ⟨z2, hS1, hM.2.2⟩)
theorem g_copyi (hx : p.tables.exec = Jvm.exec) (hb : c.code = cc) (hml : c.maxLocals = ls.size) {own : String} {index : Nat} (hts : ∀ w ∈ AL, w.before args s = true) (hown : s.vm.findClass own = some m.cls) (hK : Kw G s) (hM : Wd G M s H locs) (hlink : Cond.methodLink own index arraycopyName ∈ AL) {a0 n0 n1 r0 r1 : Nat} {f g : Nat → Int32} (ha0 : M a0 = some (r0, .inl (G.2.1 0, n0, .inl f))) (ha : M a = some (r1, .inl (G.2.1 0, n1, .inl g))) {sp dp n : Int32} (h1 : ¬ sp < 0) (h2 : ¬ dp < 0) (h3 : ¬ n < 0) (h4 : sp.toNatClampNeg + n.toNatClampNeg ≤ n0) (h5 : dp.toNatClampNeg + n.toNatClampNeg ≤ n1) (hfr : 1 ≤ R.frames) (hlo : (rest.map fun v => v.category).sum + (nativeFrameWords "java/lang/System" "arraycopy" 5 + 11) ≤ R.locals) (hdg : decode cc pc = .ok (.invokestatic index, 3))
    (kk : ∀ (H : Heap) (locs : List Loc), Wd G (hu M a r1 (.inl (G.2.1 0, n1, .inl (va_cpy f g sp.toNatClampNeg dp.toNatClampNeg n.toNatClampNeg)))) s H locs → W p l e R s m args below meth c H locs cells slots Q (F0 m (pc + 3) ls rest)) : W p l e R s m args below meth c H locs cells slots Q (F0 m pc ls (.int n :: .int dp :: .ref a :: .int sp :: .ref a0 :: rest)) := by
  obtain ⟨ws, hP, hD, hw⟩ := hM.1
  obtain ⟨k0, hk0⟩ := hw _ _ _ ha
  obtain ⟨k1, hk1⟩ := hw _ _ _ ha0
  exact va_copyi (D := G.1) hx hb hml hown (hts _ hlink) (hts _ wv_acopy) (hts _ wt_acopy) (hts _ wn_java_lang_System) hK.1 hP hD hM.2.1 k1 k0 0 0 hk1 hk0 rfl rfl rfl h1 h2 h3 h4 h5 (fun _ _ => rfl) hfr hlo hdg (fun H1 locs1 hP1 hD1 hS1 => kk H1 locs1 ⟨hm.set hw hk0 hP1 hD1, hS1, hM.2.2⟩)
theorem g_iret (hx : p.tables.exec = Jvm.exec) (hb : c.code = cc) (hr : meth.sig.returnType = some .int) (hlocks : meth.locks = false) (hM : Wd G M s H locs) {mc ms : Nat} (h1 : cells ≤ mc) (h2 : slots ≤ ms) {P : Int32 → HM → Prop} {v : Int32} (hv : P v M) (hdg : decode cc pc = .ok (.ireturn, 1)) : W p l e R s m args below meth c H locs cells slots (MQ below (va_Qi P (gB G) (gA G)) args s mc ms (gA G)) (F0 m pc ls [.int v]) :=
  W.widen h1 h2 (W.iret (v := v) hx hb hr (fun t ht _ => ⟨⟨v, M, rfl, hv, by show hm G M t.heap; rw [ht]; exact hM.1⟩, hM.2.1.F ht⟩) hM.2.1.2.2 hdg hlocks)
theorem g_lret (hx : p.tables.exec = Jvm.exec) (hb : c.code = cc) (hr : meth.sig.returnType = some .long) (hlocks : meth.locks = false) (hM : Wd G M s H locs) {mc ms : Nat} (h1 : cells ≤ mc) (h2 : slots ≤ ms) {P : Int64 → HM → Prop} {v : Int64} (hv : P v M) (hdg : decode cc pc = .ok (.lreturn, 1)) : W p l e R s m args below meth c H locs cells slots (MQ below (va_Ql P (gB G) (gA G)) args s mc ms (gA G)) (F0 m pc ls [.long v]) :=
  W.widen h1 h2 (W.lret (v := v) hx hb hr (fun t ht _ => ⟨⟨v, M, rfl, hv, by show hm G M t.heap; rw [ht]; exact hM.1⟩, hM.2.1.F ht⟩) hM.2.1.2.2 hdg hlocks)
theorem g_zret (hx : p.tables.exec = Jvm.exec) (hb : c.code = cc) (hr : meth.sig.returnType = some .boolean) (hlocks : meth.locks = false) (hM : Wd G M s H locs) {mc ms : Nat} (h1 : cells ≤ mc) (h2 : slots ≤ ms) {P : Int32 → HM → Prop} {v : Int32} (hz : narrow .boolean (.int v) = .int v) (hv : P v M) (hdg : decode cc pc = .ok (.ireturn, 1)) : W p l e R s m args below meth c H locs cells slots (MQ below (va_Qi P (gB G) (gA G)) args s mc ms (gA G)) (F0 m pc ls [.int v]) :=
  W.widen h1 h2 (W.zret (v := v) hx hb hr hz (fun t ht _ => ⟨⟨v, M, rfl, hv, by show hm G M t.heap; rw [ht]; exact hM.1⟩, hM.2.1.F ht⟩) hM.2.1.2.2 hdg hlocks)
theorem g_vret (hx : p.tables.exec = Jvm.exec) (hb : c.code = cc) (hr : meth.sig.returnType = none) (hlocks : meth.locks = false) (hM : Wd G M s H locs) {mc ms : Nat} (h1 : cells ≤ mc) (h2 : slots ≤ ms) {P : HM → Prop} (hv : P M) (hdg : decode cc pc = .ok (.return_, 1)) : W p l e R s m args below meth c H locs cells slots (MQ below (va_Qv P (gB G) (gA G)) args s mc ms (gA G)) (F0 m pc ls []) :=
  W.widen h1 h2 (W.vret hx hb hr (fun t ht _ => ⟨⟨M, rfl, hv, by show hm G M t.heap; rw [ht]; exact hM.1⟩, hM.2.1.F ht⟩) hM.2.1.2.2 hdg hlocks)
theorem g_qret (hx : p.tables.exec = Jvm.exec) (hb : c.code = cc) {rt : FieldType} (hr : meth.sig.returnType = some rt) (hrt : (∃ n, rt = .object n) ∨ ∃ t, rt = .array t) (hlocks : meth.locks = false) (hM : Wd G M s H locs) {mc ms : Nat} (h1 : cells ≤ mc) (h2 : slots ≤ ms) {P : Option Nat → HM → Prop} {v : Option Nat} (hv : P v M) (hdg : decode cc pc = .ok (.areturn, 1)) : W p l e R s m args below meth c H locs cells slots (MQ below (va_Qq P (gB G) (gA G)) args s mc ms (gA G)) (F0 m pc ls [va_rf v]) :=
  W.widen h1 h2 (W.aret (v := va_rf v) hx hb hr hrt (by cases v with | none => exact Or.inl rfl | some q => exact Or.inr ⟨q, rfl⟩) (fun t ht _ => ⟨⟨v, M, rfl, hv, by show hm G M t.heap; rw [ht]; exact hM.1⟩, hM.2.1.F ht⟩) hM.2.1.2.2 hdg hlocks)
end GW
theorem Mi.go {l : Launch} {y : MethodName} {cc : ByteArray} {n fr lo mc ms : Nat} {ret : Option FieldType} {av : List Value} {G : GG} {M : HM} {P : Int32 → HM → Prop} (hy : plainName y.cls = true) (hav : (lg_sl av).length ≤ n)
    (h : ∀ (p : Program) (e : Env) (s : State) (m : MethodId) (below : List Frame) (meth : Method) (c : Code) (ls : Array Slot), p.tables.exec = Jvm.exec → c.code = cc → meth.sig.returnType = ret → c.maxLocals = n → s.vm.findClass y.cls = some m.cls → meth.locks = false → meth.name = y.name → (∀ w ∈ AL, w.before av.toArray s = true) → Kw G s → Wd G M s s.heap [] → lv_has ls n (lv_args 0 av) → W p l e ({ frames := fr, cells := mc, slots := ms, locals := lo } : Room) s m av.toArray below meth c s.heap [] 0 0 (MQ below (va_Qi P (gB G) (gA G)) av.toArray s mc ms (gA G)) (F0 m 0 ls [])) : Mi l y (.code y cc n ret :: AL) fr lo mc ms av G M P := by
  refine Met.ofW (cc := cc) (maxL := n) (ret := ret) hy rfl ?_
  intro p e s m args below meth c s₁ B hml hv
  obtain ⟨rfl, hK, hM, hsz⟩ := hv
  have hts := atoms_spec (ws := .code y cc n ret :: AL) B.pre
  have hl := lv_entry av (n := n) hav
  rw [lg_entry_eq]
  exact h p e s m below meth c _ B.exec B.bytes B.returns hml (findClass_of_methodNamed B.named) B.notSynchronized (name_of_methodNamed B.named B.method).1 (fun w hw => hts w (List.mem_cons_of_mem _ hw)) hK ⟨hM, va_S.rf, hsz⟩ hl
theorem Ml.go {l : Launch} {y : MethodName} {cc : ByteArray} {n fr lo mc ms : Nat} {ret : Option FieldType} {av : List Value} {G : GG} {M : HM} {P : Int64 → HM → Prop} (hy : plainName y.cls = true) (hav : (lg_sl av).length ≤ n)
    (h : ∀ (p : Program) (e : Env) (s : State) (m : MethodId) (below : List Frame) (meth : Method) (c : Code) (ls : Array Slot), p.tables.exec = Jvm.exec → c.code = cc → meth.sig.returnType = ret → c.maxLocals = n → s.vm.findClass y.cls = some m.cls → meth.locks = false → meth.name = y.name → (∀ w ∈ AL, w.before av.toArray s = true) → Kw G s → Wd G M s s.heap [] → lv_has ls n (lv_args 0 av) → W p l e ({ frames := fr, cells := mc, slots := ms, locals := lo } : Room) s m av.toArray below meth c s.heap [] 0 0 (MQ below (va_Ql P (gB G) (gA G)) av.toArray s mc ms (gA G)) (F0 m 0 ls [])) : Ml l y (.code y cc n ret :: AL) fr lo mc ms av G M P := by
  refine Met.ofW (cc := cc) (maxL := n) (ret := ret) hy rfl ?_
  intro p e s m args below meth c s₁ B hml hv
  obtain ⟨rfl, hK, hM, hsz⟩ := hv
  have hts := atoms_spec (ws := .code y cc n ret :: AL) B.pre
  have hl := lv_entry av (n := n) hav
  rw [lg_entry_eq]
  exact h p e s m below meth c _ B.exec B.bytes B.returns hml (findClass_of_methodNamed B.named) B.notSynchronized (name_of_methodNamed B.named B.method).1 (fun w hw => hts w (List.mem_cons_of_mem _ hw)) hK ⟨hM, va_S.rf, hsz⟩ hl
theorem Mv.go {l : Launch} {y : MethodName} {cc : ByteArray} {n fr lo mc ms : Nat} {ret : Option FieldType} {av : List Value} {G : GG} {M : HM} {P : HM → Prop} (hy : plainName y.cls = true) (hav : (lg_sl av).length ≤ n)
    (h : ∀ (p : Program) (e : Env) (s : State) (m : MethodId) (below : List Frame) (meth : Method) (c : Code) (ls : Array Slot), p.tables.exec = Jvm.exec → c.code = cc → meth.sig.returnType = ret → c.maxLocals = n → s.vm.findClass y.cls = some m.cls → meth.locks = false → meth.name = y.name → (∀ w ∈ AL, w.before av.toArray s = true) → Kw G s → Wd G M s s.heap [] → lv_has ls n (lv_args 0 av) → W p l e ({ frames := fr, cells := mc, slots := ms, locals := lo } : Room) s m av.toArray below meth c s.heap [] 0 0 (MQ below (va_Qv P (gB G) (gA G)) av.toArray s mc ms (gA G)) (F0 m 0 ls [])) : Mv l y (.code y cc n ret :: AL) fr lo mc ms av G M P := by
  refine Met.ofW (cc := cc) (maxL := n) (ret := ret) hy rfl ?_
  intro p e s m args below meth c s₁ B hml hv
  obtain ⟨rfl, hK, hM, hsz⟩ := hv
  have hts := atoms_spec (ws := .code y cc n ret :: AL) B.pre
  have hl := lv_entry av (n := n) hav
  rw [lg_entry_eq]
  exact h p e s m below meth c _ B.exec B.bytes B.returns hml (findClass_of_methodNamed B.named) B.notSynchronized (name_of_methodNamed B.named B.method).1 (fun w hw => hts w (List.mem_cons_of_mem _ hw)) hK ⟨hM, va_S.rf, hsz⟩ hl
theorem Mq.go {l : Launch} {y : MethodName} {cc : ByteArray} {n fr lo mc ms : Nat} {ret : Option FieldType} {av : List Value} {G : GG} {M : HM} {P : Option Nat → HM → Prop} (hy : plainName y.cls = true) (hav : (lg_sl av).length ≤ n)
    (h : ∀ (p : Program) (e : Env) (s : State) (m : MethodId) (below : List Frame) (meth : Method) (c : Code) (ls : Array Slot), p.tables.exec = Jvm.exec → c.code = cc → meth.sig.returnType = ret → c.maxLocals = n → s.vm.findClass y.cls = some m.cls → meth.locks = false → meth.name = y.name → (∀ w ∈ AL, w.before av.toArray s = true) → Kw G s → Wd G M s s.heap [] → lv_has ls n (lv_args 0 av) → W p l e ({ frames := fr, cells := mc, slots := ms, locals := lo } : Room) s m av.toArray below meth c s.heap [] 0 0 (MQ below (va_Qq P (gB G) (gA G)) av.toArray s mc ms (gA G)) (F0 m 0 ls [])) : Mq l y (.code y cc n ret :: AL) fr lo mc ms av G M P := by
  refine Met.ofW (cc := cc) (maxL := n) (ret := ret) hy rfl ?_
  intro p e s m args below meth c s₁ B hml hv
  obtain ⟨rfl, hK, hM, hsz⟩ := hv
  have hts := atoms_spec (ws := .code y cc n ret :: AL) B.pre
  have hl := lv_entry av (n := n) hav
  rw [lg_entry_eq]
  exact h p e s m below meth c _ B.exec B.bytes B.returns hml (findClass_of_methodNamed B.named) B.notSynchronized (name_of_methodNamed B.named B.method).1 (fun w hw => hts w (List.mem_cons_of_mem _ hw)) hK ⟨hM, va_S.rf, hsz⟩ hl
theorem al_in {y : MethodName} {cc : ByteArray} {n : Nat} {ret : Option FieldType} (h : Cond.code y cc n ret ∈ AL) : GoodIn AL (.code y cc n ret :: AL) := fun w hw => by
  rcases List.mem_cons.mp hw with e | h2
  · subst e; exact ⟨h, al_gw _ h⟩
  · exact ⟨h2, al_gw _ h2⟩
abbrev okM (y : MethodName) (n : Nat) : Prop := y.cls ≠ "java/lang/invoke/MethodHandle" ∧ y.cls ≠ "java/lang/invoke/VarHandle" ∧ (parseMethodDescriptor y.desc).map (fun d => d.parameters.length) = some n
section GC
variable {p : Program} {l : Launch} {e : Env} {R : Room} {s : State} {m : MethodId} {args : Array Value} {below : List Frame} {meth : Method} {c : Code} {H : Heap} {locs : List Loc} {cells slots : Nat} {Q : State → Prop}
variable {cc bytes : ByteArray} {pc nL n9 maxL fr lo mc ms index : Nat} {ls : Array Slot} {As rest : List Value} {b : Nat} {G : GG} {M : HM} {own C : String} {y : MethodName} {ret : Option FieldType}
theorem g_callVi {st0 : List Value} (hx : p.tables.exec = Jvm.exec) (hb : c.code = cc) (hml : c.maxLocals = nL) (hls : ls.size = nL) (hown : s.vm.findClass own = some m.cls) (hts : ∀ w ∈ AL, w.before args s = true) (hK : Kw G s) (hM : Wd G M s H locs) {P : Int32 → HM → Prop} (hC : Mi l y (.code y bytes maxL ret :: AL) fr lo mc ms (.ref b :: As) G M P) (hlk : Cond.methodLink own index y ∈ AL) (hin : Cond.instanceMethod y ∈ AL) (hsel : Cond.selects y.cls y y ∈ AL) (hini : Cond.initialized y.cls ∈ AL) (hcd : Cond.code y bytes maxL ret ∈ AL) (hd : okM y n9) (hrv : ∃ cell : Cell, H[b]? = some cell ∧ cell.vm.isStatics = false ∧ s.vm.findClass y.cls = some cell.cls) (hR : fr + 1 ≤ R.frames ∧ 8 + (maxL + 11) + lo ≤ R.locals) (hf : cells + mc ≤ R.cells ∧ slots + ms ≤ R.slots) (hn : As.length = n9) (hst : (rest.map fun v => v.category).sum ≤ 8) (hst0 : st0 = As.reverse ++ .ref b :: rest) (hdg : decode cc pc = .ok (.invokevirtual index, 3))
    (kk : ∀ (r : Int32) (M1 : HM) (H : Heap) (locs : List Loc), P r M1 → Wd G M1 s H locs → W p l e R s m args below meth c H locs (cells + mc) (slots + ms) Q (F0 m (pc + 3) ls (.int r :: rest))) : W p l e R s m args below meth c H locs cells slots Q (F0 m pc ls (st0)) :=
  va_calli (va_runV (As := As) (rest := rest) ⟨hx, hb, hml, hown, hts⟩ hC ⟨callB_of n9 hts (al_in hcd) rfl rfl rfl (hts _ hini) (hts _ hlk) hd hR, hts _ hin, hts _ hsel⟩ ⟨gP.blind, hrv, fun U hU hW => hM.pre hK hU hW⟩ rfl hn hls hst0 (lv_room hst) hdg hf) hM.2.1 (fun _ _ h => h) (fun _ h => h) (fun r u t H1 locs1 ht hvm hp hB hz hk hS1 => kk r u H1 locs1 hp ⟨by rw [← ht]; exact hB, hS1, hM.2.2⟩)
theorem g_callVl {st0 : List Value} (hx : p.tables.exec = Jvm.exec) (hb : c.code = cc) (hml : c.maxLocals = nL) (hls : ls.size = nL) (hown : s.vm.findClass own = some m.cls) (hts : ∀ w ∈ AL, w.before args s = true) (hK : Kw G s) (hM : Wd G M s H locs) {P : Int64 → HM → Prop} (hC : Ml l y (.code y bytes maxL ret :: AL) fr lo mc ms (.ref b :: As) G M P) (hlk : Cond.methodLink own index y ∈ AL) (hin : Cond.instanceMethod y ∈ AL) (hsel : Cond.selects y.cls y y ∈ AL) (hini : Cond.initialized y.cls ∈ AL) (hcd : Cond.code y bytes maxL ret ∈ AL) (hd : okM y n9) (hrv : ∃ cell : Cell, H[b]? = some cell ∧ cell.vm.isStatics = false ∧ s.vm.findClass y.cls = some cell.cls) (hR : fr + 1 ≤ R.frames ∧ 8 + (maxL + 11) + lo ≤ R.locals) (hf : cells + mc ≤ R.cells ∧ slots + ms ≤ R.slots) (hn : As.length = n9) (hst : (rest.map fun v => v.category).sum ≤ 8) (hst0 : st0 = As.reverse ++ .ref b :: rest) (hdg : decode cc pc = .ok (.invokevirtual index, 3))
    (kk : ∀ (r : Int64) (M1 : HM) (H : Heap) (locs : List Loc), P r M1 → Wd G M1 s H locs → W p l e R s m args below meth c H locs (cells + mc) (slots + ms) Q (F0 m (pc + 3) ls (.long r :: rest))) : W p l e R s m args below meth c H locs cells slots Q (F0 m pc ls (st0)) :=
  va_calll (va_runV (As := As) (rest := rest) ⟨hx, hb, hml, hown, hts⟩ hC ⟨callB_of n9 hts (al_in hcd) rfl rfl rfl (hts _ hini) (hts _ hlk) hd hR, hts _ hin, hts _ hsel⟩ ⟨gP.blind, hrv, fun U hU hW => hM.pre hK hU hW⟩ rfl hn hls hst0 (lv_room hst) hdg hf) hM.2.1 (fun _ _ h => h) (fun _ h => h) (fun r u t H1 locs1 ht hvm hp hB hz hk hS1 => kk r u H1 locs1 hp ⟨by rw [← ht]; exact hB, hS1, hM.2.2⟩)
theorem g_callVv {st0 : List Value} (hx : p.tables.exec = Jvm.exec) (hb : c.code = cc) (hml : c.maxLocals = nL) (hls : ls.size = nL) (hown : s.vm.findClass own = some m.cls) (hts : ∀ w ∈ AL, w.before args s = true) (hK : Kw G s) (hM : Wd G M s H locs) {P : HM → Prop} (hC : Mv l y (.code y bytes maxL ret :: AL) fr lo mc ms (.ref b :: As) G M P) (hlk : Cond.methodLink own index y ∈ AL) (hin : Cond.instanceMethod y ∈ AL) (hsel : Cond.selects y.cls y y ∈ AL) (hini : Cond.initialized y.cls ∈ AL) (hcd : Cond.code y bytes maxL ret ∈ AL) (hd : okM y n9) (hrv : ∃ cell : Cell, H[b]? = some cell ∧ cell.vm.isStatics = false ∧ s.vm.findClass y.cls = some cell.cls) (hR : fr + 1 ≤ R.frames ∧ 8 + (maxL + 11) + lo ≤ R.locals) (hf : cells + mc ≤ R.cells ∧ slots + ms ≤ R.slots) (hn : As.length = n9) (hst : (rest.map fun v => v.category).sum ≤ 8) (hst0 : st0 = As.reverse ++ .ref b :: rest) (hdg : decode cc pc = .ok (.invokevirtual index, 3))
    (kk : ∀ (M1 : HM) (H : Heap) (locs : List Loc), P M1 → Wd G M1 s H locs → W p l e R s m args below meth c H locs (cells + mc) (slots + ms) Q (F0 m (pc + 3) ls (rest))) : W p l e R s m args below meth c H locs cells slots Q (F0 m pc ls (st0)) :=
  va_callv (va_runV (As := As) (rest := rest) ⟨hx, hb, hml, hown, hts⟩ hC ⟨callB_of n9 hts (al_in hcd) rfl rfl rfl (hts _ hini) (hts _ hlk) hd hR, hts _ hin, hts _ hsel⟩ ⟨gP.blind, hrv, fun U hU hW => hM.pre hK hU hW⟩ rfl hn hls hst0 (lv_room hst) hdg hf) hM.2.1 (fun _ _ h => h) (fun _ h => h) (fun u t H1 locs1 ht hvm hp hB hz hk hS1 => kk u H1 locs1 hp ⟨by rw [← ht]; exact hB, hS1, hM.2.2⟩)
theorem g_callVq {st0 : List Value} (hx : p.tables.exec = Jvm.exec) (hb : c.code = cc) (hml : c.maxLocals = nL) (hls : ls.size = nL) (hown : s.vm.findClass own = some m.cls) (hts : ∀ w ∈ AL, w.before args s = true) (hK : Kw G s) (hM : Wd G M s H locs) {P : Option Nat → HM → Prop} (hC : Mq l y (.code y bytes maxL ret :: AL) fr lo mc ms (.ref b :: As) G M P) (hlk : Cond.methodLink own index y ∈ AL) (hin : Cond.instanceMethod y ∈ AL) (hsel : Cond.selects y.cls y y ∈ AL) (hini : Cond.initialized y.cls ∈ AL) (hcd : Cond.code y bytes maxL ret ∈ AL) (hd : okM y n9) (hrv : ∃ cell : Cell, H[b]? = some cell ∧ cell.vm.isStatics = false ∧ s.vm.findClass y.cls = some cell.cls) (hR : fr + 1 ≤ R.frames ∧ 8 + (maxL + 11) + lo ≤ R.locals) (hf : cells + mc ≤ R.cells ∧ slots + ms ≤ R.slots) (hn : As.length = n9) (hst : (rest.map fun v => v.category).sum ≤ 8) (hst0 : st0 = As.reverse ++ .ref b :: rest) (hdg : decode cc pc = .ok (.invokevirtual index, 3))
    (kk : ∀ (r : Option Nat) (M1 : HM) (H : Heap) (locs : List Loc), P r M1 → Wd G M1 s H locs → W p l e R s m args below meth c H locs (cells + mc) (slots + ms) Q (F0 m (pc + 3) ls (va_rf r :: rest))) : W p l e R s m args below meth c H locs cells slots Q (F0 m pc ls (st0)) :=
  va_callq (va_runV (As := As) (rest := rest) ⟨hx, hb, hml, hown, hts⟩ hC ⟨callB_of n9 hts (al_in hcd) rfl rfl rfl (hts _ hini) (hts _ hlk) hd hR, hts _ hin, hts _ hsel⟩ ⟨gP.blind, hrv, fun U hU hW => hM.pre hK hU hW⟩ rfl hn hls hst0 (lv_room hst) hdg hf) hM.2.1 (fun _ _ h => h) (fun _ h => h) (fun r u t H1 locs1 ht hvm hp hB hz hk hS1 => kk r u H1 locs1 hp ⟨by rw [← ht]; exact hB, hS1, hM.2.2⟩)
theorem g_callSi {st0 : List Value} (hx : p.tables.exec = Jvm.exec) (hb : c.code = cc) (hml : c.maxLocals = nL) (hls : ls.size = nL) (hown : s.vm.findClass own = some m.cls) (hts : ∀ w ∈ AL, w.before args s = true) (hK : Kw G s) (hM : Wd G M s H locs) {P : Int32 → HM → Prop} (hC : Mi l y (.code y bytes maxL ret :: AL) fr lo mc ms As G M P) (hlk : Cond.methodLink own index y ∈ AL) (hin : Cond.static y ∈ AL) (hini : Cond.initialized y.cls ∈ AL) (hcd : Cond.code y bytes maxL ret ∈ AL) (hd : okM y n9) (hR : fr + 1 ≤ R.frames ∧ 8 + (maxL + 11) + lo ≤ R.locals) (hf : cells + mc ≤ R.cells ∧ slots + ms ≤ R.slots) (hn : As.length = n9) (hst : (rest.map fun v => v.category).sum ≤ 8) (hst0 : st0 = As.reverse ++ rest) (hdg : decode cc pc = .ok (.invokestatic index, 3))
    (kk : ∀ (r : Int32) (M1 : HM) (H : Heap) (locs : List Loc), P r M1 → Wd G M1 s H locs → W p l e R s m args below meth c H locs (cells + mc) (slots + ms) Q (F0 m (pc + 3) ls (.int r :: rest))) : W p l e R s m args below meth c H locs cells slots Q (F0 m pc ls (st0)) :=
  va_calli (va_runS (As := As) (rest := rest) ⟨hx, hb, hml, hown, hts⟩ hC ⟨callB_of n9 hts (al_in hcd) rfl rfl rfl (hts _ hini) (hts _ hlk) hd hR, hts _ hin⟩ ⟨gP.blind, fun U hU hW => hM.pre hK hU hW⟩ rfl hn hls hst0 (lv_room hst) hdg hf) hM.2.1 (fun _ _ h => h) (fun _ h => h) (fun r u t H1 locs1 ht hvm hp hB hz hk hS1 => kk r u H1 locs1 hp ⟨by rw [← ht]; exact hB, hS1, hM.2.2⟩)
theorem g_callSl {st0 : List Value} (hx : p.tables.exec = Jvm.exec) (hb : c.code = cc) (hml : c.maxLocals = nL) (hls : ls.size = nL) (hown : s.vm.findClass own = some m.cls) (hts : ∀ w ∈ AL, w.before args s = true) (hK : Kw G s) (hM : Wd G M s H locs) {P : Int64 → HM → Prop} (hC : Ml l y (.code y bytes maxL ret :: AL) fr lo mc ms As G M P) (hlk : Cond.methodLink own index y ∈ AL) (hin : Cond.static y ∈ AL) (hini : Cond.initialized y.cls ∈ AL) (hcd : Cond.code y bytes maxL ret ∈ AL) (hd : okM y n9) (hR : fr + 1 ≤ R.frames ∧ 8 + (maxL + 11) + lo ≤ R.locals) (hf : cells + mc ≤ R.cells ∧ slots + ms ≤ R.slots) (hn : As.length = n9) (hst : (rest.map fun v => v.category).sum ≤ 8) (hst0 : st0 = As.reverse ++ rest) (hdg : decode cc pc = .ok (.invokestatic index, 3))
    (kk : ∀ (r : Int64) (M1 : HM) (H : Heap) (locs : List Loc), P r M1 → Wd G M1 s H locs → W p l e R s m args below meth c H locs (cells + mc) (slots + ms) Q (F0 m (pc + 3) ls (.long r :: rest))) : W p l e R s m args below meth c H locs cells slots Q (F0 m pc ls (st0)) :=
  va_calll (va_runS (As := As) (rest := rest) ⟨hx, hb, hml, hown, hts⟩ hC ⟨callB_of n9 hts (al_in hcd) rfl rfl rfl (hts _ hini) (hts _ hlk) hd hR, hts _ hin⟩ ⟨gP.blind, fun U hU hW => hM.pre hK hU hW⟩ rfl hn hls hst0 (lv_room hst) hdg hf) hM.2.1 (fun _ _ h => h) (fun _ h => h) (fun r u t H1 locs1 ht hvm hp hB hz hk hS1 => kk r u H1 locs1 hp ⟨by rw [← ht]; exact hB, hS1, hM.2.2⟩)
theorem g_callSv {st0 : List Value} (hx : p.tables.exec = Jvm.exec) (hb : c.code = cc) (hml : c.maxLocals = nL) (hls : ls.size = nL) (hown : s.vm.findClass own = some m.cls) (hts : ∀ w ∈ AL, w.before args s = true) (hK : Kw G s) (hM : Wd G M s H locs) {P : HM → Prop} (hC : Mv l y (.code y bytes maxL ret :: AL) fr lo mc ms As G M P) (hlk : Cond.methodLink own index y ∈ AL) (hin : Cond.static y ∈ AL) (hini : Cond.initialized y.cls ∈ AL) (hcd : Cond.code y bytes maxL ret ∈ AL) (hd : okM y n9) (hR : fr + 1 ≤ R.frames ∧ 8 + (maxL + 11) + lo ≤ R.locals) (hf : cells + mc ≤ R.cells ∧ slots + ms ≤ R.slots) (hn : As.length = n9) (hst : (rest.map fun v => v.category).sum ≤ 8) (hst0 : st0 = As.reverse ++ rest) (hdg : decode cc pc = .ok (.invokestatic index, 3))
    (kk : ∀ (M1 : HM) (H : Heap) (locs : List Loc), P M1 → Wd G M1 s H locs → W p l e R s m args below meth c H locs (cells + mc) (slots + ms) Q (F0 m (pc + 3) ls (rest))) : W p l e R s m args below meth c H locs cells slots Q (F0 m pc ls (st0)) :=
  va_callv (va_runS (As := As) (rest := rest) ⟨hx, hb, hml, hown, hts⟩ hC ⟨callB_of n9 hts (al_in hcd) rfl rfl rfl (hts _ hini) (hts _ hlk) hd hR, hts _ hin⟩ ⟨gP.blind, fun U hU hW => hM.pre hK hU hW⟩ rfl hn hls hst0 (lv_room hst) hdg hf) hM.2.1 (fun _ _ h => h) (fun _ h => h) (fun u t H1 locs1 ht hvm hp hB hz hk hS1 => kk u H1 locs1 hp ⟨by rw [← ht]; exact hB, hS1, hM.2.2⟩)
theorem g_callSq {st0 : List Value} (hx : p.tables.exec = Jvm.exec) (hb : c.code = cc) (hml : c.maxLocals = nL) (hls : ls.size = nL) (hown : s.vm.findClass own = some m.cls) (hts : ∀ w ∈ AL, w.before args s = true) (hK : Kw G s) (hM : Wd G M s H locs) {P : Option Nat → HM → Prop} (hC : Mq l y (.code y bytes maxL ret :: AL) fr lo mc ms As G M P) (hlk : Cond.methodLink own index y ∈ AL) (hin : Cond.static y ∈ AL) (hini : Cond.initialized y.cls ∈ AL) (hcd : Cond.code y bytes maxL ret ∈ AL) (hd : okM y n9) (hR : fr + 1 ≤ R.frames ∧ 8 + (maxL + 11) + lo ≤ R.locals) (hf : cells + mc ≤ R.cells ∧ slots + ms ≤ R.slots) (hn : As.length = n9) (hst : (rest.map fun v => v.category).sum ≤ 8) (hst0 : st0 = As.reverse ++ rest) (hdg : decode cc pc = .ok (.invokestatic index, 3))
    (kk : ∀ (r : Option Nat) (M1 : HM) (H : Heap) (locs : List Loc), P r M1 → Wd G M1 s H locs → W p l e R s m args below meth c H locs (cells + mc) (slots + ms) Q (F0 m (pc + 3) ls (va_rf r :: rest))) : W p l e R s m args below meth c H locs cells slots Q (F0 m pc ls (st0)) :=
  va_callq (va_runS (As := As) (rest := rest) ⟨hx, hb, hml, hown, hts⟩ hC ⟨callB_of n9 hts (al_in hcd) rfl rfl rfl (hts _ hini) (hts _ hlk) hd hR, hts _ hin⟩ ⟨gP.blind, fun U hU hW => hM.pre hK hU hW⟩ rfl hn hls hst0 (lv_room hst) hdg hf) hM.2.1 (fun _ _ h => h) (fun _ h => h) (fun r u t H1 locs1 ht hvm hp hB hz hk hS1 => kk r u H1 locs1 hp ⟨by rw [← ht]; exact hB, hS1, hM.2.2⟩)
theorem g_callIv {st0 : List Value} (hx : p.tables.exec = Jvm.exec) (hb : c.code = cc) (hml : c.maxLocals = nL) (hls : ls.size = nL) (hown : s.vm.findClass own = some m.cls) (hts : ∀ w ∈ AL, w.before args s = true) (hK : Kw G s) (hM : Wd G M s H locs) {P : HM → Prop} (hC : Mv l y (.code y bytes maxL none :: AL) fr lo mc ms (.ref b :: As) G M P) (hlk : Cond.methodLink own index y ∈ AL) (hin : Cond.instanceMethod y ∈ AL) (hini : Cond.initialized y.cls ∈ AL) (hnm : y.name = "<init>") (hcd : Cond.code y bytes maxL none ∈ AL) (hd : okM y n9) (hR : fr + 1 ≤ R.frames ∧ 8 + (maxL + 11) + lo ≤ R.locals) (hf : cells + mc ≤ R.cells ∧ slots + ms ≤ R.slots) (hn : As.length = n9) (hst : (rest.map fun v => v.category).sum ≤ 8) (hst0 : st0 = As.reverse ++ .ref b :: rest) (hdg : decode cc pc = .ok (.invokespecial index, 3))
    (kk : ∀ (M1 : HM) (H : Heap) (locs : List Loc), P M1 → Wd G M1 s H locs → W p l e R s m args below meth c H locs (cells + mc) (slots + ms) Q (F0 m (pc + 3) ls (rest))) : W p l e R s m args below meth c H locs cells slots Q (F0 m pc ls (st0)) :=
  va_callv (va_runI (As := As) (rest := rest) ⟨hx, hb, hml, hown, hts⟩ hC ⟨callB_of n9 hts (al_in hcd) rfl rfl rfl (hts _ hini) (hts _ hlk) hd hR, hnm, hts _ hin⟩ ⟨gP.blind, fun U hU hW => hM.pre hK hU hW⟩ rfl hn hls hst0 (lv_room hst) hdg hf) hM.2.1 (fun _ _ h => h) (fun _ h => h) (fun u t H1 locs1 ht hvm hp hB hz hk hS1 => kk u H1 locs1 hp ⟨by rw [← ht]; exact hB, hS1, hM.2.2⟩)
theorem g_callSNi {st0 : List Value} (hx : p.tables.exec = Jvm.exec) (hb : c.code = cc) (hml : c.maxLocals = nL) (hls : ls.size = nL) (hown : s.vm.findClass own = some m.cls) (hts : ∀ w ∈ AL, w.before args s = true) (hK : Kw G s) (hM : Wd G M s H locs) {P : Int32 → HM → Prop} (hC : Mi l y (.code y bytes maxL ret :: AL) fr lo mc ms As G M P) {host : String} (hlk : va_Nw (.methodLinkNest own index y host) s) (hin : Cond.static y ∈ AL) (hini : Cond.initialized y.cls ∈ AL) (hcd : Cond.code y bytes maxL ret ∈ AL) (hd : okM y n9) (hR : fr + 1 ≤ R.frames ∧ 8 + (maxL + 11) + lo ≤ R.locals) (hf : cells + mc ≤ R.cells ∧ slots + ms ≤ R.slots) (hn : As.length = n9) (hst : (rest.map fun v => v.category).sum ≤ 8) (hst0 : st0 = As.reverse ++ rest) (hdg : decode cc pc = .ok (.invokestatic index, 3))
    (kk : ∀ (r : Int32) (M1 : HM) (H : Heap) (locs : List Loc), P r M1 → Wd G M1 s H locs → W p l e R s m args below meth c H locs (cells + mc) (slots + ms) Q (F0 m (pc + 3) ls (.int r :: rest))) : W p l e R s m args below meth c H locs cells slots Q (F0 m pc ls (st0)) :=
  va_calli (va_runSN (As := As) (rest := rest) ⟨hx, hb, hml, hown, hts⟩ hC ⟨va_cnB n9 hts (al_in hcd) rfl rfl rfl hlk (hts _ hini) hd hR, hts _ hin, trivial⟩ ⟨gP.blind, fun U hU hW => hM.pre hK hU hW⟩ rfl hn hls hst0 (lv_room hst) hdg hf) hM.2.1 (fun _ _ h => h) (fun _ h => h) (fun r u t H1 locs1 ht hvm hp hB hz hk hS1 => kk r u H1 locs1 hp ⟨by rw [← ht]; exact hB, hS1, hM.2.2⟩)
theorem g_callINv {st0 : List Value} (hx : p.tables.exec = Jvm.exec) (hb : c.code = cc) (hml : c.maxLocals = nL) (hls : ls.size = nL) (hown : s.vm.findClass own = some m.cls) (hts : ∀ w ∈ AL, w.before args s = true) (hK : Kw G s) (hM : Wd G M s H locs) {P : HM → Prop} (hC : Mv l y (.code y bytes maxL none :: AL) fr lo mc ms (.ref b :: As) G M P) {host : String} (hlk : va_Nw (.methodLinkNest own index y host) s) (hin : Cond.instanceMethod y ∈ AL) (hini : Cond.initialized y.cls ∈ AL) (hnm : y.name = "<init>") (hcd : Cond.code y bytes maxL none ∈ AL) (hd : okM y n9) (hR : fr + 1 ≤ R.frames ∧ 8 + (maxL + 11) + lo ≤ R.locals) (hf : cells + mc ≤ R.cells ∧ slots + ms ≤ R.slots) (hn : As.length = n9) (hst : (rest.map fun v => v.category).sum ≤ 8) (hst0 : st0 = As.reverse ++ .ref b :: rest) (hdg : decode cc pc = .ok (.invokespecial index, 3))
    (kk : ∀ (M1 : HM) (H : Heap) (locs : List Loc), P M1 → Wd G M1 s H locs → W p l e R s m args below meth c H locs (cells + mc) (slots + ms) Q (F0 m (pc + 3) ls (rest))) : W p l e R s m args below meth c H locs cells slots Q (F0 m pc ls (st0)) :=
  va_callv (va_runIN (As := As) (rest := rest) ⟨hx, hb, hml, hown, hts⟩ hC ⟨va_cnB n9 hts (al_in hcd) rfl rfl rfl hlk (hts _ hini) hd hR, hnm, hts _ hin⟩ ⟨gP.blind, fun U hU hW => hM.pre hK hU hW⟩ rfl hn hls hst0 (lv_room hst) hdg hf) hM.2.1 (fun _ _ h => h) (fun _ h => h) (fun u t H1 locs1 ht hvm hp hB hz hk hS1 => kk u H1 locs1 hp ⟨by rw [← ht]; exact hB, hS1, hM.2.2⟩)
theorem g_callFi {st0 : List Value} {x : MethodName} {count : Nat} {cC : ClassId} (hx : p.tables.exec = Jvm.exec) (hb : c.code = cc) (hml : c.maxLocals = nL) (hls : ls.size = nL) (hown : s.vm.findClass own = some m.cls) (hts : ∀ w ∈ AL, w.before args s = true) (hK : Kw G s) (hM : Wd G M s H locs) {P : Int32 → HM → Prop} (hC : Mi l y (.code y bytes maxL ret :: AL) fr lo mc ms (.ref b :: As) G M P) (hat : ClassAt s C cC) (hF : va_Fw C x y s) (hlk : Cond.methodLink own index x ∈ AL) (hsel : Cond.selects C x y ∈ AL) (hin : Cond.instanceMethod y ∈ AL) (hini : Cond.initialized y.cls ∈ AL) (hcd : Cond.code y bytes maxL ret ∈ AL) (hd : okM x n9) (hrv : ∃ cell : Cell, H[b]? = some cell ∧ cell.vm.isStatics = false ∧ s.vm.findClass C = some cell.cls) (hR : fr + 1 ≤ R.frames ∧ 8 + (maxL + 11) + lo ≤ R.locals) (hf : cells + mc ≤ R.cells ∧ slots + ms ≤ R.slots) (hn : As.length = n9) (hst : (rest.map fun v => v.category).sum ≤ 8) (hst0 : st0 = As.reverse ++ .ref b :: rest) (hdg : decode cc pc = .ok (.invokeinterface index count, 5))
    (kk : ∀ (r : Int32) (M1 : HM) (H : Heap) (locs : List Loc), P r M1 → Wd G M1 s H locs → W p l e R s m args below meth c H locs (cells + mc) (slots + ms) Q (F0 m (pc + 5) ls (.int r :: rest))) : W p l e R s m args below meth c H locs cells slots Q (F0 m pc ls (st0)) :=
  va_callFi (va_runF (As := As) (rest := rest) hat ⟨hx, hb, hml, hown, hts⟩ hC (va_cwF n9 hts (fun w hw => by
    simp only [va_wsF, List.mem_append, List.mem_cons, List.not_mem_nil, or_false] at hw
    rcases hw with (rfl | rfl | rfl | rfl) | rfl | hw
    · exact ⟨hlk, al_gw _ hlk⟩
    · exact ⟨hsel, al_gw _ hsel⟩
    · exact ⟨hin, al_gw _ hin⟩
    · exact ⟨hini, al_gw _ hini⟩
    · exact ⟨hcd, al_gw _ hcd⟩
    · exact ⟨hw, al_gw _ hw⟩) rfl rfl rfl hF hd hR) ⟨gP.blind, hrv, fun U hU hW => hM.pre hK hU hW⟩ rfl hn hls hst0 (lv_room hst) hdg hf) hM.2.1 (fun _ _ h => h) (fun _ h => h) (fun r u t H1 locs1 ht hvm hp hB hz hk hS1 => kk r u H1 locs1 hp ⟨by rw [← ht]; exact hB, hS1, hM.2.2⟩)
theorem g_callFq {st0 : List Value} {x : MethodName} {count : Nat} {cC : ClassId} (hx : p.tables.exec = Jvm.exec) (hb : c.code = cc) (hml : c.maxLocals = nL) (hls : ls.size = nL) (hown : s.vm.findClass own = some m.cls) (hts : ∀ w ∈ AL, w.before args s = true) (hK : Kw G s) (hM : Wd G M s H locs) {P : Option Nat → HM → Prop} (hC : Mq l y (.code y bytes maxL ret :: AL) fr lo mc ms (.ref b :: As) G M P) (hat : ClassAt s C cC) (hF : va_Fw C x y s) (hlk : Cond.methodLink own index x ∈ AL) (hsel : Cond.selects C x y ∈ AL) (hin : Cond.instanceMethod y ∈ AL) (hini : Cond.initialized y.cls ∈ AL) (hcd : Cond.code y bytes maxL ret ∈ AL) (hd : okM x n9) (hrv : ∃ cell : Cell, H[b]? = some cell ∧ cell.vm.isStatics = false ∧ s.vm.findClass C = some cell.cls) (hR : fr + 1 ≤ R.frames ∧ 8 + (maxL + 11) + lo ≤ R.locals) (hf : cells + mc ≤ R.cells ∧ slots + ms ≤ R.slots) (hn : As.length = n9) (hst : (rest.map fun v => v.category).sum ≤ 8) (hst0 : st0 = As.reverse ++ .ref b :: rest) (hdg : decode cc pc = .ok (.invokeinterface index count, 5))
    (kk : ∀ (r : Option Nat) (M1 : HM) (H : Heap) (locs : List Loc), P r M1 → Wd G M1 s H locs → W p l e R s m args below meth c H locs (cells + mc) (slots + ms) Q (F0 m (pc + 5) ls (va_rf r :: rest))) : W p l e R s m args below meth c H locs cells slots Q (F0 m pc ls (st0)) :=
  va_callFq (va_runF (As := As) (rest := rest) hat ⟨hx, hb, hml, hown, hts⟩ hC (va_cwF n9 hts (fun w hw => by
    simp only [va_wsF, List.mem_append, List.mem_cons, List.not_mem_nil, or_false] at hw
    rcases hw with (rfl | rfl | rfl | rfl) | rfl | hw
    · exact ⟨hlk, al_gw _ hlk⟩
    · exact ⟨hsel, al_gw _ hsel⟩
    · exact ⟨hin, al_gw _ hin⟩
    · exact ⟨hini, al_gw _ hini⟩
    · exact ⟨hcd, al_gw _ hcd⟩
    · exact ⟨hw, al_gw _ hw⟩) rfl rfl rfl hF hd hR) ⟨gP.blind, hrv, fun U hU hW => hM.pre hK hU hW⟩ rfl hn hls hst0 (lv_room hst) hdg hf) hM.2.1 (fun _ _ h => h) (fun _ h => h) (fun r u t H1 locs1 ht hvm hp hB hz hk hS1 => kk r u H1 locs1 hp ⟨by rw [← ht]; exact hB, hS1, hM.2.2⟩)
end GC
end
section
def rw13 (v0 v1 v2 v3 v4 v5 v6 v7 v8 v9 v10 v11 v12 : Int32) : Nat → Int32 := fun k => match k with | 0 => v0 | 1 => v1 | 2 => v2 | 3 => v3 | 4 => v4 | 5 => v5 | 6 => v6 | 7 => v7 | 8 => v8 | 9 => v9 | 10 => v10 | 11 => v11 | 12 => v12 | _ => 0
def rw11 (v0 v1 v2 v3 v4 v5 v6 v7 v8 v9 v10 : Int32) : Nat → Int32 := fun k => match k with | 0 => v0 | 1 => v1 | 2 => v2 | 3 => v3 | 4 => v4 | 5 => v5 | 6 => v6 | 7 => v7 | 8 => v8 | 9 => v9 | 10 => v10 | _ => 0
def rw10 (v0 v1 v2 v3 v4 v5 v6 v7 v8 v9 : Int32) : Nat → Int32 := fun k => match k with | 0 => v0 | 1 => v1 | 2 => v2 | 3 => v3 | 4 => v4 | 5 => v5 | 6 => v6 | 7 => v7 | 8 => v8 | 9 => v9 | _ => 0
def rw8 (v0 v1 v2 v3 v4 v5 v6 v7 : Int32) : Nat → Int32 := fun k => match k with | 0 => v0 | 1 => v1 | 2 => v2 | 3 => v3 | 4 => v4 | 5 => v5 | 6 => v6 | 7 => v7 | _ => 0
def rw7 (v0 v1 v2 v3 v4 v5 v6 : Int32) : Nat → Int32 := fun k => match k with | 0 => v0 | 1 => v1 | 2 => v2 | 3 => v3 | 4 => v4 | 5 => v5 | 6 => v6 | _ => 0
def rw6 (v0 v1 v2 v3 v4 v5 : Int32) : Nat → Int32 := fun k => match k with | 0 => v0 | 1 => v1 | 2 => v2 | 3 => v3 | 4 => v4 | 5 => v5 | _ => 0
def rw4 (v0 v1 v2 v3 : Int32) : Nat → Int32 := fun k => match k with | 0 => v0 | 1 => v1 | 2 => v2 | 3 => v3 | _ => 0
theorem nz01 {v : Int32} (h : v = 0 ∨ v = 1) : narrow .boolean (.int v) = .int v := by
  rcases h with rfl | rfl <;> decide
theorem fz01 {v : Int32} (h : v = 0 ∨ v = 1) : fits .boolean (.int v) = true := by
  rcases h with rfl | rfl <;> decide
theorem ru4_0 (v0 v1 v2 v3 x : Int32) : upd (rw4 v0 v1 v2 v3) 0 x = rw4 x v1 v2 v3 := funext fun j => by
  by_cases h : j = 0
  · subst h; rfl
  · simp only [upd, if_neg h]
    unfold rw4
    split <;> first | rfl | exact absurd rfl h
theorem ru4_1 (v0 v1 v2 v3 x : Int32) : upd (rw4 v0 v1 v2 v3) 1 x = rw4 v0 x v2 v3 := funext fun j => by
  by_cases h : j = 1
  · subst h; rfl
  · simp only [upd, if_neg h]
    unfold rw4
    split <;> first | rfl | exact absurd rfl h
theorem ru4_2 (v0 v1 v2 v3 x : Int32) : upd (rw4 v0 v1 v2 v3) 2 x = rw4 v0 v1 x v3 := funext fun j => by
  by_cases h : j = 2
  · subst h; rfl
  · simp only [upd, if_neg h]
    unfold rw4
    split <;> first | rfl | exact absurd rfl h
theorem ru4_3 (v0 v1 v2 v3 x : Int32) : upd (rw4 v0 v1 v2 v3) 3 x = rw4 v0 v1 v2 x := funext fun j => by
  by_cases h : j = 3
  · subst h; rfl
  · simp only [upd, if_neg h]
    unfold rw4
    split <;> first | rfl | exact absurd rfl h
theorem ru6_0 (v0 v1 v2 v3 v4 v5 x : Int32) : upd (rw6 v0 v1 v2 v3 v4 v5) 0 x = rw6 x v1 v2 v3 v4 v5 := funext fun j => by
  by_cases h : j = 0
  · subst h; rfl
  · simp only [upd, if_neg h]
    unfold rw6
    split <;> first | rfl | exact absurd rfl h
theorem ru6_1 (v0 v1 v2 v3 v4 v5 x : Int32) : upd (rw6 v0 v1 v2 v3 v4 v5) 1 x = rw6 v0 x v2 v3 v4 v5 := funext fun j => by
  by_cases h : j = 1
  · subst h; rfl
  · simp only [upd, if_neg h]
    unfold rw6
    split <;> first | rfl | exact absurd rfl h
theorem ru6_2 (v0 v1 v2 v3 v4 v5 x : Int32) : upd (rw6 v0 v1 v2 v3 v4 v5) 2 x = rw6 v0 v1 x v3 v4 v5 := funext fun j => by
  by_cases h : j = 2
  · subst h; rfl
  · simp only [upd, if_neg h]
    unfold rw6
    split <;> first | rfl | exact absurd rfl h
theorem ru6_3 (v0 v1 v2 v3 v4 v5 x : Int32) : upd (rw6 v0 v1 v2 v3 v4 v5) 3 x = rw6 v0 v1 v2 x v4 v5 := funext fun j => by
  by_cases h : j = 3
  · subst h; rfl
  · simp only [upd, if_neg h]
    unfold rw6
    split <;> first | rfl | exact absurd rfl h
theorem ru6_4 (v0 v1 v2 v3 v4 v5 x : Int32) : upd (rw6 v0 v1 v2 v3 v4 v5) 4 x = rw6 v0 v1 v2 v3 x v5 := funext fun j => by
  by_cases h : j = 4
  · subst h; rfl
  · simp only [upd, if_neg h]
    unfold rw6
    split <;> first | rfl | exact absurd rfl h
theorem ru6_5 (v0 v1 v2 v3 v4 v5 x : Int32) : upd (rw6 v0 v1 v2 v3 v4 v5) 5 x = rw6 v0 v1 v2 v3 v4 x := funext fun j => by
  by_cases h : j = 5
  · subst h; rfl
  · simp only [upd, if_neg h]
    unfold rw6
    split <;> first | rfl | exact absurd rfl h
theorem ru7_0 (v0 v1 v2 v3 v4 v5 v6 x : Int32) : upd (rw7 v0 v1 v2 v3 v4 v5 v6) 0 x = rw7 x v1 v2 v3 v4 v5 v6 := funext fun j => by
  by_cases h : j = 0
  · subst h; rfl
  · simp only [upd, if_neg h]
    unfold rw7
    split <;> first | rfl | exact absurd rfl h
theorem ru7_1 (v0 v1 v2 v3 v4 v5 v6 x : Int32) : upd (rw7 v0 v1 v2 v3 v4 v5 v6) 1 x = rw7 v0 x v2 v3 v4 v5 v6 := funext fun j => by
  by_cases h : j = 1
  · subst h; rfl
  · simp only [upd, if_neg h]
    unfold rw7
    split <;> first | rfl | exact absurd rfl h
theorem ru7_2 (v0 v1 v2 v3 v4 v5 v6 x : Int32) : upd (rw7 v0 v1 v2 v3 v4 v5 v6) 2 x = rw7 v0 v1 x v3 v4 v5 v6 := funext fun j => by
  by_cases h : j = 2
  · subst h; rfl
  · simp only [upd, if_neg h]
    unfold rw7
    split <;> first | rfl | exact absurd rfl h
theorem ru7_3 (v0 v1 v2 v3 v4 v5 v6 x : Int32) : upd (rw7 v0 v1 v2 v3 v4 v5 v6) 3 x = rw7 v0 v1 v2 x v4 v5 v6 := funext fun j => by
  by_cases h : j = 3
  · subst h; rfl
  · simp only [upd, if_neg h]
    unfold rw7
    split <;> first | rfl | exact absurd rfl h
theorem ru7_4 (v0 v1 v2 v3 v4 v5 v6 x : Int32) : upd (rw7 v0 v1 v2 v3 v4 v5 v6) 4 x = rw7 v0 v1 v2 v3 x v5 v6 := funext fun j => by
  by_cases h : j = 4
  · subst h; rfl
  · simp only [upd, if_neg h]
    unfold rw7
    split <;> first | rfl | exact absurd rfl h
theorem ru7_5 (v0 v1 v2 v3 v4 v5 v6 x : Int32) : upd (rw7 v0 v1 v2 v3 v4 v5 v6) 5 x = rw7 v0 v1 v2 v3 v4 x v6 := funext fun j => by
  by_cases h : j = 5
  · subst h; rfl
  · simp only [upd, if_neg h]
    unfold rw7
    split <;> first | rfl | exact absurd rfl h
theorem ru7_6 (v0 v1 v2 v3 v4 v5 v6 x : Int32) : upd (rw7 v0 v1 v2 v3 v4 v5 v6) 6 x = rw7 v0 v1 v2 v3 v4 v5 x := funext fun j => by
  by_cases h : j = 6
  · subst h; rfl
  · simp only [upd, if_neg h]
    unfold rw7
    split <;> first | rfl | exact absurd rfl h
theorem ru8_0 (v0 v1 v2 v3 v4 v5 v6 v7 x : Int32) : upd (rw8 v0 v1 v2 v3 v4 v5 v6 v7) 0 x = rw8 x v1 v2 v3 v4 v5 v6 v7 := funext fun j => by
  by_cases h : j = 0
  · subst h; rfl
  · simp only [upd, if_neg h]
    unfold rw8
    split <;> first | rfl | exact absurd rfl h
theorem ru8_1 (v0 v1 v2 v3 v4 v5 v6 v7 x : Int32) : upd (rw8 v0 v1 v2 v3 v4 v5 v6 v7) 1 x = rw8 v0 x v2 v3 v4 v5 v6 v7 := funext fun j => by
  by_cases h : j = 1
  · subst h; rfl
  · simp only [upd, if_neg h]
    unfold rw8
    split <;> first | rfl | exact absurd rfl h
theorem ru8_2 (v0 v1 v2 v3 v4 v5 v6 v7 x : Int32) : upd (rw8 v0 v1 v2 v3 v4 v5 v6 v7) 2 x = rw8 v0 v1 x v3 v4 v5 v6 v7 := funext fun j => by
  by_cases h : j = 2
  · subst h; rfl
  · simp only [upd, if_neg h]
    unfold rw8
    split <;> first | rfl | exact absurd rfl h
theorem ru8_3 (v0 v1 v2 v3 v4 v5 v6 v7 x : Int32) : upd (rw8 v0 v1 v2 v3 v4 v5 v6 v7) 3 x = rw8 v0 v1 v2 x v4 v5 v6 v7 := funext fun j => by
  by_cases h : j = 3
  · subst h; rfl
  · simp only [upd, if_neg h]
    unfold rw8
    split <;> first | rfl | exact absurd rfl h
theorem ru8_4 (v0 v1 v2 v3 v4 v5 v6 v7 x : Int32) : upd (rw8 v0 v1 v2 v3 v4 v5 v6 v7) 4 x = rw8 v0 v1 v2 v3 x v5 v6 v7 := funext fun j => by
  by_cases h : j = 4
  · subst h; rfl
  · simp only [upd, if_neg h]
    unfold rw8
    split <;> first | rfl | exact absurd rfl h
theorem ru8_5 (v0 v1 v2 v3 v4 v5 v6 v7 x : Int32) : upd (rw8 v0 v1 v2 v3 v4 v5 v6 v7) 5 x = rw8 v0 v1 v2 v3 v4 x v6 v7 := funext fun j => by
  by_cases h : j = 5
  · subst h; rfl
  · simp only [upd, if_neg h]
    unfold rw8
    split <;> first | rfl | exact absurd rfl h
theorem ru8_6 (v0 v1 v2 v3 v4 v5 v6 v7 x : Int32) : upd (rw8 v0 v1 v2 v3 v4 v5 v6 v7) 6 x = rw8 v0 v1 v2 v3 v4 v5 x v7 := funext fun j => by
  by_cases h : j = 6
  · subst h; rfl
  · simp only [upd, if_neg h]
    unfold rw8
    split <;> first | rfl | exact absurd rfl h
theorem ru8_7 (v0 v1 v2 v3 v4 v5 v6 v7 x : Int32) : upd (rw8 v0 v1 v2 v3 v4 v5 v6 v7) 7 x = rw8 v0 v1 v2 v3 v4 v5 v6 x := funext fun j => by
  by_cases h : j = 7
  · subst h; rfl
  · simp only [upd, if_neg h]
    unfold rw8
    split <;> first | rfl | exact absurd rfl h
theorem ru10_0 (v0 v1 v2 v3 v4 v5 v6 v7 v8 v9 x : Int32) : upd (rw10 v0 v1 v2 v3 v4 v5 v6 v7 v8 v9) 0 x = rw10 x v1 v2 v3 v4 v5 v6 v7 v8 v9 := funext fun j => by
  by_cases h : j = 0
  · subst h; rfl
  · simp only [upd, if_neg h]
    unfold rw10
    split <;> first | rfl | exact absurd rfl h
theorem ru10_1 (v0 v1 v2 v3 v4 v5 v6 v7 v8 v9 x : Int32) : upd (rw10 v0 v1 v2 v3 v4 v5 v6 v7 v8 v9) 1 x = rw10 v0 x v2 v3 v4 v5 v6 v7 v8 v9 := funext fun j => by
  by_cases h : j = 1
  · subst h; rfl
  · simp only [upd, if_neg h]
    unfold rw10
    split <;> first | rfl | exact absurd rfl h
theorem ru10_2 (v0 v1 v2 v3 v4 v5 v6 v7 v8 v9 x : Int32) : upd (rw10 v0 v1 v2 v3 v4 v5 v6 v7 v8 v9) 2 x = rw10 v0 v1 x v3 v4 v5 v6 v7 v8 v9 := funext fun j => by
  by_cases h : j = 2
  · subst h; rfl
  · simp only [upd, if_neg h]
    unfold rw10
    split <;> first | rfl | exact absurd rfl h
theorem ru10_3 (v0 v1 v2 v3 v4 v5 v6 v7 v8 v9 x : Int32) : upd (rw10 v0 v1 v2 v3 v4 v5 v6 v7 v8 v9) 3 x = rw10 v0 v1 v2 x v4 v5 v6 v7 v8 v9 := funext fun j => by
  by_cases h : j = 3
  · subst h; rfl
  · simp only [upd, if_neg h]
    unfold rw10
    split <;> first | rfl | exact absurd rfl h
theorem ru10_4 (v0 v1 v2 v3 v4 v5 v6 v7 v8 v9 x : Int32) : upd (rw10 v0 v1 v2 v3 v4 v5 v6 v7 v8 v9) 4 x = rw10 v0 v1 v2 v3 x v5 v6 v7 v8 v9 := funext fun j => by
  by_cases h : j = 4
  · subst h; rfl
  · simp only [upd, if_neg h]
    unfold rw10
    split <;> first | rfl | exact absurd rfl h
theorem ru10_5 (v0 v1 v2 v3 v4 v5 v6 v7 v8 v9 x : Int32) : upd (rw10 v0 v1 v2 v3 v4 v5 v6 v7 v8 v9) 5 x = rw10 v0 v1 v2 v3 v4 x v6 v7 v8 v9 := funext fun j => by
  by_cases h : j = 5
  · subst h; rfl
  · simp only [upd, if_neg h]
    unfold rw10
    split <;> first | rfl | exact absurd rfl h
theorem ru10_6 (v0 v1 v2 v3 v4 v5 v6 v7 v8 v9 x : Int32) : upd (rw10 v0 v1 v2 v3 v4 v5 v6 v7 v8 v9) 6 x = rw10 v0 v1 v2 v3 v4 v5 x v7 v8 v9 := funext fun j => by
  by_cases h : j = 6
  · subst h; rfl
  · simp only [upd, if_neg h]
    unfold rw10
    split <;> first | rfl | exact absurd rfl h
theorem ru10_7 (v0 v1 v2 v3 v4 v5 v6 v7 v8 v9 x : Int32) : upd (rw10 v0 v1 v2 v3 v4 v5 v6 v7 v8 v9) 7 x = rw10 v0 v1 v2 v3 v4 v5 v6 x v8 v9 := funext fun j => by
  by_cases h : j = 7
  · subst h; rfl
  · simp only [upd, if_neg h]
    unfold rw10
    split <;> first | rfl | exact absurd rfl h
theorem ru10_8 (v0 v1 v2 v3 v4 v5 v6 v7 v8 v9 x : Int32) : upd (rw10 v0 v1 v2 v3 v4 v5 v6 v7 v8 v9) 8 x = rw10 v0 v1 v2 v3 v4 v5 v6 v7 x v9 := funext fun j => by
  by_cases h : j = 8
  · subst h; rfl
  · simp only [upd, if_neg h]
    unfold rw10
    split <;> first | rfl | exact absurd rfl h
theorem ru10_9 (v0 v1 v2 v3 v4 v5 v6 v7 v8 v9 x : Int32) : upd (rw10 v0 v1 v2 v3 v4 v5 v6 v7 v8 v9) 9 x = rw10 v0 v1 v2 v3 v4 v5 v6 v7 v8 x := funext fun j => by
  by_cases h : j = 9
  · subst h; rfl
  · simp only [upd, if_neg h]
    unfold rw10
    split <;> first | rfl | exact absurd rfl h
theorem ru11_0 (v0 v1 v2 v3 v4 v5 v6 v7 v8 v9 v10 x : Int32) : upd (rw11 v0 v1 v2 v3 v4 v5 v6 v7 v8 v9 v10) 0 x = rw11 x v1 v2 v3 v4 v5 v6 v7 v8 v9 v10 := funext fun j => by
  by_cases h : j = 0
  · subst h; rfl
  · simp only [upd, if_neg h]
    unfold rw11
    split <;> first | rfl | exact absurd rfl h
theorem ru11_1 (v0 v1 v2 v3 v4 v5 v6 v7 v8 v9 v10 x : Int32) : upd (rw11 v0 v1 v2 v3 v4 v5 v6 v7 v8 v9 v10) 1 x = rw11 v0 x v2 v3 v4 v5 v6 v7 v8 v9 v10 := funext fun j => by
  by_cases h : j = 1
  · subst h; rfl
  · simp only [upd, if_neg h]
    unfold rw11
    split <;> first | rfl | exact absurd rfl h
theorem ru11_2 (v0 v1 v2 v3 v4 v5 v6 v7 v8 v9 v10 x : Int32) : upd (rw11 v0 v1 v2 v3 v4 v5 v6 v7 v8 v9 v10) 2 x = rw11 v0 v1 x v3 v4 v5 v6 v7 v8 v9 v10 := funext fun j => by
  by_cases h : j = 2
  · subst h; rfl
  · simp only [upd, if_neg h]
    unfold rw11
    split <;> first | rfl | exact absurd rfl h
theorem ru11_3 (v0 v1 v2 v3 v4 v5 v6 v7 v8 v9 v10 x : Int32) : upd (rw11 v0 v1 v2 v3 v4 v5 v6 v7 v8 v9 v10) 3 x = rw11 v0 v1 v2 x v4 v5 v6 v7 v8 v9 v10 := funext fun j => by
  by_cases h : j = 3
  · subst h; rfl
  · simp only [upd, if_neg h]
    unfold rw11
    split <;> first | rfl | exact absurd rfl h
theorem ru11_4 (v0 v1 v2 v3 v4 v5 v6 v7 v8 v9 v10 x : Int32) : upd (rw11 v0 v1 v2 v3 v4 v5 v6 v7 v8 v9 v10) 4 x = rw11 v0 v1 v2 v3 x v5 v6 v7 v8 v9 v10 := funext fun j => by
  by_cases h : j = 4
  · subst h; rfl
  · simp only [upd, if_neg h]
    unfold rw11
    split <;> first | rfl | exact absurd rfl h
theorem ru11_5 (v0 v1 v2 v3 v4 v5 v6 v7 v8 v9 v10 x : Int32) : upd (rw11 v0 v1 v2 v3 v4 v5 v6 v7 v8 v9 v10) 5 x = rw11 v0 v1 v2 v3 v4 x v6 v7 v8 v9 v10 := funext fun j => by
  by_cases h : j = 5
  · subst h; rfl
  · simp only [upd, if_neg h]
    unfold rw11
    split <;> first | rfl | exact absurd rfl h
theorem ru11_6 (v0 v1 v2 v3 v4 v5 v6 v7 v8 v9 v10 x : Int32) : upd (rw11 v0 v1 v2 v3 v4 v5 v6 v7 v8 v9 v10) 6 x = rw11 v0 v1 v2 v3 v4 v5 x v7 v8 v9 v10 := funext fun j => by
  by_cases h : j = 6
  · subst h; rfl
  · simp only [upd, if_neg h]
    unfold rw11
    split <;> first | rfl | exact absurd rfl h
theorem ru11_7 (v0 v1 v2 v3 v4 v5 v6 v7 v8 v9 v10 x : Int32) : upd (rw11 v0 v1 v2 v3 v4 v5 v6 v7 v8 v9 v10) 7 x = rw11 v0 v1 v2 v3 v4 v5 v6 x v8 v9 v10 := funext fun j => by
  by_cases h : j = 7
  · subst h; rfl
  · simp only [upd, if_neg h]
    unfold rw11
    split <;> first | rfl | exact absurd rfl h
theorem ru11_8 (v0 v1 v2 v3 v4 v5 v6 v7 v8 v9 v10 x : Int32) : upd (rw11 v0 v1 v2 v3 v4 v5 v6 v7 v8 v9 v10) 8 x = rw11 v0 v1 v2 v3 v4 v5 v6 v7 x v9 v10 := funext fun j => by
  by_cases h : j = 8
  · subst h; rfl
  · simp only [upd, if_neg h]
    unfold rw11
    split <;> first | rfl | exact absurd rfl h
theorem ru11_9 (v0 v1 v2 v3 v4 v5 v6 v7 v8 v9 v10 x : Int32) : upd (rw11 v0 v1 v2 v3 v4 v5 v6 v7 v8 v9 v10) 9 x = rw11 v0 v1 v2 v3 v4 v5 v6 v7 v8 x v10 := funext fun j => by
  by_cases h : j = 9
  · subst h; rfl
  · simp only [upd, if_neg h]
    unfold rw11
    split <;> first | rfl | exact absurd rfl h
theorem ru11_10 (v0 v1 v2 v3 v4 v5 v6 v7 v8 v9 v10 x : Int32) : upd (rw11 v0 v1 v2 v3 v4 v5 v6 v7 v8 v9 v10) 10 x = rw11 v0 v1 v2 v3 v4 v5 v6 v7 v8 v9 x := funext fun j => by
  by_cases h : j = 10
  · subst h; rfl
  · simp only [upd, if_neg h]
    unfold rw11
    split <;> first | rfl | exact absurd rfl h
theorem ru13_0 (v0 v1 v2 v3 v4 v5 v6 v7 v8 v9 v10 v11 v12 x : Int32) : upd (rw13 v0 v1 v2 v3 v4 v5 v6 v7 v8 v9 v10 v11 v12) 0 x = rw13 x v1 v2 v3 v4 v5 v6 v7 v8 v9 v10 v11 v12 := funext fun j => by
  by_cases h : j = 0
  · subst h; rfl
  · simp only [upd, if_neg h]
    unfold rw13
    split <;> first | rfl | exact absurd rfl h
theorem ru13_1 (v0 v1 v2 v3 v4 v5 v6 v7 v8 v9 v10 v11 v12 x : Int32) : upd (rw13 v0 v1 v2 v3 v4 v5 v6 v7 v8 v9 v10 v11 v12) 1 x = rw13 v0 x v2 v3 v4 v5 v6 v7 v8 v9 v10 v11 v12 := funext fun j => by
  by_cases h : j = 1
  · subst h; rfl
  · simp only [upd, if_neg h]
    unfold rw13
    split <;> first | rfl | exact absurd rfl h
theorem ru13_2 (v0 v1 v2 v3 v4 v5 v6 v7 v8 v9 v10 v11 v12 x : Int32) : upd (rw13 v0 v1 v2 v3 v4 v5 v6 v7 v8 v9 v10 v11 v12) 2 x = rw13 v0 v1 x v3 v4 v5 v6 v7 v8 v9 v10 v11 v12 := funext fun j => by
  by_cases h : j = 2
  · subst h; rfl
  · simp only [upd, if_neg h]
    unfold rw13
    split <;> first | rfl | exact absurd rfl h
theorem ru13_3 (v0 v1 v2 v3 v4 v5 v6 v7 v8 v9 v10 v11 v12 x : Int32) : upd (rw13 v0 v1 v2 v3 v4 v5 v6 v7 v8 v9 v10 v11 v12) 3 x = rw13 v0 v1 v2 x v4 v5 v6 v7 v8 v9 v10 v11 v12 := funext fun j => by
  by_cases h : j = 3
  · subst h; rfl
  · simp only [upd, if_neg h]
    unfold rw13
    split <;> first | rfl | exact absurd rfl h
theorem ru13_4 (v0 v1 v2 v3 v4 v5 v6 v7 v8 v9 v10 v11 v12 x : Int32) : upd (rw13 v0 v1 v2 v3 v4 v5 v6 v7 v8 v9 v10 v11 v12) 4 x = rw13 v0 v1 v2 v3 x v5 v6 v7 v8 v9 v10 v11 v12 := funext fun j => by
  by_cases h : j = 4
  · subst h; rfl
  · simp only [upd, if_neg h]
    unfold rw13
    split <;> first | rfl | exact absurd rfl h
theorem ru13_5 (v0 v1 v2 v3 v4 v5 v6 v7 v8 v9 v10 v11 v12 x : Int32) : upd (rw13 v0 v1 v2 v3 v4 v5 v6 v7 v8 v9 v10 v11 v12) 5 x = rw13 v0 v1 v2 v3 v4 x v6 v7 v8 v9 v10 v11 v12 := funext fun j => by
  by_cases h : j = 5
  · subst h; rfl
  · simp only [upd, if_neg h]
    unfold rw13
    split <;> first | rfl | exact absurd rfl h
theorem ru13_6 (v0 v1 v2 v3 v4 v5 v6 v7 v8 v9 v10 v11 v12 x : Int32) : upd (rw13 v0 v1 v2 v3 v4 v5 v6 v7 v8 v9 v10 v11 v12) 6 x = rw13 v0 v1 v2 v3 v4 v5 x v7 v8 v9 v10 v11 v12 := funext fun j => by
  by_cases h : j = 6
  · subst h; rfl
  · simp only [upd, if_neg h]
    unfold rw13
    split <;> first | rfl | exact absurd rfl h
theorem ru13_7 (v0 v1 v2 v3 v4 v5 v6 v7 v8 v9 v10 v11 v12 x : Int32) : upd (rw13 v0 v1 v2 v3 v4 v5 v6 v7 v8 v9 v10 v11 v12) 7 x = rw13 v0 v1 v2 v3 v4 v5 v6 x v8 v9 v10 v11 v12 := funext fun j => by
  by_cases h : j = 7
  · subst h; rfl
  · simp only [upd, if_neg h]
    unfold rw13
    split <;> first | rfl | exact absurd rfl h
theorem ru13_8 (v0 v1 v2 v3 v4 v5 v6 v7 v8 v9 v10 v11 v12 x : Int32) : upd (rw13 v0 v1 v2 v3 v4 v5 v6 v7 v8 v9 v10 v11 v12) 8 x = rw13 v0 v1 v2 v3 v4 v5 v6 v7 x v9 v10 v11 v12 := funext fun j => by
  by_cases h : j = 8
  · subst h; rfl
  · simp only [upd, if_neg h]
    unfold rw13
    split <;> first | rfl | exact absurd rfl h
theorem ru13_9 (v0 v1 v2 v3 v4 v5 v6 v7 v8 v9 v10 v11 v12 x : Int32) : upd (rw13 v0 v1 v2 v3 v4 v5 v6 v7 v8 v9 v10 v11 v12) 9 x = rw13 v0 v1 v2 v3 v4 v5 v6 v7 v8 x v10 v11 v12 := funext fun j => by
  by_cases h : j = 9
  · subst h; rfl
  · simp only [upd, if_neg h]
    unfold rw13
    split <;> first | rfl | exact absurd rfl h
theorem ru13_10 (v0 v1 v2 v3 v4 v5 v6 v7 v8 v9 v10 v11 v12 x : Int32) : upd (rw13 v0 v1 v2 v3 v4 v5 v6 v7 v8 v9 v10 v11 v12) 10 x = rw13 v0 v1 v2 v3 v4 v5 v6 v7 v8 v9 x v11 v12 := funext fun j => by
  by_cases h : j = 10
  · subst h; rfl
  · simp only [upd, if_neg h]
    unfold rw13
    split <;> first | rfl | exact absurd rfl h
theorem ru13_11 (v0 v1 v2 v3 v4 v5 v6 v7 v8 v9 v10 v11 v12 x : Int32) : upd (rw13 v0 v1 v2 v3 v4 v5 v6 v7 v8 v9 v10 v11 v12) 11 x = rw13 v0 v1 v2 v3 v4 v5 v6 v7 v8 v9 v10 x v12 := funext fun j => by
  by_cases h : j = 11
  · subst h; rfl
  · simp only [upd, if_neg h]
    unfold rw13
    split <;> first | rfl | exact absurd rfl h
theorem ru13_12 (v0 v1 v2 v3 v4 v5 v6 v7 v8 v9 v10 v11 v12 x : Int32) : upd (rw13 v0 v1 v2 v3 v4 v5 v6 v7 v8 v9 v10 v11 v12) 12 x = rw13 v0 v1 v2 v3 v4 v5 v6 v7 v8 v9 v10 v11 x := funext fun j => by
  by_cases h : j = 12
  · subst h; rfl
  · simp only [upd, if_neg h]
    unfold rw13
    split <;> first | rfl | exact absurd rfl h
section GF
variable {p : Program} {l : Launch} {e : Env} {R : Room} {s : State} {m : MethodId} {args : Array Value} {below : List Frame} {meth : Method} {c : Code} {H : Heap} {locs : List Loc} {cells slots : Nat} {Q : State → Prop}
variable {cc : ByteArray} {pc a r : Nat} {ls : Array Slot} {rest : List Value} {G : GG} {M : HM}
theorem fg_Jx4a65c_9 {v0 v1 v2 : Value} (hx : p.tables.exec = Jvm.exec) (hb : c.code = cc) (hts : ∀ w ∈ AL, w.before args s = true) (hown : s.vm.findClass RJx4a65c = some m.cls) (hK : Kw G s) (hM : Wd G M s H locs) (ha : M a = some (r, .inr (0, [v0, v1, v2]))) (hdg : decode cc pc = .ok (.getfield 9, 3)) (kk : W p l e R s m args below meth c H locs cells slots Q (F0 m (pc + 3) ls (v1 :: rest))) : W p l e R s m args below meth c H locs cells slots Q (F0 m pc ls (.ref a :: rest)) :=
  g_get (own := RJx4a65c) (ref := "java/util/ArrayList") (C := RJx4a65c) (T := TJx4a65c) (N := 3) (ci := 0) (index := 9) hx hb hts hown hK hM iaJx4a65c rfl 1 (by decide) wf_Jx4a65c_9 (fun _ h => h) ha rfl hdg kk
theorem fg_Jx4a65c_48 {v0 v1 v2 : Value} (hx : p.tables.exec = Jvm.exec) (hb : c.code = cc) (hts : ∀ w ∈ AL, w.before args s = true) (hown : s.vm.findClass RJx4a65c = some m.cls) (hK : Kw G s) (hM : Wd G M s H locs) (ha : M a = some (r, .inr (0, [v0, v1, v2]))) (hdg : decode cc pc = .ok (.getfield 48, 3)) (kk : W p l e R s m args below meth c H locs cells slots Q (F0 m (pc + 3) ls (v2 :: rest))) : W p l e R s m args below meth c H locs cells slots Q (F0 m pc ls (.ref a :: rest)) :=
  g_get (own := RJx4a65c) (ref := "java/util/ArrayList") (C := RJx4a65c) (T := TJx4a65c) (N := 3) (ci := 0) (index := 48) hx hb hts hown hK hM iaJx4a65c rfl 2 (by decide) wf_Jx4a65c_48 (fun _ h => h) ha rfl hdg kk
theorem fg_Jx4a65c_63 {v0 v1 v2 : Value} (hx : p.tables.exec = Jvm.exec) (hb : c.code = cc) (hts : ∀ w ∈ AL, w.before args s = true) (hown : s.vm.findClass RJx4a65c = some m.cls) (hK : Kw G s) (hM : Wd G M s H locs) (ha : M a = some (r, .inr (0, [v0, v1, v2]))) (hdg : decode cc pc = .ok (.getfield 63, 3)) (kk : W p l e R s m args below meth c H locs cells slots Q (F0 m (pc + 3) ls (v0 :: rest))) : W p l e R s m args below meth c H locs cells slots Q (F0 m pc ls (.ref a :: rest)) :=
  g_get (own := RJx4a65c) (ref := "java/util/ArrayList") (C := RJx4a65c) (T := TJx4a65c) (N := 3) (ci := 0) (index := 63) hx hb hts hown hK hM iaJx4a65c rfl 0 (by decide) wf_Jx4a65c_63 (fun x9 h9 => u_same (hts _ ws_java_util_ArrayList_java_util_AbstractList_modCount_I) x9 h9) ha rfl hdg kk
theorem fg_L_14 {v0 v1 v2 v3 v4 v5 v6 v7 v8 v9 v10 v11 : Value} (hx : p.tables.exec = Jvm.exec) (hb : c.code = cc) (hts : ∀ w ∈ AL, w.before args s = true) (hown : s.vm.findClass RL = some m.cls) (hK : Kw G s) (hM : Wd G M s H locs) (ha : M a = some (r, .inr (8, [v0, v1, v2, v3, v4, v5, v6, v7, v8, v9, v10, v11]))) (hdg : decode cc pc = .ok (.getfield 14, 3)) (kk : W p l e R s m args below meth c H locs cells slots Q (F0 m (pc + 3) ls (v0 :: rest))) : W p l e R s m args below meth c H locs cells slots Q (F0 m pc ls (.ref a :: rest)) :=
  g_get (own := RL) (ref := "WheatRunLaw$Told") (C := RX7) (T := TX7) (N := 12) (ci := 8) (index := 14) hx hb hts hown hK hM iaX7 rfl 0 (by decide) wf_L_14 (fun _ h => h) ha rfl hdg kk
theorem fg_L_60 {v0 v1 v2 v3 v4 v5 v6 v7 v8 v9 v10 v11 : Value} (hx : p.tables.exec = Jvm.exec) (hb : c.code = cc) (hts : ∀ w ∈ AL, w.before args s = true) (hown : s.vm.findClass RL = some m.cls) (hK : Kw G s) (hM : Wd G M s H locs) (ha : M a = some (r, .inr (8, [v0, v1, v2, v3, v4, v5, v6, v7, v8, v9, v10, v11]))) (hdg : decode cc pc = .ok (.getfield 60, 3)) (kk : W p l e R s m args below meth c H locs cells slots Q (F0 m (pc + 3) ls (v3 :: rest))) : W p l e R s m args below meth c H locs cells slots Q (F0 m pc ls (.ref a :: rest)) :=
  g_get (own := RL) (ref := "WheatRunLaw$Told") (C := RX7) (T := TX7) (N := 12) (ci := 8) (index := 60) hx hb hts hown hK hM iaX7 rfl 3 (by decide) wf_L_60 (fun _ h => h) ha rfl hdg kk
theorem fg_X0_9 {v0 v1 v2 v3 v4 v5 v6 v7 v8 v9 v10 v11 : Value} (hx : p.tables.exec = Jvm.exec) (hb : c.code = cc) (hts : ∀ w ∈ AL, w.before args s = true) (hown : s.vm.findClass RX0 = some m.cls) (hK : Kw G s) (hM : Wd G M s H locs) (ha : M a = some (r, .inr (1, [v0, v1, v2, v3, v4, v5, v6, v7, v8, v9, v10, v11]))) (hdg : decode cc pc = .ok (.getfield 9, 3)) (kk : W p l e R s m args below meth c H locs cells slots Q (F0 m (pc + 3) ls (v4 :: rest))) : W p l e R s m args below meth c H locs cells slots Q (F0 m pc ls (.ref a :: rest)) :=
  g_get (own := RX0) (ref := "WheatRun$Combine") (C := RX0) (T := TX0) (N := 12) (ci := 1) (index := 9) hx hb hts hown hK hM iaX0 rfl 4 (by decide) wf_X0_9 (fun _ h => h) ha rfl hdg kk
theorem fg_X0_15 {v0 v1 v2 v3 v4 v5 v6 v7 v8 v9 v10 v11 : Value} (hx : p.tables.exec = Jvm.exec) (hb : c.code = cc) (hts : ∀ w ∈ AL, w.before args s = true) (hown : s.vm.findClass RX0 = some m.cls) (hK : Kw G s) (hM : Wd G M s H locs) (ha : M a = some (r, .inr (1, [v0, v1, v2, v3, v4, v5, v6, v7, v8, v9, v10, v11]))) (hdg : decode cc pc = .ok (.getfield 15, 3)) (kk : W p l e R s m args below meth c H locs cells slots Q (F0 m (pc + 3) ls (v9 :: rest))) : W p l e R s m args below meth c H locs cells slots Q (F0 m pc ls (.ref a :: rest)) :=
  g_get (own := RX0) (ref := "WheatRun$Combine") (C := RX0) (T := TX0) (N := 12) (ci := 1) (index := 15) hx hb hts hown hK hM iaX0 rfl 9 (by decide) wf_X0_15 (fun _ h => h) ha rfl hdg kk
theorem fg_X0_18 {v0 v1 v2 v3 v4 v5 v6 v7 v8 v9 v10 v11 : Value} (hx : p.tables.exec = Jvm.exec) (hb : c.code = cc) (hts : ∀ w ∈ AL, w.before args s = true) (hown : s.vm.findClass RX0 = some m.cls) (hK : Kw G s) (hM : Wd G M s H locs) (ha : M a = some (r, .inr (1, [v0, v1, v2, v3, v4, v5, v6, v7, v8, v9, v10, v11]))) (hdg : decode cc pc = .ok (.getfield 18, 3)) (kk : W p l e R s m args below meth c H locs cells slots Q (F0 m (pc + 3) ls (v0 :: rest))) : W p l e R s m args below meth c H locs cells slots Q (F0 m pc ls (.ref a :: rest)) :=
  g_get (own := RX0) (ref := "WheatRun$Combine") (C := RX0) (T := TX0) (N := 12) (ci := 1) (index := 18) hx hb hts hown hK hM iaX0 rfl 0 (by decide) wf_X0_18 (fun _ h => h) ha rfl hdg kk
theorem fg_X0_21 {v0 v1 v2 v3 v4 v5 v6 v7 v8 v9 v10 v11 : Value} (hx : p.tables.exec = Jvm.exec) (hb : c.code = cc) (hts : ∀ w ∈ AL, w.before args s = true) (hown : s.vm.findClass RX0 = some m.cls) (hK : Kw G s) (hM : Wd G M s H locs) (ha : M a = some (r, .inr (1, [v0, v1, v2, v3, v4, v5, v6, v7, v8, v9, v10, v11]))) (hdg : decode cc pc = .ok (.getfield 21, 3)) (kk : W p l e R s m args below meth c H locs cells slots Q (F0 m (pc + 3) ls (v1 :: rest))) : W p l e R s m args below meth c H locs cells slots Q (F0 m pc ls (.ref a :: rest)) :=
  g_get (own := RX0) (ref := "WheatRun$Combine") (C := RX0) (T := TX0) (N := 12) (ci := 1) (index := 21) hx hb hts hown hK hM iaX0 rfl 1 (by decide) wf_X0_21 (fun _ h => h) ha rfl hdg kk
theorem fg_X0_24 {v0 v1 v2 v3 v4 v5 v6 v7 v8 v9 v10 v11 : Value} (hx : p.tables.exec = Jvm.exec) (hb : c.code = cc) (hts : ∀ w ∈ AL, w.before args s = true) (hown : s.vm.findClass RX0 = some m.cls) (hK : Kw G s) (hM : Wd G M s H locs) (ha : M a = some (r, .inr (1, [v0, v1, v2, v3, v4, v5, v6, v7, v8, v9, v10, v11]))) (hdg : decode cc pc = .ok (.getfield 24, 3)) (kk : W p l e R s m args below meth c H locs cells slots Q (F0 m (pc + 3) ls (v2 :: rest))) : W p l e R s m args below meth c H locs cells slots Q (F0 m pc ls (.ref a :: rest)) :=
  g_get (own := RX0) (ref := "WheatRun$Combine") (C := RX0) (T := TX0) (N := 12) (ci := 1) (index := 24) hx hb hts hown hK hM iaX0 rfl 2 (by decide) wf_X0_24 (fun _ h => h) ha rfl hdg kk
theorem fg_X0_27 {v0 v1 v2 v3 v4 v5 v6 v7 v8 v9 v10 v11 : Value} (hx : p.tables.exec = Jvm.exec) (hb : c.code = cc) (hts : ∀ w ∈ AL, w.before args s = true) (hown : s.vm.findClass RX0 = some m.cls) (hK : Kw G s) (hM : Wd G M s H locs) (ha : M a = some (r, .inr (1, [v0, v1, v2, v3, v4, v5, v6, v7, v8, v9, v10, v11]))) (hdg : decode cc pc = .ok (.getfield 27, 3)) (kk : W p l e R s m args below meth c H locs cells slots Q (F0 m (pc + 3) ls (v3 :: rest))) : W p l e R s m args below meth c H locs cells slots Q (F0 m pc ls (.ref a :: rest)) :=
  g_get (own := RX0) (ref := "WheatRun$Combine") (C := RX0) (T := TX0) (N := 12) (ci := 1) (index := 27) hx hb hts hown hK hM iaX0 rfl 3 (by decide) wf_X0_27 (fun _ h => h) ha rfl hdg kk
theorem fg_X0_30 {v0 v1 v2 v3 v4 v5 v6 v7 v8 v9 v10 v11 : Value} (hx : p.tables.exec = Jvm.exec) (hb : c.code = cc) (hts : ∀ w ∈ AL, w.before args s = true) (hown : s.vm.findClass RX0 = some m.cls) (hK : Kw G s) (hM : Wd G M s H locs) (ha : M a = some (r, .inr (1, [v0, v1, v2, v3, v4, v5, v6, v7, v8, v9, v10, v11]))) (hdg : decode cc pc = .ok (.getfield 30, 3)) (kk : W p l e R s m args below meth c H locs cells slots Q (F0 m (pc + 3) ls (v5 :: rest))) : W p l e R s m args below meth c H locs cells slots Q (F0 m pc ls (.ref a :: rest)) :=
  g_get (own := RX0) (ref := "WheatRun$Combine") (C := RX0) (T := TX0) (N := 12) (ci := 1) (index := 30) hx hb hts hown hK hM iaX0 rfl 5 (by decide) wf_X0_30 (fun _ h => h) ha rfl hdg kk
theorem fg_X0_33 {v0 v1 v2 v3 v4 v5 v6 v7 v8 v9 v10 v11 : Value} (hx : p.tables.exec = Jvm.exec) (hb : c.code = cc) (hts : ∀ w ∈ AL, w.before args s = true) (hown : s.vm.findClass RX0 = some m.cls) (hK : Kw G s) (hM : Wd G M s H locs) (ha : M a = some (r, .inr (1, [v0, v1, v2, v3, v4, v5, v6, v7, v8, v9, v10, v11]))) (hdg : decode cc pc = .ok (.getfield 33, 3)) (kk : W p l e R s m args below meth c H locs cells slots Q (F0 m (pc + 3) ls (v6 :: rest))) : W p l e R s m args below meth c H locs cells slots Q (F0 m pc ls (.ref a :: rest)) :=
  g_get (own := RX0) (ref := "WheatRun$Combine") (C := RX0) (T := TX0) (N := 12) (ci := 1) (index := 33) hx hb hts hown hK hM iaX0 rfl 6 (by decide) wf_X0_33 (fun _ h => h) ha rfl hdg kk
theorem fg_X0_36 {v0 v1 v2 v3 v4 v5 v6 v7 v8 v9 v10 v11 : Value} (hx : p.tables.exec = Jvm.exec) (hb : c.code = cc) (hts : ∀ w ∈ AL, w.before args s = true) (hown : s.vm.findClass RX0 = some m.cls) (hK : Kw G s) (hM : Wd G M s H locs) (ha : M a = some (r, .inr (1, [v0, v1, v2, v3, v4, v5, v6, v7, v8, v9, v10, v11]))) (hdg : decode cc pc = .ok (.getfield 36, 3)) (kk : W p l e R s m args below meth c H locs cells slots Q (F0 m (pc + 3) ls (v7 :: rest))) : W p l e R s m args below meth c H locs cells slots Q (F0 m pc ls (.ref a :: rest)) :=
  g_get (own := RX0) (ref := "WheatRun$Combine") (C := RX0) (T := TX0) (N := 12) (ci := 1) (index := 36) hx hb hts hown hK hM iaX0 rfl 7 (by decide) wf_X0_36 (fun _ h => h) ha rfl hdg kk
theorem fg_X0_40 {v0 v1 v2 v3 v4 v5 v6 v7 v8 v9 v10 v11 : Value} (hx : p.tables.exec = Jvm.exec) (hb : c.code = cc) (hts : ∀ w ∈ AL, w.before args s = true) (hown : s.vm.findClass RX0 = some m.cls) (hK : Kw G s) (hM : Wd G M s H locs) (ha : M a = some (r, .inr (1, [v0, v1, v2, v3, v4, v5, v6, v7, v8, v9, v10, v11]))) (hdg : decode cc pc = .ok (.getfield 40, 3)) (kk : W p l e R s m args below meth c H locs cells slots Q (F0 m (pc + 3) ls (v8 :: rest))) : W p l e R s m args below meth c H locs cells slots Q (F0 m pc ls (.ref a :: rest)) :=
  g_get (own := RX0) (ref := "WheatRun$Combine") (C := RX0) (T := TX0) (N := 12) (ci := 1) (index := 40) hx hb hts hown hK hM iaX0 rfl 8 (by decide) wf_X0_40 (fun _ h => h) ha rfl hdg kk
theorem fg_X0_43 {v0 v1 v2 v3 v4 v5 v6 v7 v8 v9 v10 v11 : Value} (hx : p.tables.exec = Jvm.exec) (hb : c.code = cc) (hts : ∀ w ∈ AL, w.before args s = true) (hown : s.vm.findClass RX0 = some m.cls) (hK : Kw G s) (hM : Wd G M s H locs) (ha : M a = some (r, .inr (1, [v0, v1, v2, v3, v4, v5, v6, v7, v8, v9, v10, v11]))) (hdg : decode cc pc = .ok (.getfield 43, 3)) (kk : W p l e R s m args below meth c H locs cells slots Q (F0 m (pc + 3) ls (v10 :: rest))) : W p l e R s m args below meth c H locs cells slots Q (F0 m pc ls (.ref a :: rest)) :=
  g_get (own := RX0) (ref := "WheatRun$Combine") (C := RX0) (T := TX0) (N := 12) (ci := 1) (index := 43) hx hb hts hown hK hM iaX0 rfl 10 (by decide) wf_X0_43 (fun _ h => h) ha rfl hdg kk
theorem fg_X0_46 {v0 v1 v2 v3 v4 v5 v6 v7 v8 v9 v10 v11 : Value} (hx : p.tables.exec = Jvm.exec) (hb : c.code = cc) (hts : ∀ w ∈ AL, w.before args s = true) (hown : s.vm.findClass RX0 = some m.cls) (hK : Kw G s) (hM : Wd G M s H locs) (ha : M a = some (r, .inr (1, [v0, v1, v2, v3, v4, v5, v6, v7, v8, v9, v10, v11]))) (hdg : decode cc pc = .ok (.getfield 46, 3)) (kk : W p l e R s m args below meth c H locs cells slots Q (F0 m (pc + 3) ls (v11 :: rest))) : W p l e R s m args below meth c H locs cells slots Q (F0 m pc ls (.ref a :: rest)) :=
  g_get (own := RX0) (ref := "WheatRun$Combine") (C := RX0) (T := TX0) (N := 12) (ci := 1) (index := 46) hx hb hts hown hK hM iaX0 rfl 11 (by decide) wf_X0_46 (fun _ h => h) ha rfl hdg kk
theorem fg_X0_49 {v0 v1 v2 v3 v4 v5 v6 v7 v8 v9 v10 v11 v12 : Value} (hx : p.tables.exec = Jvm.exec) (hb : c.code = cc) (hts : ∀ w ∈ AL, w.before args s = true) (hown : s.vm.findClass RX0 = some m.cls) (hK : Kw G s) (hM : Wd G M s H locs) (ha : M a = some (r, .inr (3, [v0, v1, v2, v3, v4, v5, v6, v7, v8, v9, v10, v11, v12]))) (hdg : decode cc pc = .ok (.getfield 49, 3)) (kk : W p l e R s m args below meth c H locs cells slots Q (F0 m (pc + 3) ls (v1 :: rest))) : W p l e R s m args below meth c H locs cells slots Q (F0 m pc ls (.ref a :: rest)) :=
  g_get (own := RX0) (ref := "WheatRun$Field") (C := RX2) (T := TX2) (N := 13) (ci := 3) (index := 49) hx hb hts hown hK hM iaX2 rfl 1 (by decide) wf_X0_49 (fun _ h => h) ha rfl hdg kk
theorem fg_X0_85 {v0 v1 v2 v3 v4 v5 v6 v7 v8 v9 v10 v11 v12 : Value} (hx : p.tables.exec = Jvm.exec) (hb : c.code = cc) (hts : ∀ w ∈ AL, w.before args s = true) (hown : s.vm.findClass RX0 = some m.cls) (hK : Kw G s) (hM : Wd G M s H locs) (ha : M a = some (r, .inr (3, [v0, v1, v2, v3, v4, v5, v6, v7, v8, v9, v10, v11, v12]))) (hdg : decode cc pc = .ok (.getfield 85, 3)) (kk : W p l e R s m args below meth c H locs cells slots Q (F0 m (pc + 3) ls (v5 :: rest))) : W p l e R s m args below meth c H locs cells slots Q (F0 m pc ls (.ref a :: rest)) :=
  g_get (own := RX0) (ref := "WheatRun$Field") (C := RX2) (T := TX2) (N := 13) (ci := 3) (index := 85) hx hb hts hown hK hM iaX2 rfl 5 (by decide) wf_X0_85 (fun _ h => h) ha rfl hdg kk
theorem fg_X0_86 {v0 v1 v2 v3 v4 v5 v6 v7 v8 v9 v10 v11 v12 : Value} (hx : p.tables.exec = Jvm.exec) (hb : c.code = cc) (hts : ∀ w ∈ AL, w.before args s = true) (hown : s.vm.findClass RX0 = some m.cls) (hK : Kw G s) (hM : Wd G M s H locs) (ha : M a = some (r, .inr (3, [v0, v1, v2, v3, v4, v5, v6, v7, v8, v9, v10, v11, v12]))) (hdg : decode cc pc = .ok (.getfield 86, 3)) (kk : W p l e R s m args below meth c H locs cells slots Q (F0 m (pc + 3) ls (v9 :: rest))) : W p l e R s m args below meth c H locs cells slots Q (F0 m pc ls (.ref a :: rest)) :=
  g_get (own := RX0) (ref := "WheatRun$Field") (C := RX2) (T := TX2) (N := 13) (ci := 3) (index := 86) hx hb hts hown hK hM iaX2 rfl 9 (by decide) wf_X0_86 (fun _ h => h) ha rfl hdg kk
theorem fg_X0_93 {v0 v1 v2 v3 v4 v5 v6 v7 v8 v9 v10 v11 v12 : Value} (hx : p.tables.exec = Jvm.exec) (hb : c.code = cc) (hts : ∀ w ∈ AL, w.before args s = true) (hown : s.vm.findClass RX0 = some m.cls) (hK : Kw G s) (hM : Wd G M s H locs) (ha : M a = some (r, .inr (3, [v0, v1, v2, v3, v4, v5, v6, v7, v8, v9, v10, v11, v12]))) (hdg : decode cc pc = .ok (.getfield 93, 3)) (kk : W p l e R s m args below meth c H locs cells slots Q (F0 m (pc + 3) ls (v7 :: rest))) : W p l e R s m args below meth c H locs cells slots Q (F0 m pc ls (.ref a :: rest)) :=
  g_get (own := RX0) (ref := "WheatRun$Field") (C := RX2) (T := TX2) (N := 13) (ci := 3) (index := 93) hx hb hts hown hK hM iaX2 rfl 7 (by decide) wf_X0_93 (fun _ h => h) ha rfl hdg kk
theorem fg_X1_7 {v0 v1 v2 v3 v4 v5 : Value} (hx : p.tables.exec = Jvm.exec) (hb : c.code = cc) (hts : ∀ w ∈ AL, w.before args s = true) (hown : s.vm.findClass RX1 = some m.cls) (hK : Kw G s) (hM : Wd G M s H locs) (ha : M a = some (r, .inr (2, [v0, v1, v2, v3, v4, v5]))) (hdg : decode cc pc = .ok (.getfield 7, 3)) (kk : W p l e R s m args below meth c H locs cells slots Q (F0 m (pc + 3) ls (v0 :: rest))) : W p l e R s m args below meth c H locs cells slots Q (F0 m pc ls (.ref a :: rest)) :=
  g_get (own := RX1) (ref := "WheatRun$Elevator") (C := RX1) (T := TX1) (N := 6) (ci := 2) (index := 7) hx hb hts hown hK hM iaX1 rfl 0 (by decide) wf_X1_7 (fun _ h => h) ha rfl hdg kk
theorem fg_X1_13 {v0 v1 v2 v3 v4 v5 : Value} (hx : p.tables.exec = Jvm.exec) (hb : c.code = cc) (hts : ∀ w ∈ AL, w.before args s = true) (hown : s.vm.findClass RX1 = some m.cls) (hK : Kw G s) (hM : Wd G M s H locs) (ha : M a = some (r, .inr (2, [v0, v1, v2, v3, v4, v5]))) (hdg : decode cc pc = .ok (.getfield 13, 3)) (kk : W p l e R s m args below meth c H locs cells slots Q (F0 m (pc + 3) ls (v1 :: rest))) : W p l e R s m args below meth c H locs cells slots Q (F0 m pc ls (.ref a :: rest)) :=
  g_get (own := RX1) (ref := "WheatRun$Elevator") (C := RX1) (T := TX1) (N := 6) (ci := 2) (index := 13) hx hb hts hown hK hM iaX1 rfl 1 (by decide) wf_X1_13 (fun _ h => h) ha rfl hdg kk
theorem fg_X1_16 {v0 v1 v2 v3 v4 v5 : Value} (hx : p.tables.exec = Jvm.exec) (hb : c.code = cc) (hts : ∀ w ∈ AL, w.before args s = true) (hown : s.vm.findClass RX1 = some m.cls) (hK : Kw G s) (hM : Wd G M s H locs) (ha : M a = some (r, .inr (2, [v0, v1, v2, v3, v4, v5]))) (hdg : decode cc pc = .ok (.getfield 16, 3)) (kk : W p l e R s m args below meth c H locs cells slots Q (F0 m (pc + 3) ls (v2 :: rest))) : W p l e R s m args below meth c H locs cells slots Q (F0 m pc ls (.ref a :: rest)) :=
  g_get (own := RX1) (ref := "WheatRun$Elevator") (C := RX1) (T := TX1) (N := 6) (ci := 2) (index := 16) hx hb hts hown hK hM iaX1 rfl 2 (by decide) wf_X1_16 (fun _ h => h) ha rfl hdg kk
theorem fg_X1_19 {v0 v1 v2 v3 v4 v5 : Value} (hx : p.tables.exec = Jvm.exec) (hb : c.code = cc) (hts : ∀ w ∈ AL, w.before args s = true) (hown : s.vm.findClass RX1 = some m.cls) (hK : Kw G s) (hM : Wd G M s H locs) (ha : M a = some (r, .inr (2, [v0, v1, v2, v3, v4, v5]))) (hdg : decode cc pc = .ok (.getfield 19, 3)) (kk : W p l e R s m args below meth c H locs cells slots Q (F0 m (pc + 3) ls (v3 :: rest))) : W p l e R s m args below meth c H locs cells slots Q (F0 m pc ls (.ref a :: rest)) :=
  g_get (own := RX1) (ref := "WheatRun$Elevator") (C := RX1) (T := TX1) (N := 6) (ci := 2) (index := 19) hx hb hts hown hK hM iaX1 rfl 3 (by decide) wf_X1_19 (fun _ h => h) ha rfl hdg kk
theorem fg_X1_22 {v0 v1 v2 v3 v4 v5 : Value} (hx : p.tables.exec = Jvm.exec) (hb : c.code = cc) (hts : ∀ w ∈ AL, w.before args s = true) (hown : s.vm.findClass RX1 = some m.cls) (hK : Kw G s) (hM : Wd G M s H locs) (ha : M a = some (r, .inr (2, [v0, v1, v2, v3, v4, v5]))) (hdg : decode cc pc = .ok (.getfield 22, 3)) (kk : W p l e R s m args below meth c H locs cells slots Q (F0 m (pc + 3) ls (v4 :: rest))) : W p l e R s m args below meth c H locs cells slots Q (F0 m pc ls (.ref a :: rest)) :=
  g_get (own := RX1) (ref := "WheatRun$Elevator") (C := RX1) (T := TX1) (N := 6) (ci := 2) (index := 22) hx hb hts hown hK hM iaX1 rfl 4 (by decide) wf_X1_22 (fun _ h => h) ha rfl hdg kk
theorem fg_X1_25 {v0 v1 v2 v3 v4 v5 : Value} (hx : p.tables.exec = Jvm.exec) (hb : c.code = cc) (hts : ∀ w ∈ AL, w.before args s = true) (hown : s.vm.findClass RX1 = some m.cls) (hK : Kw G s) (hM : Wd G M s H locs) (ha : M a = some (r, .inr (2, [v0, v1, v2, v3, v4, v5]))) (hdg : decode cc pc = .ok (.getfield 25, 3)) (kk : W p l e R s m args below meth c H locs cells slots Q (F0 m (pc + 3) ls (v5 :: rest))) : W p l e R s m args below meth c H locs cells slots Q (F0 m pc ls (.ref a :: rest)) :=
  g_get (own := RX1) (ref := "WheatRun$Elevator") (C := RX1) (T := TX1) (N := 6) (ci := 2) (index := 25) hx hb hts hown hK hM iaX1 rfl 5 (by decide) wf_X1_25 (fun _ h => h) ha rfl hdg kk
theorem fg_X1_32 {v0 v1 v2 v3 v4 v5 v6 v7 v8 v9 : Value} (hx : p.tables.exec = Jvm.exec) (hb : c.code = cc) (hts : ∀ w ∈ AL, w.before args s = true) (hown : s.vm.findClass RX1 = some m.cls) (hK : Kw G s) (hM : Wd G M s H locs) (ha : M a = some (r, .inr (6, [v0, v1, v2, v3, v4, v5, v6, v7, v8, v9]))) (hdg : decode cc pc = .ok (.getfield 32, 3)) (kk : W p l e R s m args below meth c H locs cells slots Q (F0 m (pc + 3) ls (v4 :: rest))) : W p l e R s m args below meth c H locs cells slots Q (F0 m pc ls (.ref a :: rest)) :=
  g_get (own := RX1) (ref := "WheatRun$Truck") (C := RX5) (T := TX5) (N := 10) (ci := 6) (index := 32) hx hb hts hown hK hM iaX5 rfl 4 (by decide) wf_X1_32 (fun _ h => h) ha rfl hdg kk
theorem fg_X1_37 {v0 v1 v2 v3 v4 v5 v6 v7 v8 v9 : Value} (hx : p.tables.exec = Jvm.exec) (hb : c.code = cc) (hts : ∀ w ∈ AL, w.before args s = true) (hown : s.vm.findClass RX1 = some m.cls) (hK : Kw G s) (hM : Wd G M s H locs) (ha : M a = some (r, .inr (6, [v0, v1, v2, v3, v4, v5, v6, v7, v8, v9]))) (hdg : decode cc pc = .ok (.getfield 37, 3)) (kk : W p l e R s m args below meth c H locs cells slots Q (F0 m (pc + 3) ls (v2 :: rest))) : W p l e R s m args below meth c H locs cells slots Q (F0 m pc ls (.ref a :: rest)) :=
  g_get (own := RX1) (ref := "WheatRun$Truck") (C := RX5) (T := TX5) (N := 10) (ci := 6) (index := 37) hx hb hts hown hK hM iaX5 rfl 2 (by decide) wf_X1_37 (fun _ h => h) ha rfl hdg kk
theorem fg_X2_9 {v0 v1 v2 v3 v4 v5 v6 v7 v8 v9 v10 v11 v12 : Value} (hx : p.tables.exec = Jvm.exec) (hb : c.code = cc) (hts : ∀ w ∈ AL, w.before args s = true) (hown : s.vm.findClass RX2 = some m.cls) (hK : Kw G s) (hM : Wd G M s H locs) (ha : M a = some (r, .inr (3, [v0, v1, v2, v3, v4, v5, v6, v7, v8, v9, v10, v11, v12]))) (hdg : decode cc pc = .ok (.getfield 9, 3)) (kk : W p l e R s m args below meth c H locs cells slots Q (F0 m (pc + 3) ls (v7 :: rest))) : W p l e R s m args below meth c H locs cells slots Q (F0 m pc ls (.ref a :: rest)) :=
  g_get (own := RX2) (ref := "WheatRun$Field") (C := RX2) (T := TX2) (N := 13) (ci := 3) (index := 9) hx hb hts hown hK hM iaX2 rfl 7 (by decide) wf_X2_9 (fun _ h => h) ha rfl hdg kk
theorem fg_X2_15 {v0 v1 v2 v3 v4 v5 v6 v7 v8 v9 v10 v11 v12 : Value} (hx : p.tables.exec = Jvm.exec) (hb : c.code = cc) (hts : ∀ w ∈ AL, w.before args s = true) (hown : s.vm.findClass RX2 = some m.cls) (hK : Kw G s) (hM : Wd G M s H locs) (ha : M a = some (r, .inr (3, [v0, v1, v2, v3, v4, v5, v6, v7, v8, v9, v10, v11, v12]))) (hdg : decode cc pc = .ok (.getfield 15, 3)) (kk : W p l e R s m args below meth c H locs cells slots Q (F0 m (pc + 3) ls (v0 :: rest))) : W p l e R s m args below meth c H locs cells slots Q (F0 m pc ls (.ref a :: rest)) :=
  g_get (own := RX2) (ref := "WheatRun$Field") (C := RX2) (T := TX2) (N := 13) (ci := 3) (index := 15) hx hb hts hown hK hM iaX2 rfl 0 (by decide) wf_X2_15 (fun _ h => h) ha rfl hdg kk
theorem fg_X2_18 {v0 v1 v2 v3 v4 v5 v6 v7 v8 v9 v10 v11 v12 : Value} (hx : p.tables.exec = Jvm.exec) (hb : c.code = cc) (hts : ∀ w ∈ AL, w.before args s = true) (hown : s.vm.findClass RX2 = some m.cls) (hK : Kw G s) (hM : Wd G M s H locs) (ha : M a = some (r, .inr (3, [v0, v1, v2, v3, v4, v5, v6, v7, v8, v9, v10, v11, v12]))) (hdg : decode cc pc = .ok (.getfield 18, 3)) (kk : W p l e R s m args below meth c H locs cells slots Q (F0 m (pc + 3) ls (v1 :: rest))) : W p l e R s m args below meth c H locs cells slots Q (F0 m pc ls (.ref a :: rest)) :=
  g_get (own := RX2) (ref := "WheatRun$Field") (C := RX2) (T := TX2) (N := 13) (ci := 3) (index := 18) hx hb hts hown hK hM iaX2 rfl 1 (by decide) wf_X2_18 (fun _ h => h) ha rfl hdg kk
theorem fg_X2_21 {v0 v1 v2 v3 v4 v5 v6 v7 v8 v9 v10 v11 v12 : Value} (hx : p.tables.exec = Jvm.exec) (hb : c.code = cc) (hts : ∀ w ∈ AL, w.before args s = true) (hown : s.vm.findClass RX2 = some m.cls) (hK : Kw G s) (hM : Wd G M s H locs) (ha : M a = some (r, .inr (3, [v0, v1, v2, v3, v4, v5, v6, v7, v8, v9, v10, v11, v12]))) (hdg : decode cc pc = .ok (.getfield 21, 3)) (kk : W p l e R s m args below meth c H locs cells slots Q (F0 m (pc + 3) ls (v2 :: rest))) : W p l e R s m args below meth c H locs cells slots Q (F0 m pc ls (.ref a :: rest)) :=
  g_get (own := RX2) (ref := "WheatRun$Field") (C := RX2) (T := TX2) (N := 13) (ci := 3) (index := 21) hx hb hts hown hK hM iaX2 rfl 2 (by decide) wf_X2_21 (fun _ h => h) ha rfl hdg kk
theorem fg_X2_24 {v0 v1 v2 v3 v4 v5 v6 v7 v8 v9 v10 v11 v12 : Value} (hx : p.tables.exec = Jvm.exec) (hb : c.code = cc) (hts : ∀ w ∈ AL, w.before args s = true) (hown : s.vm.findClass RX2 = some m.cls) (hK : Kw G s) (hM : Wd G M s H locs) (ha : M a = some (r, .inr (3, [v0, v1, v2, v3, v4, v5, v6, v7, v8, v9, v10, v11, v12]))) (hdg : decode cc pc = .ok (.getfield 24, 3)) (kk : W p l e R s m args below meth c H locs cells slots Q (F0 m (pc + 3) ls (v3 :: rest))) : W p l e R s m args below meth c H locs cells slots Q (F0 m pc ls (.ref a :: rest)) :=
  g_get (own := RX2) (ref := "WheatRun$Field") (C := RX2) (T := TX2) (N := 13) (ci := 3) (index := 24) hx hb hts hown hK hM iaX2 rfl 3 (by decide) wf_X2_24 (fun _ h => h) ha rfl hdg kk
theorem fg_X2_27 {v0 v1 v2 v3 v4 v5 v6 v7 v8 v9 v10 v11 v12 : Value} (hx : p.tables.exec = Jvm.exec) (hb : c.code = cc) (hts : ∀ w ∈ AL, w.before args s = true) (hown : s.vm.findClass RX2 = some m.cls) (hK : Kw G s) (hM : Wd G M s H locs) (ha : M a = some (r, .inr (3, [v0, v1, v2, v3, v4, v5, v6, v7, v8, v9, v10, v11, v12]))) (hdg : decode cc pc = .ok (.getfield 27, 3)) (kk : W p l e R s m args below meth c H locs cells slots Q (F0 m (pc + 3) ls (v4 :: rest))) : W p l e R s m args below meth c H locs cells slots Q (F0 m pc ls (.ref a :: rest)) :=
  g_get (own := RX2) (ref := "WheatRun$Field") (C := RX2) (T := TX2) (N := 13) (ci := 3) (index := 27) hx hb hts hown hK hM iaX2 rfl 4 (by decide) wf_X2_27 (fun _ h => h) ha rfl hdg kk
theorem fg_X2_30 {v0 v1 v2 v3 v4 v5 v6 v7 v8 v9 v10 v11 v12 : Value} (hx : p.tables.exec = Jvm.exec) (hb : c.code = cc) (hts : ∀ w ∈ AL, w.before args s = true) (hown : s.vm.findClass RX2 = some m.cls) (hK : Kw G s) (hM : Wd G M s H locs) (ha : M a = some (r, .inr (3, [v0, v1, v2, v3, v4, v5, v6, v7, v8, v9, v10, v11, v12]))) (hdg : decode cc pc = .ok (.getfield 30, 3)) (kk : W p l e R s m args below meth c H locs cells slots Q (F0 m (pc + 3) ls (v5 :: rest))) : W p l e R s m args below meth c H locs cells slots Q (F0 m pc ls (.ref a :: rest)) :=
  g_get (own := RX2) (ref := "WheatRun$Field") (C := RX2) (T := TX2) (N := 13) (ci := 3) (index := 30) hx hb hts hown hK hM iaX2 rfl 5 (by decide) wf_X2_30 (fun _ h => h) ha rfl hdg kk
theorem fg_X2_33 {v0 v1 v2 v3 v4 v5 v6 v7 v8 v9 v10 v11 v12 : Value} (hx : p.tables.exec = Jvm.exec) (hb : c.code = cc) (hts : ∀ w ∈ AL, w.before args s = true) (hown : s.vm.findClass RX2 = some m.cls) (hK : Kw G s) (hM : Wd G M s H locs) (ha : M a = some (r, .inr (3, [v0, v1, v2, v3, v4, v5, v6, v7, v8, v9, v10, v11, v12]))) (hdg : decode cc pc = .ok (.getfield 33, 3)) (kk : W p l e R s m args below meth c H locs cells slots Q (F0 m (pc + 3) ls (v6 :: rest))) : W p l e R s m args below meth c H locs cells slots Q (F0 m pc ls (.ref a :: rest)) :=
  g_get (own := RX2) (ref := "WheatRun$Field") (C := RX2) (T := TX2) (N := 13) (ci := 3) (index := 33) hx hb hts hown hK hM iaX2 rfl 6 (by decide) wf_X2_33 (fun _ h => h) ha rfl hdg kk
theorem fg_X2_36 {v0 v1 v2 v3 v4 v5 v6 v7 v8 v9 v10 v11 v12 : Value} (hx : p.tables.exec = Jvm.exec) (hb : c.code = cc) (hts : ∀ w ∈ AL, w.before args s = true) (hown : s.vm.findClass RX2 = some m.cls) (hK : Kw G s) (hM : Wd G M s H locs) (ha : M a = some (r, .inr (3, [v0, v1, v2, v3, v4, v5, v6, v7, v8, v9, v10, v11, v12]))) (hdg : decode cc pc = .ok (.getfield 36, 3)) (kk : W p l e R s m args below meth c H locs cells slots Q (F0 m (pc + 3) ls (v8 :: rest))) : W p l e R s m args below meth c H locs cells slots Q (F0 m pc ls (.ref a :: rest)) :=
  g_get (own := RX2) (ref := "WheatRun$Field") (C := RX2) (T := TX2) (N := 13) (ci := 3) (index := 36) hx hb hts hown hK hM iaX2 rfl 8 (by decide) wf_X2_36 (fun _ h => h) ha rfl hdg kk
theorem fg_X2_39 {v0 v1 v2 v3 v4 v5 v6 v7 v8 v9 v10 v11 v12 : Value} (hx : p.tables.exec = Jvm.exec) (hb : c.code = cc) (hts : ∀ w ∈ AL, w.before args s = true) (hown : s.vm.findClass RX2 = some m.cls) (hK : Kw G s) (hM : Wd G M s H locs) (ha : M a = some (r, .inr (3, [v0, v1, v2, v3, v4, v5, v6, v7, v8, v9, v10, v11, v12]))) (hdg : decode cc pc = .ok (.getfield 39, 3)) (kk : W p l e R s m args below meth c H locs cells slots Q (F0 m (pc + 3) ls (v9 :: rest))) : W p l e R s m args below meth c H locs cells slots Q (F0 m pc ls (.ref a :: rest)) :=
  g_get (own := RX2) (ref := "WheatRun$Field") (C := RX2) (T := TX2) (N := 13) (ci := 3) (index := 39) hx hb hts hown hK hM iaX2 rfl 9 (by decide) wf_X2_39 (fun _ h => h) ha rfl hdg kk
theorem fg_X2_42 {v0 v1 v2 v3 v4 v5 v6 v7 v8 v9 v10 v11 v12 : Value} (hx : p.tables.exec = Jvm.exec) (hb : c.code = cc) (hts : ∀ w ∈ AL, w.before args s = true) (hown : s.vm.findClass RX2 = some m.cls) (hK : Kw G s) (hM : Wd G M s H locs) (ha : M a = some (r, .inr (3, [v0, v1, v2, v3, v4, v5, v6, v7, v8, v9, v10, v11, v12]))) (hdg : decode cc pc = .ok (.getfield 42, 3)) (kk : W p l e R s m args below meth c H locs cells slots Q (F0 m (pc + 3) ls (v10 :: rest))) : W p l e R s m args below meth c H locs cells slots Q (F0 m pc ls (.ref a :: rest)) :=
  g_get (own := RX2) (ref := "WheatRun$Field") (C := RX2) (T := TX2) (N := 13) (ci := 3) (index := 42) hx hb hts hown hK hM iaX2 rfl 10 (by decide) wf_X2_42 (fun _ h => h) ha rfl hdg kk
theorem fg_X2_45 {v0 v1 v2 v3 v4 v5 v6 v7 v8 v9 v10 v11 v12 : Value} (hx : p.tables.exec = Jvm.exec) (hb : c.code = cc) (hts : ∀ w ∈ AL, w.before args s = true) (hown : s.vm.findClass RX2 = some m.cls) (hK : Kw G s) (hM : Wd G M s H locs) (ha : M a = some (r, .inr (3, [v0, v1, v2, v3, v4, v5, v6, v7, v8, v9, v10, v11, v12]))) (hdg : decode cc pc = .ok (.getfield 45, 3)) (kk : W p l e R s m args below meth c H locs cells slots Q (F0 m (pc + 3) ls (v11 :: rest))) : W p l e R s m args below meth c H locs cells slots Q (F0 m pc ls (.ref a :: rest)) :=
  g_get (own := RX2) (ref := "WheatRun$Field") (C := RX2) (T := TX2) (N := 13) (ci := 3) (index := 45) hx hb hts hown hK hM iaX2 rfl 11 (by decide) wf_X2_45 (fun _ h => h) ha rfl hdg kk
theorem fg_X2_48 {v0 v1 v2 v3 v4 v5 v6 v7 v8 v9 v10 v11 v12 : Value} (hx : p.tables.exec = Jvm.exec) (hb : c.code = cc) (hts : ∀ w ∈ AL, w.before args s = true) (hown : s.vm.findClass RX2 = some m.cls) (hK : Kw G s) (hM : Wd G M s H locs) (ha : M a = some (r, .inr (3, [v0, v1, v2, v3, v4, v5, v6, v7, v8, v9, v10, v11, v12]))) (hdg : decode cc pc = .ok (.getfield 48, 3)) (kk : W p l e R s m args below meth c H locs cells slots Q (F0 m (pc + 3) ls (v12 :: rest))) : W p l e R s m args below meth c H locs cells slots Q (F0 m pc ls (.ref a :: rest)) :=
  g_get (own := RX2) (ref := "WheatRun$Field") (C := RX2) (T := TX2) (N := 13) (ci := 3) (index := 48) hx hb hts hown hK hM iaX2 rfl 12 (by decide) wf_X2_48 (fun _ h => h) ha rfl hdg kk
theorem fg_X3_12 {v0 v1 v2 v3 v4 v5 v6 v7 v8 : Value} (hx : p.tables.exec = Jvm.exec) (hb : c.code = cc) (hts : ∀ w ∈ AL, w.before args s = true) (hown : s.vm.findClass RX3 = some m.cls) (hK : Kw G s) (hM : Wd G M s H locs) (ha : M a = some (r, .inr (4, [v0, v1, v2, v3, v4, v5, v6, v7, v8]))) (hdg : decode cc pc = .ok (.getfield 12, 3)) (kk : W p l e R s m args below meth c H locs cells slots Q (F0 m (pc + 3) ls (v0 :: rest))) : W p l e R s m args below meth c H locs cells slots Q (F0 m pc ls (.ref a :: rest)) :=
  g_get (own := RX3) (ref := "WheatRun$Land") (C := RX3) (T := TX3) (N := 9) (ci := 4) (index := 12) hx hb hts hown hK hM iaX3 rfl 0 (by decide) wf_X3_12 (fun _ h => h) ha rfl hdg kk
theorem fg_X3_18 {v0 v1 v2 v3 v4 v5 v6 v7 v8 : Value} (hx : p.tables.exec = Jvm.exec) (hb : c.code = cc) (hts : ∀ w ∈ AL, w.before args s = true) (hown : s.vm.findClass RX3 = some m.cls) (hK : Kw G s) (hM : Wd G M s H locs) (ha : M a = some (r, .inr (4, [v0, v1, v2, v3, v4, v5, v6, v7, v8]))) (hdg : decode cc pc = .ok (.getfield 18, 3)) (kk : W p l e R s m args below meth c H locs cells slots Q (F0 m (pc + 3) ls (v1 :: rest))) : W p l e R s m args below meth c H locs cells slots Q (F0 m pc ls (.ref a :: rest)) :=
  g_get (own := RX3) (ref := "WheatRun$Land") (C := RX3) (T := TX3) (N := 9) (ci := 4) (index := 18) hx hb hts hown hK hM iaX3 rfl 1 (by decide) wf_X3_18 (fun _ h => h) ha rfl hdg kk
theorem fg_X3_21 {v0 v1 v2 v3 v4 v5 v6 v7 v8 : Value} (hx : p.tables.exec = Jvm.exec) (hb : c.code = cc) (hts : ∀ w ∈ AL, w.before args s = true) (hown : s.vm.findClass RX3 = some m.cls) (hK : Kw G s) (hM : Wd G M s H locs) (ha : M a = some (r, .inr (4, [v0, v1, v2, v3, v4, v5, v6, v7, v8]))) (hdg : decode cc pc = .ok (.getfield 21, 3)) (kk : W p l e R s m args below meth c H locs cells slots Q (F0 m (pc + 3) ls (v2 :: rest))) : W p l e R s m args below meth c H locs cells slots Q (F0 m pc ls (.ref a :: rest)) :=
  g_get (own := RX3) (ref := "WheatRun$Land") (C := RX3) (T := TX3) (N := 9) (ci := 4) (index := 21) hx hb hts hown hK hM iaX3 rfl 2 (by decide) wf_X3_21 (fun _ h => h) ha rfl hdg kk
theorem fg_X3_24 {v0 v1 v2 v3 v4 v5 v6 v7 v8 : Value} (hx : p.tables.exec = Jvm.exec) (hb : c.code = cc) (hts : ∀ w ∈ AL, w.before args s = true) (hown : s.vm.findClass RX3 = some m.cls) (hK : Kw G s) (hM : Wd G M s H locs) (ha : M a = some (r, .inr (4, [v0, v1, v2, v3, v4, v5, v6, v7, v8]))) (hdg : decode cc pc = .ok (.getfield 24, 3)) (kk : W p l e R s m args below meth c H locs cells slots Q (F0 m (pc + 3) ls (v3 :: rest))) : W p l e R s m args below meth c H locs cells slots Q (F0 m pc ls (.ref a :: rest)) :=
  g_get (own := RX3) (ref := "WheatRun$Land") (C := RX3) (T := TX3) (N := 9) (ci := 4) (index := 24) hx hb hts hown hK hM iaX3 rfl 3 (by decide) wf_X3_24 (fun _ h => h) ha rfl hdg kk
theorem fg_X3_27 {v0 v1 v2 v3 v4 v5 v6 v7 v8 : Value} (hx : p.tables.exec = Jvm.exec) (hb : c.code = cc) (hts : ∀ w ∈ AL, w.before args s = true) (hown : s.vm.findClass RX3 = some m.cls) (hK : Kw G s) (hM : Wd G M s H locs) (ha : M a = some (r, .inr (4, [v0, v1, v2, v3, v4, v5, v6, v7, v8]))) (hdg : decode cc pc = .ok (.getfield 27, 3)) (kk : W p l e R s m args below meth c H locs cells slots Q (F0 m (pc + 3) ls (v4 :: rest))) : W p l e R s m args below meth c H locs cells slots Q (F0 m pc ls (.ref a :: rest)) :=
  g_get (own := RX3) (ref := "WheatRun$Land") (C := RX3) (T := TX3) (N := 9) (ci := 4) (index := 27) hx hb hts hown hK hM iaX3 rfl 4 (by decide) wf_X3_27 (fun _ h => h) ha rfl hdg kk
theorem fg_X3_30 {v0 v1 v2 v3 v4 v5 v6 v7 v8 : Value} (hx : p.tables.exec = Jvm.exec) (hb : c.code = cc) (hts : ∀ w ∈ AL, w.before args s = true) (hown : s.vm.findClass RX3 = some m.cls) (hK : Kw G s) (hM : Wd G M s H locs) (ha : M a = some (r, .inr (4, [v0, v1, v2, v3, v4, v5, v6, v7, v8]))) (hdg : decode cc pc = .ok (.getfield 30, 3)) (kk : W p l e R s m args below meth c H locs cells slots Q (F0 m (pc + 3) ls (v7 :: rest))) : W p l e R s m args below meth c H locs cells slots Q (F0 m pc ls (.ref a :: rest)) :=
  g_get (own := RX3) (ref := "WheatRun$Land") (C := RX3) (T := TX3) (N := 9) (ci := 4) (index := 30) hx hb hts hown hK hM iaX3 rfl 7 (by decide) wf_X3_30 (fun _ h => h) ha rfl hdg kk
theorem fg_X3_34 {v0 v1 v2 v3 v4 v5 v6 v7 v8 : Value} (hx : p.tables.exec = Jvm.exec) (hb : c.code = cc) (hts : ∀ w ∈ AL, w.before args s = true) (hown : s.vm.findClass RX3 = some m.cls) (hK : Kw G s) (hM : Wd G M s H locs) (ha : M a = some (r, .inr (4, [v0, v1, v2, v3, v4, v5, v6, v7, v8]))) (hdg : decode cc pc = .ok (.getfield 34, 3)) (kk : W p l e R s m args below meth c H locs cells slots Q (F0 m (pc + 3) ls (v8 :: rest))) : W p l e R s m args below meth c H locs cells slots Q (F0 m pc ls (.ref a :: rest)) :=
  g_get (own := RX3) (ref := "WheatRun$Land") (C := RX3) (T := TX3) (N := 9) (ci := 4) (index := 34) hx hb hts hown hK hM iaX3 rfl 8 (by decide) wf_X3_34 (fun _ h => h) ha rfl hdg kk
theorem fg_X3_37 {v0 v1 v2 v3 v4 v5 v6 v7 v8 : Value} (hx : p.tables.exec = Jvm.exec) (hb : c.code = cc) (hts : ∀ w ∈ AL, w.before args s = true) (hown : s.vm.findClass RX3 = some m.cls) (hK : Kw G s) (hM : Wd G M s H locs) (ha : M a = some (r, .inr (4, [v0, v1, v2, v3, v4, v5, v6, v7, v8]))) (hdg : decode cc pc = .ok (.getfield 37, 3)) (kk : W p l e R s m args below meth c H locs cells slots Q (F0 m (pc + 3) ls (v5 :: rest))) : W p l e R s m args below meth c H locs cells slots Q (F0 m pc ls (.ref a :: rest)) :=
  g_get (own := RX3) (ref := "WheatRun$Land") (C := RX3) (T := TX3) (N := 9) (ci := 4) (index := 37) hx hb hts hown hK hM iaX3 rfl 5 (by decide) wf_X3_37 (fun _ h => h) ha rfl hdg kk
theorem fg_X3_41 {v0 v1 v2 v3 v4 v5 v6 v7 v8 : Value} (hx : p.tables.exec = Jvm.exec) (hb : c.code = cc) (hts : ∀ w ∈ AL, w.before args s = true) (hown : s.vm.findClass RX3 = some m.cls) (hK : Kw G s) (hM : Wd G M s H locs) (ha : M a = some (r, .inr (4, [v0, v1, v2, v3, v4, v5, v6, v7, v8]))) (hdg : decode cc pc = .ok (.getfield 41, 3)) (kk : W p l e R s m args below meth c H locs cells slots Q (F0 m (pc + 3) ls (v6 :: rest))) : W p l e R s m args below meth c H locs cells slots Q (F0 m pc ls (.ref a :: rest)) :=
  g_get (own := RX3) (ref := "WheatRun$Land") (C := RX3) (T := TX3) (N := 9) (ci := 4) (index := 41) hx hb hts hown hK hM iaX3 rfl 6 (by decide) wf_X3_41 (fun _ h => h) ha rfl hdg kk
theorem fg_X3_102 {v0 v1 v2 v3 v4 v5 v6 v7 v8 v9 v10 v11 : Value} (hx : p.tables.exec = Jvm.exec) (hb : c.code = cc) (hts : ∀ w ∈ AL, w.before args s = true) (hown : s.vm.findClass RX3 = some m.cls) (hK : Kw G s) (hM : Wd G M s H locs) (ha : M a = some (r, .inr (1, [v0, v1, v2, v3, v4, v5, v6, v7, v8, v9, v10, v11]))) (hdg : decode cc pc = .ok (.getfield 102, 3)) (kk : W p l e R s m args below meth c H locs cells slots Q (F0 m (pc + 3) ls (v9 :: rest))) : W p l e R s m args below meth c H locs cells slots Q (F0 m pc ls (.ref a :: rest)) :=
  g_get (own := RX3) (ref := "WheatRun$Combine") (C := RX0) (T := TX0) (N := 12) (ci := 1) (index := 102) hx hb hts hown hK hM iaX0 rfl 9 (by decide) wf_X3_102 (fun _ h => h) ha rfl hdg kk
theorem fg_X3_115 {v0 v1 v2 v3 v4 v5 v6 v7 v8 v9 : Value} (hx : p.tables.exec = Jvm.exec) (hb : c.code = cc) (hts : ∀ w ∈ AL, w.before args s = true) (hown : s.vm.findClass RX3 = some m.cls) (hK : Kw G s) (hM : Wd G M s H locs) (ha : M a = some (r, .inr (6, [v0, v1, v2, v3, v4, v5, v6, v7, v8, v9]))) (hdg : decode cc pc = .ok (.getfield 115, 3)) (kk : W p l e R s m args below meth c H locs cells slots Q (F0 m (pc + 3) ls (v7 :: rest))) : W p l e R s m args below meth c H locs cells slots Q (F0 m pc ls (.ref a :: rest)) :=
  g_get (own := RX3) (ref := "WheatRun$Truck") (C := RX5) (T := TX5) (N := 10) (ci := 6) (index := 115) hx hb hts hown hK hM iaX5 rfl 7 (by decide) wf_X3_115 (fun _ h => h) ha rfl hdg kk
theorem fg_X3_122 {v0 v1 v2 v3 v4 v5 v6 v7 v8 v9 : Value} (hx : p.tables.exec = Jvm.exec) (hb : c.code = cc) (hts : ∀ w ∈ AL, w.before args s = true) (hown : s.vm.findClass RX3 = some m.cls) (hK : Kw G s) (hM : Wd G M s H locs) (ha : M a = some (r, .inr (6, [v0, v1, v2, v3, v4, v5, v6, v7, v8, v9]))) (hdg : decode cc pc = .ok (.getfield 122, 3)) (kk : W p l e R s m args below meth c H locs cells slots Q (F0 m (pc + 3) ls (v8 :: rest))) : W p l e R s m args below meth c H locs cells slots Q (F0 m pc ls (.ref a :: rest)) :=
  g_get (own := RX3) (ref := "WheatRun$Truck") (C := RX5) (T := TX5) (N := 10) (ci := 6) (index := 122) hx hb hts hown hK hM iaX5 rfl 8 (by decide) wf_X3_122 (fun _ h => h) ha rfl hdg kk
theorem fg_X3_136 {v0 v1 v2 v3 v4 v5 v6 v7 v8 v9 : Value} (hx : p.tables.exec = Jvm.exec) (hb : c.code = cc) (hts : ∀ w ∈ AL, w.before args s = true) (hown : s.vm.findClass RX3 = some m.cls) (hK : Kw G s) (hM : Wd G M s H locs) (ha : M a = some (r, .inr (6, [v0, v1, v2, v3, v4, v5, v6, v7, v8, v9]))) (hdg : decode cc pc = .ok (.getfield 136, 3)) (kk : W p l e R s m args below meth c H locs cells slots Q (F0 m (pc + 3) ls (v0 :: rest))) : W p l e R s m args below meth c H locs cells slots Q (F0 m pc ls (.ref a :: rest)) :=
  g_get (own := RX3) (ref := "WheatRun$Truck") (C := RX5) (T := TX5) (N := 10) (ci := 6) (index := 136) hx hb hts hown hK hM iaX5 rfl 0 (by decide) wf_X3_136 (fun _ h => h) ha rfl hdg kk
theorem fg_X3_139 {v0 v1 v2 v3 v4 v5 v6 v7 v8 v9 v10 v11 : Value} (hx : p.tables.exec = Jvm.exec) (hb : c.code = cc) (hts : ∀ w ∈ AL, w.before args s = true) (hown : s.vm.findClass RX3 = some m.cls) (hK : Kw G s) (hM : Wd G M s H locs) (ha : M a = some (r, .inr (1, [v0, v1, v2, v3, v4, v5, v6, v7, v8, v9, v10, v11]))) (hdg : decode cc pc = .ok (.getfield 139, 3)) (kk : W p l e R s m args below meth c H locs cells slots Q (F0 m (pc + 3) ls (v1 :: rest))) : W p l e R s m args below meth c H locs cells slots Q (F0 m pc ls (.ref a :: rest)) :=
  g_get (own := RX3) (ref := "WheatRun$Combine") (C := RX0) (T := TX0) (N := 12) (ci := 1) (index := 139) hx hb hts hown hK hM iaX0 rfl 1 (by decide) wf_X3_139 (fun _ h => h) ha rfl hdg kk
theorem fg_X3_146 {v0 v1 v2 v3 v4 v5 : Value} (hx : p.tables.exec = Jvm.exec) (hb : c.code = cc) (hts : ∀ w ∈ AL, w.before args s = true) (hown : s.vm.findClass RX3 = some m.cls) (hK : Kw G s) (hM : Wd G M s H locs) (ha : M a = some (r, .inr (2, [v0, v1, v2, v3, v4, v5]))) (hdg : decode cc pc = .ok (.getfield 146, 3)) (kk : W p l e R s m args below meth c H locs cells slots Q (F0 m (pc + 3) ls (v0 :: rest))) : W p l e R s m args below meth c H locs cells slots Q (F0 m pc ls (.ref a :: rest)) :=
  g_get (own := RX3) (ref := "WheatRun$Elevator") (C := RX1) (T := TX1) (N := 6) (ci := 2) (index := 146) hx hb hts hown hK hM iaX1 rfl 0 (by decide) wf_X3_146 (fun _ h => h) ha rfl hdg kk
theorem fg_X3_147 {v0 v1 v2 v3 v4 v5 v6 v7 v8 v9 : Value} (hx : p.tables.exec = Jvm.exec) (hb : c.code = cc) (hts : ∀ w ∈ AL, w.before args s = true) (hown : s.vm.findClass RX3 = some m.cls) (hK : Kw G s) (hM : Wd G M s H locs) (ha : M a = some (r, .inr (6, [v0, v1, v2, v3, v4, v5, v6, v7, v8, v9]))) (hdg : decode cc pc = .ok (.getfield 147, 3)) (kk : W p l e R s m args below meth c H locs cells slots Q (F0 m (pc + 3) ls (v2 :: rest))) : W p l e R s m args below meth c H locs cells slots Q (F0 m pc ls (.ref a :: rest)) :=
  g_get (own := RX3) (ref := "WheatRun$Truck") (C := RX5) (T := TX5) (N := 10) (ci := 6) (index := 147) hx hb hts hown hK hM iaX5 rfl 2 (by decide) wf_X3_147 (fun _ h => h) ha rfl hdg kk
theorem fg_X3_158 {v0 v1 v2 v3 v4 v5 v6 v7 v8 v9 : Value} (hx : p.tables.exec = Jvm.exec) (hb : c.code = cc) (hts : ∀ w ∈ AL, w.before args s = true) (hown : s.vm.findClass RX3 = some m.cls) (hK : Kw G s) (hM : Wd G M s H locs) (ha : M a = some (r, .inr (6, [v0, v1, v2, v3, v4, v5, v6, v7, v8, v9]))) (hdg : decode cc pc = .ok (.getfield 158, 3)) (kk : W p l e R s m args below meth c H locs cells slots Q (F0 m (pc + 3) ls (v6 :: rest))) : W p l e R s m args below meth c H locs cells slots Q (F0 m pc ls (.ref a :: rest)) :=
  g_get (own := RX3) (ref := "WheatRun$Truck") (C := RX5) (T := TX5) (N := 10) (ci := 6) (index := 158) hx hb hts hown hK hM iaX5 rfl 6 (by decide) wf_X3_158 (fun _ h => h) ha rfl hdg kk
theorem fg_X3_161 {v0 v1 v2 v3 v4 v5 : Value} (hx : p.tables.exec = Jvm.exec) (hb : c.code = cc) (hts : ∀ w ∈ AL, w.before args s = true) (hown : s.vm.findClass RX3 = some m.cls) (hK : Kw G s) (hM : Wd G M s H locs) (ha : M a = some (r, .inr (2, [v0, v1, v2, v3, v4, v5]))) (hdg : decode cc pc = .ok (.getfield 161, 3)) (kk : W p l e R s m args below meth c H locs cells slots Q (F0 m (pc + 3) ls (v1 :: rest))) : W p l e R s m args below meth c H locs cells slots Q (F0 m pc ls (.ref a :: rest)) :=
  g_get (own := RX3) (ref := "WheatRun$Elevator") (C := RX1) (T := TX1) (N := 6) (ci := 2) (index := 161) hx hb hts hown hK hM iaX1 rfl 1 (by decide) wf_X3_161 (fun _ h => h) ha rfl hdg kk
theorem fg_X3_167 {v0 v1 v2 v3 v4 v5 v6 v7 v8 v9 : Value} (hx : p.tables.exec = Jvm.exec) (hb : c.code = cc) (hts : ∀ w ∈ AL, w.before args s = true) (hown : s.vm.findClass RX3 = some m.cls) (hK : Kw G s) (hM : Wd G M s H locs) (ha : M a = some (r, .inr (6, [v0, v1, v2, v3, v4, v5, v6, v7, v8, v9]))) (hdg : decode cc pc = .ok (.getfield 167, 3)) (kk : W p l e R s m args below meth c H locs cells slots Q (F0 m (pc + 3) ls (v4 :: rest))) : W p l e R s m args below meth c H locs cells slots Q (F0 m pc ls (.ref a :: rest)) :=
  g_get (own := RX3) (ref := "WheatRun$Truck") (C := RX5) (T := TX5) (N := 10) (ci := 6) (index := 167) hx hb hts hown hK hM iaX5 rfl 4 (by decide) wf_X3_167 (fun _ h => h) ha rfl hdg kk
theorem fg_X3_177 {v0 v1 v2 v3 v4 v5 v6 : Value} (hx : p.tables.exec = Jvm.exec) (hb : c.code = cc) (hts : ∀ w ∈ AL, w.before args s = true) (hown : s.vm.findClass RX3 = some m.cls) (hK : Kw G s) (hM : Wd G M s H locs) (ha : M a = some (r, .inr (5, [v0, v1, v2, v3, v4, v5, v6]))) (hdg : decode cc pc = .ok (.getfield 177, 3)) (kk : W p l e R s m args below meth c H locs cells slots Q (F0 m (pc + 3) ls (v1 :: rest))) : W p l e R s m args below meth c H locs cells slots Q (F0 m pc ls (.ref a :: rest)) :=
  g_get (own := RX3) (ref := "WheatRun$Ticket") (C := RX4) (T := TX4) (N := 7) (ci := 5) (index := 177) hx hb hts hown hK hM iaX4 rfl 1 (by decide) wf_X3_177 (fun _ h => h) ha rfl hdg kk
theorem fg_X3_180 {v0 v1 v2 v3 v4 v5 v6 : Value} (hx : p.tables.exec = Jvm.exec) (hb : c.code = cc) (hts : ∀ w ∈ AL, w.before args s = true) (hown : s.vm.findClass RX3 = some m.cls) (hK : Kw G s) (hM : Wd G M s H locs) (ha : M a = some (r, .inr (5, [v0, v1, v2, v3, v4, v5, v6]))) (hdg : decode cc pc = .ok (.getfield 180, 3)) (kk : W p l e R s m args below meth c H locs cells slots Q (F0 m (pc + 3) ls (v0 :: rest))) : W p l e R s m args below meth c H locs cells slots Q (F0 m pc ls (.ref a :: rest)) :=
  g_get (own := RX3) (ref := "WheatRun$Ticket") (C := RX4) (T := TX4) (N := 7) (ci := 5) (index := 180) hx hb hts hown hK hM iaX4 rfl 0 (by decide) wf_X3_180 (fun _ h => h) ha rfl hdg kk
theorem fg_X3_183 {v0 v1 v2 v3 v4 v5 v6 : Value} (hx : p.tables.exec = Jvm.exec) (hb : c.code = cc) (hts : ∀ w ∈ AL, w.before args s = true) (hown : s.vm.findClass RX3 = some m.cls) (hK : Kw G s) (hM : Wd G M s H locs) (ha : M a = some (r, .inr (5, [v0, v1, v2, v3, v4, v5, v6]))) (hdg : decode cc pc = .ok (.getfield 183, 3)) (kk : W p l e R s m args below meth c H locs cells slots Q (F0 m (pc + 3) ls (v6 :: rest))) : W p l e R s m args below meth c H locs cells slots Q (F0 m pc ls (.ref a :: rest)) :=
  g_get (own := RX3) (ref := "WheatRun$Ticket") (C := RX4) (T := TX4) (N := 7) (ci := 5) (index := 183) hx hb hts hown hK hM iaX4 rfl 6 (by decide) wf_X3_183 (fun _ h => h) ha rfl hdg kk
theorem fg_X3_190 {v0 v1 v2 v3 v4 v5 v6 v7 v8 v9 v10 v11 : Value} (hx : p.tables.exec = Jvm.exec) (hb : c.code = cc) (hts : ∀ w ∈ AL, w.before args s = true) (hown : s.vm.findClass RX3 = some m.cls) (hK : Kw G s) (hM : Wd G M s H locs) (ha : M a = some (r, .inr (1, [v0, v1, v2, v3, v4, v5, v6, v7, v8, v9, v10, v11]))) (hdg : decode cc pc = .ok (.getfield 190, 3)) (kk : W p l e R s m args below meth c H locs cells slots Q (F0 m (pc + 3) ls (v4 :: rest))) : W p l e R s m args below meth c H locs cells slots Q (F0 m pc ls (.ref a :: rest)) :=
  g_get (own := RX3) (ref := "WheatRun$Combine") (C := RX0) (T := TX0) (N := 12) (ci := 1) (index := 190) hx hb hts hown hK hM iaX0 rfl 4 (by decide) wf_X3_190 (fun _ h => h) ha rfl hdg kk
theorem fg_X3_193 {v0 v1 v2 v3 v4 v5 v6 v7 v8 v9 v10 v11 : Value} (hx : p.tables.exec = Jvm.exec) (hb : c.code = cc) (hts : ∀ w ∈ AL, w.before args s = true) (hown : s.vm.findClass RX3 = some m.cls) (hK : Kw G s) (hM : Wd G M s H locs) (ha : M a = some (r, .inr (1, [v0, v1, v2, v3, v4, v5, v6, v7, v8, v9, v10, v11]))) (hdg : decode cc pc = .ok (.getfield 193, 3)) (kk : W p l e R s m args below meth c H locs cells slots Q (F0 m (pc + 3) ls (v3 :: rest))) : W p l e R s m args below meth c H locs cells slots Q (F0 m pc ls (.ref a :: rest)) :=
  g_get (own := RX3) (ref := "WheatRun$Combine") (C := RX0) (T := TX0) (N := 12) (ci := 1) (index := 193) hx hb hts hown hK hM iaX0 rfl 3 (by decide) wf_X3_193 (fun _ h => h) ha rfl hdg kk
theorem fg_X3_196 {v0 v1 v2 v3 v4 v5 v6 v7 v8 v9 : Value} (hx : p.tables.exec = Jvm.exec) (hb : c.code = cc) (hts : ∀ w ∈ AL, w.before args s = true) (hown : s.vm.findClass RX3 = some m.cls) (hK : Kw G s) (hM : Wd G M s H locs) (ha : M a = some (r, .inr (6, [v0, v1, v2, v3, v4, v5, v6, v7, v8, v9]))) (hdg : decode cc pc = .ok (.getfield 196, 3)) (kk : W p l e R s m args below meth c H locs cells slots Q (F0 m (pc + 3) ls (v3 :: rest))) : W p l e R s m args below meth c H locs cells slots Q (F0 m pc ls (.ref a :: rest)) :=
  g_get (own := RX3) (ref := "WheatRun$Truck") (C := RX5) (T := TX5) (N := 10) (ci := 6) (index := 196) hx hb hts hown hK hM iaX5 rfl 3 (by decide) wf_X3_196 (fun _ h => h) ha rfl hdg kk
theorem fg_X3_202 {v0 v1 v2 v3 v4 v5 v6 v7 v8 v9 v10 v11 : Value} (hx : p.tables.exec = Jvm.exec) (hb : c.code = cc) (hts : ∀ w ∈ AL, w.before args s = true) (hown : s.vm.findClass RX3 = some m.cls) (hK : Kw G s) (hM : Wd G M s H locs) (ha : M a = some (r, .inr (1, [v0, v1, v2, v3, v4, v5, v6, v7, v8, v9, v10, v11]))) (hdg : decode cc pc = .ok (.getfield 202, 3)) (kk : W p l e R s m args below meth c H locs cells slots Q (F0 m (pc + 3) ls (v7 :: rest))) : W p l e R s m args below meth c H locs cells slots Q (F0 m pc ls (.ref a :: rest)) :=
  g_get (own := RX3) (ref := "WheatRun$Combine") (C := RX0) (T := TX0) (N := 12) (ci := 1) (index := 202) hx hb hts hown hK hM iaX0 rfl 7 (by decide) wf_X3_202 (fun _ h => h) ha rfl hdg kk
theorem fg_X3_205 {v0 v1 v2 v3 v4 v5 v6 v7 v8 v9 v10 v11 : Value} (hx : p.tables.exec = Jvm.exec) (hb : c.code = cc) (hts : ∀ w ∈ AL, w.before args s = true) (hown : s.vm.findClass RX3 = some m.cls) (hK : Kw G s) (hM : Wd G M s H locs) (ha : M a = some (r, .inr (1, [v0, v1, v2, v3, v4, v5, v6, v7, v8, v9, v10, v11]))) (hdg : decode cc pc = .ok (.getfield 205, 3)) (kk : W p l e R s m args below meth c H locs cells slots Q (F0 m (pc + 3) ls (v8 :: rest))) : W p l e R s m args below meth c H locs cells slots Q (F0 m pc ls (.ref a :: rest)) :=
  g_get (own := RX3) (ref := "WheatRun$Combine") (C := RX0) (T := TX0) (N := 12) (ci := 1) (index := 205) hx hb hts hown hK hM iaX0 rfl 8 (by decide) wf_X3_205 (fun _ h => h) ha rfl hdg kk
theorem fg_X4_7 {v0 v1 v2 v3 v4 v5 v6 v7 v8 v9 : Value} (hx : p.tables.exec = Jvm.exec) (hb : c.code = cc) (hts : ∀ w ∈ AL, w.before args s = true) (hown : s.vm.findClass RX4 = some m.cls) (hK : Kw G s) (hM : Wd G M s H locs) (ha : M a = some (r, .inr (6, [v0, v1, v2, v3, v4, v5, v6, v7, v8, v9]))) (hdg : decode cc pc = .ok (.getfield 7, 3)) (kk : W p l e R s m args below meth c H locs cells slots Q (F0 m (pc + 3) ls (v3 :: rest))) : W p l e R s m args below meth c H locs cells slots Q (F0 m pc ls (.ref a :: rest)) :=
  g_get (own := RX4) (ref := "WheatRun$Truck") (C := RX5) (T := TX5) (N := 10) (ci := 6) (index := 7) hx hb hts hown hK hM iaX5 rfl 3 (by decide) wf_X4_7 (fun _ h => h) ha rfl hdg kk
theorem fg_X4_18 {v0 v1 v2 v3 v4 v5 v6 v7 v8 v9 : Value} (hx : p.tables.exec = Jvm.exec) (hb : c.code = cc) (hts : ∀ w ∈ AL, w.before args s = true) (hown : s.vm.findClass RX4 = some m.cls) (hK : Kw G s) (hM : Wd G M s H locs) (ha : M a = some (r, .inr (6, [v0, v1, v2, v3, v4, v5, v6, v7, v8, v9]))) (hdg : decode cc pc = .ok (.getfield 18, 3)) (kk : W p l e R s m args below meth c H locs cells slots Q (F0 m (pc + 3) ls (v2 :: rest))) : W p l e R s m args below meth c H locs cells slots Q (F0 m pc ls (.ref a :: rest)) :=
  g_get (own := RX4) (ref := "WheatRun$Truck") (C := RX5) (T := TX5) (N := 10) (ci := 6) (index := 18) hx hb hts hown hK hM iaX5 rfl 2 (by decide) wf_X4_18 (fun _ h => h) ha rfl hdg kk
theorem fg_X4_24 {v0 v1 v2 v3 v4 v5 v6 v7 v8 v9 : Value} (hx : p.tables.exec = Jvm.exec) (hb : c.code = cc) (hts : ∀ w ∈ AL, w.before args s = true) (hown : s.vm.findClass RX4 = some m.cls) (hK : Kw G s) (hM : Wd G M s H locs) (ha : M a = some (r, .inr (6, [v0, v1, v2, v3, v4, v5, v6, v7, v8, v9]))) (hdg : decode cc pc = .ok (.getfield 24, 3)) (kk : W p l e R s m args below meth c H locs cells slots Q (F0 m (pc + 3) ls (v4 :: rest))) : W p l e R s m args below meth c H locs cells slots Q (F0 m pc ls (.ref a :: rest)) :=
  g_get (own := RX4) (ref := "WheatRun$Truck") (C := RX5) (T := TX5) (N := 10) (ci := 6) (index := 24) hx hb hts hown hK hM iaX5 rfl 4 (by decide) wf_X4_24 (fun _ h => h) ha rfl hdg kk
theorem fg_X4_31 {v0 v1 v2 v3 v4 v5 v6 v7 v8 v9 : Value} (hx : p.tables.exec = Jvm.exec) (hb : c.code = cc) (hts : ∀ w ∈ AL, w.before args s = true) (hown : s.vm.findClass RX4 = some m.cls) (hK : Kw G s) (hM : Wd G M s H locs) (ha : M a = some (r, .inr (6, [v0, v1, v2, v3, v4, v5, v6, v7, v8, v9]))) (hdg : decode cc pc = .ok (.getfield 31, 3)) (kk : W p l e R s m args below meth c H locs cells slots Q (F0 m (pc + 3) ls (v8 :: rest))) : W p l e R s m args below meth c H locs cells slots Q (F0 m pc ls (.ref a :: rest)) :=
  g_get (own := RX4) (ref := "WheatRun$Truck") (C := RX5) (T := TX5) (N := 10) (ci := 6) (index := 31) hx hb hts hown hK hM iaX5 rfl 8 (by decide) wf_X4_31 (fun _ h => h) ha rfl hdg kk
theorem fg_X5_9 {v0 v1 v2 v3 v4 v5 v6 v7 v8 v9 : Value} (hx : p.tables.exec = Jvm.exec) (hb : c.code = cc) (hts : ∀ w ∈ AL, w.before args s = true) (hown : s.vm.findClass RX5 = some m.cls) (hK : Kw G s) (hM : Wd G M s H locs) (ha : M a = some (r, .inr (6, [v0, v1, v2, v3, v4, v5, v6, v7, v8, v9]))) (hdg : decode cc pc = .ok (.getfield 9, 3)) (kk : W p l e R s m args below meth c H locs cells slots Q (F0 m (pc + 3) ls (v3 :: rest))) : W p l e R s m args below meth c H locs cells slots Q (F0 m pc ls (.ref a :: rest)) :=
  g_get (own := RX5) (ref := "WheatRun$Truck") (C := RX5) (T := TX5) (N := 10) (ci := 6) (index := 9) hx hb hts hown hK hM iaX5 rfl 3 (by decide) wf_X5_9 (fun _ h => h) ha rfl hdg kk
theorem fg_X5_15 {v0 v1 v2 v3 v4 v5 v6 v7 v8 v9 : Value} (hx : p.tables.exec = Jvm.exec) (hb : c.code = cc) (hts : ∀ w ∈ AL, w.before args s = true) (hown : s.vm.findClass RX5 = some m.cls) (hK : Kw G s) (hM : Wd G M s H locs) (ha : M a = some (r, .inr (6, [v0, v1, v2, v3, v4, v5, v6, v7, v8, v9]))) (hdg : decode cc pc = .ok (.getfield 15, 3)) (kk : W p l e R s m args below meth c H locs cells slots Q (F0 m (pc + 3) ls (v7 :: rest))) : W p l e R s m args below meth c H locs cells slots Q (F0 m pc ls (.ref a :: rest)) :=
  g_get (own := RX5) (ref := "WheatRun$Truck") (C := RX5) (T := TX5) (N := 10) (ci := 6) (index := 15) hx hb hts hown hK hM iaX5 rfl 7 (by decide) wf_X5_15 (fun _ h => h) ha rfl hdg kk
theorem fg_X5_18 {v0 v1 v2 v3 v4 v5 v6 v7 v8 v9 : Value} (hx : p.tables.exec = Jvm.exec) (hb : c.code = cc) (hts : ∀ w ∈ AL, w.before args s = true) (hown : s.vm.findClass RX5 = some m.cls) (hK : Kw G s) (hM : Wd G M s H locs) (ha : M a = some (r, .inr (6, [v0, v1, v2, v3, v4, v5, v6, v7, v8, v9]))) (hdg : decode cc pc = .ok (.getfield 18, 3)) (kk : W p l e R s m args below meth c H locs cells slots Q (F0 m (pc + 3) ls (v8 :: rest))) : W p l e R s m args below meth c H locs cells slots Q (F0 m pc ls (.ref a :: rest)) :=
  g_get (own := RX5) (ref := "WheatRun$Truck") (C := RX5) (T := TX5) (N := 10) (ci := 6) (index := 18) hx hb hts hown hK hM iaX5 rfl 8 (by decide) wf_X5_18 (fun _ h => h) ha rfl hdg kk
theorem fg_X5_21 {v0 v1 v2 v3 v4 v5 v6 v7 v8 v9 : Value} (hx : p.tables.exec = Jvm.exec) (hb : c.code = cc) (hts : ∀ w ∈ AL, w.before args s = true) (hown : s.vm.findClass RX5 = some m.cls) (hK : Kw G s) (hM : Wd G M s H locs) (ha : M a = some (r, .inr (6, [v0, v1, v2, v3, v4, v5, v6, v7, v8, v9]))) (hdg : decode cc pc = .ok (.getfield 21, 3)) (kk : W p l e R s m args below meth c H locs cells slots Q (F0 m (pc + 3) ls (v0 :: rest))) : W p l e R s m args below meth c H locs cells slots Q (F0 m pc ls (.ref a :: rest)) :=
  g_get (own := RX5) (ref := "WheatRun$Truck") (C := RX5) (T := TX5) (N := 10) (ci := 6) (index := 21) hx hb hts hown hK hM iaX5 rfl 0 (by decide) wf_X5_21 (fun _ h => h) ha rfl hdg kk
theorem fg_X5_24 {v0 v1 v2 v3 v4 v5 v6 v7 v8 v9 : Value} (hx : p.tables.exec = Jvm.exec) (hb : c.code = cc) (hts : ∀ w ∈ AL, w.before args s = true) (hown : s.vm.findClass RX5 = some m.cls) (hK : Kw G s) (hM : Wd G M s H locs) (ha : M a = some (r, .inr (6, [v0, v1, v2, v3, v4, v5, v6, v7, v8, v9]))) (hdg : decode cc pc = .ok (.getfield 24, 3)) (kk : W p l e R s m args below meth c H locs cells slots Q (F0 m (pc + 3) ls (v1 :: rest))) : W p l e R s m args below meth c H locs cells slots Q (F0 m pc ls (.ref a :: rest)) :=
  g_get (own := RX5) (ref := "WheatRun$Truck") (C := RX5) (T := TX5) (N := 10) (ci := 6) (index := 24) hx hb hts hown hK hM iaX5 rfl 1 (by decide) wf_X5_24 (fun _ h => h) ha rfl hdg kk
theorem fg_X5_27 {v0 v1 v2 v3 v4 v5 v6 v7 v8 v9 : Value} (hx : p.tables.exec = Jvm.exec) (hb : c.code = cc) (hts : ∀ w ∈ AL, w.before args s = true) (hown : s.vm.findClass RX5 = some m.cls) (hK : Kw G s) (hM : Wd G M s H locs) (ha : M a = some (r, .inr (6, [v0, v1, v2, v3, v4, v5, v6, v7, v8, v9]))) (hdg : decode cc pc = .ok (.getfield 27, 3)) (kk : W p l e R s m args below meth c H locs cells slots Q (F0 m (pc + 3) ls (v2 :: rest))) : W p l e R s m args below meth c H locs cells slots Q (F0 m pc ls (.ref a :: rest)) :=
  g_get (own := RX5) (ref := "WheatRun$Truck") (C := RX5) (T := TX5) (N := 10) (ci := 6) (index := 27) hx hb hts hown hK hM iaX5 rfl 2 (by decide) wf_X5_27 (fun _ h => h) ha rfl hdg kk
theorem fg_X5_30 {v0 v1 v2 v3 v4 v5 v6 v7 v8 v9 : Value} (hx : p.tables.exec = Jvm.exec) (hb : c.code = cc) (hts : ∀ w ∈ AL, w.before args s = true) (hown : s.vm.findClass RX5 = some m.cls) (hK : Kw G s) (hM : Wd G M s H locs) (ha : M a = some (r, .inr (6, [v0, v1, v2, v3, v4, v5, v6, v7, v8, v9]))) (hdg : decode cc pc = .ok (.getfield 30, 3)) (kk : W p l e R s m args below meth c H locs cells slots Q (F0 m (pc + 3) ls (v4 :: rest))) : W p l e R s m args below meth c H locs cells slots Q (F0 m pc ls (.ref a :: rest)) :=
  g_get (own := RX5) (ref := "WheatRun$Truck") (C := RX5) (T := TX5) (N := 10) (ci := 6) (index := 30) hx hb hts hown hK hM iaX5 rfl 4 (by decide) wf_X5_30 (fun _ h => h) ha rfl hdg kk
theorem fg_X5_33 {v0 v1 v2 v3 v4 v5 v6 v7 v8 v9 : Value} (hx : p.tables.exec = Jvm.exec) (hb : c.code = cc) (hts : ∀ w ∈ AL, w.before args s = true) (hown : s.vm.findClass RX5 = some m.cls) (hK : Kw G s) (hM : Wd G M s H locs) (ha : M a = some (r, .inr (6, [v0, v1, v2, v3, v4, v5, v6, v7, v8, v9]))) (hdg : decode cc pc = .ok (.getfield 33, 3)) (kk : W p l e R s m args below meth c H locs cells slots Q (F0 m (pc + 3) ls (v5 :: rest))) : W p l e R s m args below meth c H locs cells slots Q (F0 m pc ls (.ref a :: rest)) :=
  g_get (own := RX5) (ref := "WheatRun$Truck") (C := RX5) (T := TX5) (N := 10) (ci := 6) (index := 33) hx hb hts hown hK hM iaX5 rfl 5 (by decide) wf_X5_33 (fun _ h => h) ha rfl hdg kk
theorem fg_X5_36 {v0 v1 v2 v3 v4 v5 v6 v7 v8 v9 : Value} (hx : p.tables.exec = Jvm.exec) (hb : c.code = cc) (hts : ∀ w ∈ AL, w.before args s = true) (hown : s.vm.findClass RX5 = some m.cls) (hK : Kw G s) (hM : Wd G M s H locs) (ha : M a = some (r, .inr (6, [v0, v1, v2, v3, v4, v5, v6, v7, v8, v9]))) (hdg : decode cc pc = .ok (.getfield 36, 3)) (kk : W p l e R s m args below meth c H locs cells slots Q (F0 m (pc + 3) ls (v6 :: rest))) : W p l e R s m args below meth c H locs cells slots Q (F0 m pc ls (.ref a :: rest)) :=
  g_get (own := RX5) (ref := "WheatRun$Truck") (C := RX5) (T := TX5) (N := 10) (ci := 6) (index := 36) hx hb hts hown hK hM iaX5 rfl 6 (by decide) wf_X5_36 (fun _ h => h) ha rfl hdg kk
theorem fg_X5_39 {v0 v1 v2 v3 v4 v5 v6 v7 v8 v9 : Value} (hx : p.tables.exec = Jvm.exec) (hb : c.code = cc) (hts : ∀ w ∈ AL, w.before args s = true) (hown : s.vm.findClass RX5 = some m.cls) (hK : Kw G s) (hM : Wd G M s H locs) (ha : M a = some (r, .inr (6, [v0, v1, v2, v3, v4, v5, v6, v7, v8, v9]))) (hdg : decode cc pc = .ok (.getfield 39, 3)) (kk : W p l e R s m args below meth c H locs cells slots Q (F0 m (pc + 3) ls (v9 :: rest))) : W p l e R s m args below meth c H locs cells slots Q (F0 m pc ls (.ref a :: rest)) :=
  g_get (own := RX5) (ref := "WheatRun$Truck") (C := RX5) (T := TX5) (N := 10) (ci := 6) (index := 39) hx hb hts hown hK hM iaX5 rfl 9 (by decide) wf_X5_39 (fun _ h => h) ha rfl hdg kk
theorem fg_X5_52 {v0 v1 v2 v3 v4 v5 v6 v7 v8 v9 v10 v11 : Value} (hx : p.tables.exec = Jvm.exec) (hb : c.code = cc) (hts : ∀ w ∈ AL, w.before args s = true) (hown : s.vm.findClass RX5 = some m.cls) (hK : Kw G s) (hM : Wd G M s H locs) (ha : M a = some (r, .inr (1, [v0, v1, v2, v3, v4, v5, v6, v7, v8, v9, v10, v11]))) (hdg : decode cc pc = .ok (.getfield 52, 3)) (kk : W p l e R s m args below meth c H locs cells slots Q (F0 m (pc + 3) ls (v4 :: rest))) : W p l e R s m args below meth c H locs cells slots Q (F0 m pc ls (.ref a :: rest)) :=
  g_get (own := RX5) (ref := "WheatRun$Combine") (C := RX0) (T := TX0) (N := 12) (ci := 1) (index := 52) hx hb hts hown hK hM iaX0 rfl 4 (by decide) wf_X5_52 (fun _ h => h) ha rfl hdg kk
theorem fg_X5_57 {v0 v1 v2 v3 v4 v5 v6 v7 v8 v9 v10 v11 : Value} (hx : p.tables.exec = Jvm.exec) (hb : c.code = cc) (hts : ∀ w ∈ AL, w.before args s = true) (hown : s.vm.findClass RX5 = some m.cls) (hK : Kw G s) (hM : Wd G M s H locs) (ha : M a = some (r, .inr (1, [v0, v1, v2, v3, v4, v5, v6, v7, v8, v9, v10, v11]))) (hdg : decode cc pc = .ok (.getfield 57, 3)) (kk : W p l e R s m args below meth c H locs cells slots Q (F0 m (pc + 3) ls (v3 :: rest))) : W p l e R s m args below meth c H locs cells slots Q (F0 m pc ls (.ref a :: rest)) :=
  g_get (own := RX5) (ref := "WheatRun$Combine") (C := RX0) (T := TX0) (N := 12) (ci := 1) (index := 57) hx hb hts hown hK hM iaX0 rfl 3 (by decide) wf_X5_57 (fun _ h => h) ha rfl hdg kk
theorem fg_X5_64 {v0 v1 v2 v3 v4 v5 v6 v7 v8 v9 v10 v11 : Value} (hx : p.tables.exec = Jvm.exec) (hb : c.code = cc) (hts : ∀ w ∈ AL, w.before args s = true) (hown : s.vm.findClass RX5 = some m.cls) (hK : Kw G s) (hM : Wd G M s H locs) (ha : M a = some (r, .inr (1, [v0, v1, v2, v3, v4, v5, v6, v7, v8, v9, v10, v11]))) (hdg : decode cc pc = .ok (.getfield 64, 3)) (kk : W p l e R s m args below meth c H locs cells slots Q (F0 m (pc + 3) ls (v5 :: rest))) : W p l e R s m args below meth c H locs cells slots Q (F0 m pc ls (.ref a :: rest)) :=
  g_get (own := RX5) (ref := "WheatRun$Combine") (C := RX0) (T := TX0) (N := 12) (ci := 1) (index := 64) hx hb hts hown hK hM iaX0 rfl 5 (by decide) wf_X5_64 (fun _ h => h) ha rfl hdg kk
theorem fg_X6_12 {v0 v1 v2 : Value} (hx : p.tables.exec = Jvm.exec) (hb : c.code = cc) (hts : ∀ w ∈ AL, w.before args s = true) (hown : s.vm.findClass RX6 = some m.cls) (hK : Kw G s) (hM : Wd G M s H locs) (ha : M a = some (r, .inr (7, [v0, v1, v2]))) (hdg : decode cc pc = .ok (.getfield 12, 3)) (kk : W p l e R s m args below meth c H locs cells slots Q (F0 m (pc + 3) ls (v0 :: rest))) : W p l e R s m args below meth c H locs cells slots Q (F0 m pc ls (.ref a :: rest)) :=
  g_get (own := RX6) (ref := "WheatRun") (C := RX6) (T := TX6) (N := 3) (ci := 7) (index := 12) hx hb hts hown hK hM iaX6 rfl 0 (by decide) wf_X6_12 (fun _ h => h) ha rfl hdg kk
theorem fg_X6_18 {v0 v1 v2 : Value} (hx : p.tables.exec = Jvm.exec) (hb : c.code = cc) (hts : ∀ w ∈ AL, w.before args s = true) (hown : s.vm.findClass RX6 = some m.cls) (hK : Kw G s) (hM : Wd G M s H locs) (ha : M a = some (r, .inr (7, [v0, v1, v2]))) (hdg : decode cc pc = .ok (.getfield 18, 3)) (kk : W p l e R s m args below meth c H locs cells slots Q (F0 m (pc + 3) ls (v1 :: rest))) : W p l e R s m args below meth c H locs cells slots Q (F0 m pc ls (.ref a :: rest)) :=
  g_get (own := RX6) (ref := "WheatRun") (C := RX6) (T := TX6) (N := 3) (ci := 7) (index := 18) hx hb hts hown hK hM iaX6 rfl 1 (by decide) wf_X6_18 (fun _ h => h) ha rfl hdg kk
theorem fg_X6_26 {v0 v1 v2 : Value} (hx : p.tables.exec = Jvm.exec) (hb : c.code = cc) (hts : ∀ w ∈ AL, w.before args s = true) (hown : s.vm.findClass RX6 = some m.cls) (hK : Kw G s) (hM : Wd G M s H locs) (ha : M a = some (r, .inr (7, [v0, v1, v2]))) (hdg : decode cc pc = .ok (.getfield 26, 3)) (kk : W p l e R s m args below meth c H locs cells slots Q (F0 m (pc + 3) ls (v2 :: rest))) : W p l e R s m args below meth c H locs cells slots Q (F0 m pc ls (.ref a :: rest)) :=
  g_get (own := RX6) (ref := "WheatRun") (C := RX6) (T := TX6) (N := 3) (ci := 7) (index := 26) hx hb hts hown hK hM iaX6 rfl 2 (by decide) wf_X6_26 (fun _ h => h) ha rfl hdg kk
theorem fg_X6_46 {v0 v1 v2 v3 v4 v5 v6 v7 v8 : Value} (hx : p.tables.exec = Jvm.exec) (hb : c.code = cc) (hts : ∀ w ∈ AL, w.before args s = true) (hown : s.vm.findClass RX6 = some m.cls) (hK : Kw G s) (hM : Wd G M s H locs) (ha : M a = some (r, .inr (4, [v0, v1, v2, v3, v4, v5, v6, v7, v8]))) (hdg : decode cc pc = .ok (.getfield 46, 3)) (kk : W p l e R s m args below meth c H locs cells slots Q (F0 m (pc + 3) ls (v0 :: rest))) : W p l e R s m args below meth c H locs cells slots Q (F0 m pc ls (.ref a :: rest)) :=
  g_get (own := RX6) (ref := "WheatRun$Land") (C := RX3) (T := TX3) (N := 9) (ci := 4) (index := 46) hx hb hts hown hK hM iaX3 rfl 0 (by decide) wf_X6_46 (fun _ h => h) ha rfl hdg kk
theorem fg_X6_73 {v0 v1 v2 v3 v4 v5 v6 v7 v8 v9 v10 v11 v12 : Value} (hx : p.tables.exec = Jvm.exec) (hb : c.code = cc) (hts : ∀ w ∈ AL, w.before args s = true) (hown : s.vm.findClass RX6 = some m.cls) (hK : Kw G s) (hM : Wd G M s H locs) (ha : M a = some (r, .inr (3, [v0, v1, v2, v3, v4, v5, v6, v7, v8, v9, v10, v11, v12]))) (hdg : decode cc pc = .ok (.getfield 73, 3)) (kk : W p l e R s m args below meth c H locs cells slots Q (F0 m (pc + 3) ls (v6 :: rest))) : W p l e R s m args below meth c H locs cells slots Q (F0 m pc ls (.ref a :: rest)) :=
  g_get (own := RX6) (ref := "WheatRun$Field") (C := RX2) (T := TX2) (N := 13) (ci := 3) (index := 73) hx hb hts hown hK hM iaX2 rfl 6 (by decide) wf_X6_73 (fun _ h => h) ha rfl hdg kk
theorem fg_X6_77 {v0 v1 v2 v3 v4 v5 v6 v7 v8 v9 v10 v11 v12 : Value} (hx : p.tables.exec = Jvm.exec) (hb : c.code = cc) (hts : ∀ w ∈ AL, w.before args s = true) (hown : s.vm.findClass RX6 = some m.cls) (hK : Kw G s) (hM : Wd G M s H locs) (ha : M a = some (r, .inr (3, [v0, v1, v2, v3, v4, v5, v6, v7, v8, v9, v10, v11, v12]))) (hdg : decode cc pc = .ok (.getfield 77, 3)) (kk : W p l e R s m args below meth c H locs cells slots Q (F0 m (pc + 3) ls (v7 :: rest))) : W p l e R s m args below meth c H locs cells slots Q (F0 m pc ls (.ref a :: rest)) :=
  g_get (own := RX6) (ref := "WheatRun$Field") (C := RX2) (T := TX2) (N := 13) (ci := 3) (index := 77) hx hb hts hown hK hM iaX2 rfl 7 (by decide) wf_X6_77 (fun _ h => h) ha rfl hdg kk
theorem fg_X6_82 {v0 v1 v2 v3 v4 v5 v6 v7 v8 : Value} (hx : p.tables.exec = Jvm.exec) (hb : c.code = cc) (hts : ∀ w ∈ AL, w.before args s = true) (hown : s.vm.findClass RX6 = some m.cls) (hK : Kw G s) (hM : Wd G M s H locs) (ha : M a = some (r, .inr (4, [v0, v1, v2, v3, v4, v5, v6, v7, v8]))) (hdg : decode cc pc = .ok (.getfield 82, 3)) (kk : W p l e R s m args below meth c H locs cells slots Q (F0 m (pc + 3) ls (v1 :: rest))) : W p l e R s m args below meth c H locs cells slots Q (F0 m pc ls (.ref a :: rest)) :=
  g_get (own := RX6) (ref := "WheatRun$Land") (C := RX3) (T := TX3) (N := 9) (ci := 4) (index := 82) hx hb hts hown hK hM iaX3 rfl 1 (by decide) wf_X6_82 (fun _ h => h) ha rfl hdg kk
theorem fg_X6_94 {v0 v1 v2 v3 v4 v5 v6 v7 v8 : Value} (hx : p.tables.exec = Jvm.exec) (hb : c.code = cc) (hts : ∀ w ∈ AL, w.before args s = true) (hown : s.vm.findClass RX6 = some m.cls) (hK : Kw G s) (hM : Wd G M s H locs) (ha : M a = some (r, .inr (4, [v0, v1, v2, v3, v4, v5, v6, v7, v8]))) (hdg : decode cc pc = .ok (.getfield 94, 3)) (kk : W p l e R s m args below meth c H locs cells slots Q (F0 m (pc + 3) ls (v2 :: rest))) : W p l e R s m args below meth c H locs cells slots Q (F0 m pc ls (.ref a :: rest)) :=
  g_get (own := RX6) (ref := "WheatRun$Land") (C := RX3) (T := TX3) (N := 9) (ci := 4) (index := 94) hx hb hts hown hK hM iaX3 rfl 2 (by decide) wf_X6_94 (fun _ h => h) ha rfl hdg kk
theorem fg_X6_110 {v0 v1 v2 v3 v4 v5 v6 v7 v8 : Value} (hx : p.tables.exec = Jvm.exec) (hb : c.code = cc) (hts : ∀ w ∈ AL, w.before args s = true) (hown : s.vm.findClass RX6 = some m.cls) (hK : Kw G s) (hM : Wd G M s H locs) (ha : M a = some (r, .inr (4, [v0, v1, v2, v3, v4, v5, v6, v7, v8]))) (hdg : decode cc pc = .ok (.getfield 110, 3)) (kk : W p l e R s m args below meth c H locs cells slots Q (F0 m (pc + 3) ls (v3 :: rest))) : W p l e R s m args below meth c H locs cells slots Q (F0 m pc ls (.ref a :: rest)) :=
  g_get (own := RX6) (ref := "WheatRun$Land") (C := RX3) (T := TX3) (N := 9) (ci := 4) (index := 110) hx hb hts hown hK hM iaX3 rfl 3 (by decide) wf_X6_110 (fun _ h => h) ha rfl hdg kk
theorem fg_X6_131 {v0 v1 v2 v3 v4 v5 v6 v7 v8 v9 v10 v11 : Value} (hx : p.tables.exec = Jvm.exec) (hb : c.code = cc) (hts : ∀ w ∈ AL, w.before args s = true) (hown : s.vm.findClass RX6 = some m.cls) (hK : Kw G s) (hM : Wd G M s H locs) (ha : M a = some (r, .inr (1, [v0, v1, v2, v3, v4, v5, v6, v7, v8, v9, v10, v11]))) (hdg : decode cc pc = .ok (.getfield 131, 3)) (kk : W p l e R s m args below meth c H locs cells slots Q (F0 m (pc + 3) ls (v9 :: rest))) : W p l e R s m args below meth c H locs cells slots Q (F0 m pc ls (.ref a :: rest)) :=
  g_get (own := RX6) (ref := "WheatRun$Combine") (C := RX0) (T := TX0) (N := 12) (ci := 1) (index := 131) hx hb hts hown hK hM iaX0 rfl 9 (by decide) wf_X6_131 (fun _ h => h) ha rfl hdg kk
theorem fg_X6_150 {v0 v1 v2 v3 v4 v5 v6 v7 v8 v9 v10 v11 : Value} (hx : p.tables.exec = Jvm.exec) (hb : c.code = cc) (hts : ∀ w ∈ AL, w.before args s = true) (hown : s.vm.findClass RX6 = some m.cls) (hK : Kw G s) (hM : Wd G M s H locs) (ha : M a = some (r, .inr (1, [v0, v1, v2, v3, v4, v5, v6, v7, v8, v9, v10, v11]))) (hdg : decode cc pc = .ok (.getfield 150, 3)) (kk : W p l e R s m args below meth c H locs cells slots Q (F0 m (pc + 3) ls (v1 :: rest))) : W p l e R s m args below meth c H locs cells slots Q (F0 m pc ls (.ref a :: rest)) :=
  g_get (own := RX6) (ref := "WheatRun$Combine") (C := RX0) (T := TX0) (N := 12) (ci := 1) (index := 150) hx hb hts hown hK hM iaX0 rfl 1 (by decide) wf_X6_150 (fun _ h => h) ha rfl hdg kk
theorem fg_X6_153 {v0 v1 v2 v3 v4 v5 v6 v7 v8 v9 : Value} (hx : p.tables.exec = Jvm.exec) (hb : c.code = cc) (hts : ∀ w ∈ AL, w.before args s = true) (hown : s.vm.findClass RX6 = some m.cls) (hK : Kw G s) (hM : Wd G M s H locs) (ha : M a = some (r, .inr (6, [v0, v1, v2, v3, v4, v5, v6, v7, v8, v9]))) (hdg : decode cc pc = .ok (.getfield 153, 3)) (kk : W p l e R s m args below meth c H locs cells slots Q (F0 m (pc + 3) ls (v0 :: rest))) : W p l e R s m args below meth c H locs cells slots Q (F0 m pc ls (.ref a :: rest)) :=
  g_get (own := RX6) (ref := "WheatRun$Truck") (C := RX5) (T := TX5) (N := 10) (ci := 6) (index := 153) hx hb hts hown hK hM iaX5 rfl 0 (by decide) wf_X6_153 (fun _ h => h) ha rfl hdg kk
theorem fg_X6_165 {v0 v1 v2 v3 v4 v5 : Value} (hx : p.tables.exec = Jvm.exec) (hb : c.code = cc) (hts : ∀ w ∈ AL, w.before args s = true) (hown : s.vm.findClass RX6 = some m.cls) (hK : Kw G s) (hM : Wd G M s H locs) (ha : M a = some (r, .inr (2, [v0, v1, v2, v3, v4, v5]))) (hdg : decode cc pc = .ok (.getfield 165, 3)) (kk : W p l e R s m args below meth c H locs cells slots Q (F0 m (pc + 3) ls (v0 :: rest))) : W p l e R s m args below meth c H locs cells slots Q (F0 m pc ls (.ref a :: rest)) :=
  g_get (own := RX6) (ref := "WheatRun$Elevator") (C := RX1) (T := TX1) (N := 6) (ci := 2) (index := 165) hx hb hts hown hK hM iaX1 rfl 0 (by decide) wf_X6_165 (fun _ h => h) ha rfl hdg kk
theorem fg_X6_166 {v0 v1 v2 v3 v4 v5 v6 v7 v8 v9 : Value} (hx : p.tables.exec = Jvm.exec) (hb : c.code = cc) (hts : ∀ w ∈ AL, w.before args s = true) (hown : s.vm.findClass RX6 = some m.cls) (hK : Kw G s) (hM : Wd G M s H locs) (ha : M a = some (r, .inr (6, [v0, v1, v2, v3, v4, v5, v6, v7, v8, v9]))) (hdg : decode cc pc = .ok (.getfield 166, 3)) (kk : W p l e R s m args below meth c H locs cells slots Q (F0 m (pc + 3) ls (v1 :: rest))) : W p l e R s m args below meth c H locs cells slots Q (F0 m pc ls (.ref a :: rest)) :=
  g_get (own := RX6) (ref := "WheatRun$Truck") (C := RX5) (T := TX5) (N := 10) (ci := 6) (index := 166) hx hb hts hown hK hM iaX5 rfl 1 (by decide) wf_X6_166 (fun _ h => h) ha rfl hdg kk
theorem fg_X6_169 {v0 v1 v2 v3 v4 v5 v6 v7 v8 v9 v10 v11 : Value} (hx : p.tables.exec = Jvm.exec) (hb : c.code = cc) (hts : ∀ w ∈ AL, w.before args s = true) (hown : s.vm.findClass RX6 = some m.cls) (hK : Kw G s) (hM : Wd G M s H locs) (ha : M a = some (r, .inr (1, [v0, v1, v2, v3, v4, v5, v6, v7, v8, v9, v10, v11]))) (hdg : decode cc pc = .ok (.getfield 169, 3)) (kk : W p l e R s m args below meth c H locs cells slots Q (F0 m (pc + 3) ls (v6 :: rest))) : W p l e R s m args below meth c H locs cells slots Q (F0 m pc ls (.ref a :: rest)) :=
  g_get (own := RX6) (ref := "WheatRun$Combine") (C := RX0) (T := TX0) (N := 12) (ci := 1) (index := 169) hx hb hts hown hK hM iaX0 rfl 6 (by decide) wf_X6_169 (fun _ h => h) ha rfl hdg kk
theorem fg_X6_172 {v0 v1 v2 v3 v4 v5 v6 v7 v8 : Value} (hx : p.tables.exec = Jvm.exec) (hb : c.code = cc) (hts : ∀ w ∈ AL, w.before args s = true) (hown : s.vm.findClass RX6 = some m.cls) (hK : Kw G s) (hM : Wd G M s H locs) (ha : M a = some (r, .inr (4, [v0, v1, v2, v3, v4, v5, v6, v7, v8]))) (hdg : decode cc pc = .ok (.getfield 172, 3)) (kk : W p l e R s m args below meth c H locs cells slots Q (F0 m (pc + 3) ls (v8 :: rest))) : W p l e R s m args below meth c H locs cells slots Q (F0 m pc ls (.ref a :: rest)) :=
  g_get (own := RX6) (ref := "WheatRun$Land") (C := RX3) (T := TX3) (N := 9) (ci := 4) (index := 172) hx hb hts hown hK hM iaX3 rfl 8 (by decide) wf_X6_172 (fun _ h => h) ha rfl hdg kk
theorem fg_X6_177 {v0 v1 v2 v3 v4 v5 v6 v7 v8 v9 v10 v11 : Value} (hx : p.tables.exec = Jvm.exec) (hb : c.code = cc) (hts : ∀ w ∈ AL, w.before args s = true) (hown : s.vm.findClass RX6 = some m.cls) (hK : Kw G s) (hM : Wd G M s H locs) (ha : M a = some (r, .inr (1, [v0, v1, v2, v3, v4, v5, v6, v7, v8, v9, v10, v11]))) (hdg : decode cc pc = .ok (.getfield 177, 3)) (kk : W p l e R s m args below meth c H locs cells slots Q (F0 m (pc + 3) ls (v7 :: rest))) : W p l e R s m args below meth c H locs cells slots Q (F0 m pc ls (.ref a :: rest)) :=
  g_get (own := RX6) (ref := "WheatRun$Combine") (C := RX0) (T := TX0) (N := 12) (ci := 1) (index := 177) hx hb hts hown hK hM iaX0 rfl 7 (by decide) wf_X6_177 (fun _ h => h) ha rfl hdg kk
theorem fg_X6_196 {v0 v1 v2 v3 v4 v5 v6 v7 v8 : Value} (hx : p.tables.exec = Jvm.exec) (hb : c.code = cc) (hts : ∀ w ∈ AL, w.before args s = true) (hown : s.vm.findClass RX6 = some m.cls) (hK : Kw G s) (hM : Wd G M s H locs) (ha : M a = some (r, .inr (4, [v0, v1, v2, v3, v4, v5, v6, v7, v8]))) (hdg : decode cc pc = .ok (.getfield 196, 3)) (kk : W p l e R s m args below meth c H locs cells slots Q (F0 m (pc + 3) ls (v6 :: rest))) : W p l e R s m args below meth c H locs cells slots Q (F0 m pc ls (.ref a :: rest)) :=
  g_get (own := RX6) (ref := "WheatRun$Land") (C := RX3) (T := TX3) (N := 9) (ci := 4) (index := 196) hx hb hts hown hK hM iaX3 rfl 6 (by decide) wf_X6_196 (fun _ h => h) ha rfl hdg kk
theorem fg_X6_201 {v0 v1 v2 v3 v4 v5 v6 v7 v8 : Value} (hx : p.tables.exec = Jvm.exec) (hb : c.code = cc) (hts : ∀ w ∈ AL, w.before args s = true) (hown : s.vm.findClass RX6 = some m.cls) (hK : Kw G s) (hM : Wd G M s H locs) (ha : M a = some (r, .inr (4, [v0, v1, v2, v3, v4, v5, v6, v7, v8]))) (hdg : decode cc pc = .ok (.getfield 201, 3)) (kk : W p l e R s m args below meth c H locs cells slots Q (F0 m (pc + 3) ls (v4 :: rest))) : W p l e R s m args below meth c H locs cells slots Q (F0 m pc ls (.ref a :: rest)) :=
  g_get (own := RX6) (ref := "WheatRun$Land") (C := RX3) (T := TX3) (N := 9) (ci := 4) (index := 201) hx hb hts hown hK hM iaX3 rfl 4 (by decide) wf_X6_201 (fun _ h => h) ha rfl hdg kk
theorem fg_X6_209 {v0 v1 v2 v3 v4 v5 v6 v7 v8 v9 v10 v11 v12 : Value} (hx : p.tables.exec = Jvm.exec) (hb : c.code = cc) (hts : ∀ w ∈ AL, w.before args s = true) (hown : s.vm.findClass RX6 = some m.cls) (hK : Kw G s) (hM : Wd G M s H locs) (ha : M a = some (r, .inr (3, [v0, v1, v2, v3, v4, v5, v6, v7, v8, v9, v10, v11, v12]))) (hdg : decode cc pc = .ok (.getfield 209, 3)) (kk : W p l e R s m args below meth c H locs cells slots Q (F0 m (pc + 3) ls (v0 :: rest))) : W p l e R s m args below meth c H locs cells slots Q (F0 m pc ls (.ref a :: rest)) :=
  g_get (own := RX6) (ref := "WheatRun$Field") (C := RX2) (T := TX2) (N := 13) (ci := 3) (index := 209) hx hb hts hown hK hM iaX2 rfl 0 (by decide) wf_X6_209 (fun _ h => h) ha rfl hdg kk
theorem fg_X6_212 {v0 v1 v2 v3 v4 v5 v6 v7 v8 v9 v10 v11 v12 : Value} (hx : p.tables.exec = Jvm.exec) (hb : c.code = cc) (hts : ∀ w ∈ AL, w.before args s = true) (hown : s.vm.findClass RX6 = some m.cls) (hK : Kw G s) (hM : Wd G M s H locs) (ha : M a = some (r, .inr (3, [v0, v1, v2, v3, v4, v5, v6, v7, v8, v9, v10, v11, v12]))) (hdg : decode cc pc = .ok (.getfield 212, 3)) (kk : W p l e R s m args below meth c H locs cells slots Q (F0 m (pc + 3) ls (v1 :: rest))) : W p l e R s m args below meth c H locs cells slots Q (F0 m pc ls (.ref a :: rest)) :=
  g_get (own := RX6) (ref := "WheatRun$Field") (C := RX2) (T := TX2) (N := 13) (ci := 3) (index := 212) hx hb hts hown hK hM iaX2 rfl 1 (by decide) wf_X6_212 (fun _ h => h) ha rfl hdg kk
theorem fg_X6_213 {v0 v1 v2 v3 v4 v5 v6 v7 v8 v9 v10 v11 v12 : Value} (hx : p.tables.exec = Jvm.exec) (hb : c.code = cc) (hts : ∀ w ∈ AL, w.before args s = true) (hown : s.vm.findClass RX6 = some m.cls) (hK : Kw G s) (hM : Wd G M s H locs) (ha : M a = some (r, .inr (3, [v0, v1, v2, v3, v4, v5, v6, v7, v8, v9, v10, v11, v12]))) (hdg : decode cc pc = .ok (.getfield 213, 3)) (kk : W p l e R s m args below meth c H locs cells slots Q (F0 m (pc + 3) ls (v2 :: rest))) : W p l e R s m args below meth c H locs cells slots Q (F0 m pc ls (.ref a :: rest)) :=
  g_get (own := RX6) (ref := "WheatRun$Field") (C := RX2) (T := TX2) (N := 13) (ci := 3) (index := 213) hx hb hts hown hK hM iaX2 rfl 2 (by decide) wf_X6_213 (fun _ h => h) ha rfl hdg kk
theorem fg_X6_216 {v0 v1 v2 v3 v4 v5 v6 v7 v8 v9 v10 v11 v12 : Value} (hx : p.tables.exec = Jvm.exec) (hb : c.code = cc) (hts : ∀ w ∈ AL, w.before args s = true) (hown : s.vm.findClass RX6 = some m.cls) (hK : Kw G s) (hM : Wd G M s H locs) (ha : M a = some (r, .inr (3, [v0, v1, v2, v3, v4, v5, v6, v7, v8, v9, v10, v11, v12]))) (hdg : decode cc pc = .ok (.getfield 216, 3)) (kk : W p l e R s m args below meth c H locs cells slots Q (F0 m (pc + 3) ls (v5 :: rest))) : W p l e R s m args below meth c H locs cells slots Q (F0 m pc ls (.ref a :: rest)) :=
  g_get (own := RX6) (ref := "WheatRun$Field") (C := RX2) (T := TX2) (N := 13) (ci := 3) (index := 216) hx hb hts hown hK hM iaX2 rfl 5 (by decide) wf_X6_216 (fun _ h => h) ha rfl hdg kk
theorem fg_X6_219 {v0 v1 v2 v3 v4 v5 v6 v7 v8 v9 v10 v11 v12 : Value} (hx : p.tables.exec = Jvm.exec) (hb : c.code = cc) (hts : ∀ w ∈ AL, w.before args s = true) (hown : s.vm.findClass RX6 = some m.cls) (hK : Kw G s) (hM : Wd G M s H locs) (ha : M a = some (r, .inr (3, [v0, v1, v2, v3, v4, v5, v6, v7, v8, v9, v10, v11, v12]))) (hdg : decode cc pc = .ok (.getfield 219, 3)) (kk : W p l e R s m args below meth c H locs cells slots Q (F0 m (pc + 3) ls (v8 :: rest))) : W p l e R s m args below meth c H locs cells slots Q (F0 m pc ls (.ref a :: rest)) :=
  g_get (own := RX6) (ref := "WheatRun$Field") (C := RX2) (T := TX2) (N := 13) (ci := 3) (index := 219) hx hb hts hown hK hM iaX2 rfl 8 (by decide) wf_X6_219 (fun _ h => h) ha rfl hdg kk
theorem fg_X6_222 {v0 v1 v2 v3 v4 v5 v6 v7 v8 v9 v10 v11 v12 : Value} (hx : p.tables.exec = Jvm.exec) (hb : c.code = cc) (hts : ∀ w ∈ AL, w.before args s = true) (hown : s.vm.findClass RX6 = some m.cls) (hK : Kw G s) (hM : Wd G M s H locs) (ha : M a = some (r, .inr (3, [v0, v1, v2, v3, v4, v5, v6, v7, v8, v9, v10, v11, v12]))) (hdg : decode cc pc = .ok (.getfield 222, 3)) (kk : W p l e R s m args below meth c H locs cells slots Q (F0 m (pc + 3) ls (v9 :: rest))) : W p l e R s m args below meth c H locs cells slots Q (F0 m pc ls (.ref a :: rest)) :=
  g_get (own := RX6) (ref := "WheatRun$Field") (C := RX2) (T := TX2) (N := 13) (ci := 3) (index := 222) hx hb hts hown hK hM iaX2 rfl 9 (by decide) wf_X6_222 (fun _ h => h) ha rfl hdg kk
theorem fg_X6_225 {v0 v1 v2 v3 v4 v5 v6 v7 v8 v9 v10 v11 v12 : Value} (hx : p.tables.exec = Jvm.exec) (hb : c.code = cc) (hts : ∀ w ∈ AL, w.before args s = true) (hown : s.vm.findClass RX6 = some m.cls) (hK : Kw G s) (hM : Wd G M s H locs) (ha : M a = some (r, .inr (3, [v0, v1, v2, v3, v4, v5, v6, v7, v8, v9, v10, v11, v12]))) (hdg : decode cc pc = .ok (.getfield 225, 3)) (kk : W p l e R s m args below meth c H locs cells slots Q (F0 m (pc + 3) ls (v10 :: rest))) : W p l e R s m args below meth c H locs cells slots Q (F0 m pc ls (.ref a :: rest)) :=
  g_get (own := RX6) (ref := "WheatRun$Field") (C := RX2) (T := TX2) (N := 13) (ci := 3) (index := 225) hx hb hts hown hK hM iaX2 rfl 10 (by decide) wf_X6_225 (fun _ h => h) ha rfl hdg kk
theorem fg_X6_234 {v0 v1 v2 v3 v4 v5 v6 v7 v8 v9 v10 v11 : Value} (hx : p.tables.exec = Jvm.exec) (hb : c.code = cc) (hts : ∀ w ∈ AL, w.before args s = true) (hown : s.vm.findClass RX6 = some m.cls) (hK : Kw G s) (hM : Wd G M s H locs) (ha : M a = some (r, .inr (1, [v0, v1, v2, v3, v4, v5, v6, v7, v8, v9, v10, v11]))) (hdg : decode cc pc = .ok (.getfield 234, 3)) (kk : W p l e R s m args below meth c H locs cells slots Q (F0 m (pc + 3) ls (v3 :: rest))) : W p l e R s m args below meth c H locs cells slots Q (F0 m pc ls (.ref a :: rest)) :=
  g_get (own := RX6) (ref := "WheatRun$Combine") (C := RX0) (T := TX0) (N := 12) (ci := 1) (index := 234) hx hb hts hown hK hM iaX0 rfl 3 (by decide) wf_X6_234 (fun _ h => h) ha rfl hdg kk
theorem fg_X6_237 {v0 v1 v2 v3 v4 v5 v6 v7 v8 v9 v10 v11 : Value} (hx : p.tables.exec = Jvm.exec) (hb : c.code = cc) (hts : ∀ w ∈ AL, w.before args s = true) (hown : s.vm.findClass RX6 = some m.cls) (hK : Kw G s) (hM : Wd G M s H locs) (ha : M a = some (r, .inr (1, [v0, v1, v2, v3, v4, v5, v6, v7, v8, v9, v10, v11]))) (hdg : decode cc pc = .ok (.getfield 237, 3)) (kk : W p l e R s m args below meth c H locs cells slots Q (F0 m (pc + 3) ls (v4 :: rest))) : W p l e R s m args below meth c H locs cells slots Q (F0 m pc ls (.ref a :: rest)) :=
  g_get (own := RX6) (ref := "WheatRun$Combine") (C := RX0) (T := TX0) (N := 12) (ci := 1) (index := 237) hx hb hts hown hK hM iaX0 rfl 4 (by decide) wf_X6_237 (fun _ h => h) ha rfl hdg kk
theorem fg_X6_240 {v0 v1 v2 v3 v4 v5 v6 v7 v8 v9 v10 v11 : Value} (hx : p.tables.exec = Jvm.exec) (hb : c.code = cc) (hts : ∀ w ∈ AL, w.before args s = true) (hown : s.vm.findClass RX6 = some m.cls) (hK : Kw G s) (hM : Wd G M s H locs) (ha : M a = some (r, .inr (1, [v0, v1, v2, v3, v4, v5, v6, v7, v8, v9, v10, v11]))) (hdg : decode cc pc = .ok (.getfield 240, 3)) (kk : W p l e R s m args below meth c H locs cells slots Q (F0 m (pc + 3) ls (v10 :: rest))) : W p l e R s m args below meth c H locs cells slots Q (F0 m pc ls (.ref a :: rest)) :=
  g_get (own := RX6) (ref := "WheatRun$Combine") (C := RX0) (T := TX0) (N := 12) (ci := 1) (index := 240) hx hb hts hown hK hM iaX0 rfl 10 (by decide) wf_X6_240 (fun _ h => h) ha rfl hdg kk
theorem fg_X6_241 {v0 v1 v2 v3 v4 v5 v6 v7 v8 v9 v10 v11 : Value} (hx : p.tables.exec = Jvm.exec) (hb : c.code = cc) (hts : ∀ w ∈ AL, w.before args s = true) (hown : s.vm.findClass RX6 = some m.cls) (hK : Kw G s) (hM : Wd G M s H locs) (ha : M a = some (r, .inr (1, [v0, v1, v2, v3, v4, v5, v6, v7, v8, v9, v10, v11]))) (hdg : decode cc pc = .ok (.getfield 241, 3)) (kk : W p l e R s m args below meth c H locs cells slots Q (F0 m (pc + 3) ls (v8 :: rest))) : W p l e R s m args below meth c H locs cells slots Q (F0 m pc ls (.ref a :: rest)) :=
  g_get (own := RX6) (ref := "WheatRun$Combine") (C := RX0) (T := TX0) (N := 12) (ci := 1) (index := 241) hx hb hts hown hK hM iaX0 rfl 8 (by decide) wf_X6_241 (fun _ h => h) ha rfl hdg kk
theorem fg_X6_244 {v0 v1 v2 v3 v4 v5 v6 v7 v8 v9 : Value} (hx : p.tables.exec = Jvm.exec) (hb : c.code = cc) (hts : ∀ w ∈ AL, w.before args s = true) (hown : s.vm.findClass RX6 = some m.cls) (hK : Kw G s) (hM : Wd G M s H locs) (ha : M a = some (r, .inr (6, [v0, v1, v2, v3, v4, v5, v6, v7, v8, v9]))) (hdg : decode cc pc = .ok (.getfield 244, 3)) (kk : W p l e R s m args below meth c H locs cells slots Q (F0 m (pc + 3) ls (v2 :: rest))) : W p l e R s m args below meth c H locs cells slots Q (F0 m pc ls (.ref a :: rest)) :=
  g_get (own := RX6) (ref := "WheatRun$Truck") (C := RX5) (T := TX5) (N := 10) (ci := 6) (index := 244) hx hb hts hown hK hM iaX5 rfl 2 (by decide) wf_X6_244 (fun _ h => h) ha rfl hdg kk
theorem fg_X6_247 {v0 v1 v2 v3 v4 v5 v6 v7 v8 v9 : Value} (hx : p.tables.exec = Jvm.exec) (hb : c.code = cc) (hts : ∀ w ∈ AL, w.before args s = true) (hown : s.vm.findClass RX6 = some m.cls) (hK : Kw G s) (hM : Wd G M s H locs) (ha : M a = some (r, .inr (6, [v0, v1, v2, v3, v4, v5, v6, v7, v8, v9]))) (hdg : decode cc pc = .ok (.getfield 247, 3)) (kk : W p l e R s m args below meth c H locs cells slots Q (F0 m (pc + 3) ls (v3 :: rest))) : W p l e R s m args below meth c H locs cells slots Q (F0 m pc ls (.ref a :: rest)) :=
  g_get (own := RX6) (ref := "WheatRun$Truck") (C := RX5) (T := TX5) (N := 10) (ci := 6) (index := 247) hx hb hts hown hK hM iaX5 rfl 3 (by decide) wf_X6_247 (fun _ h => h) ha rfl hdg kk
theorem fg_X6_250 {v0 v1 v2 v3 v4 v5 v6 v7 v8 v9 : Value} (hx : p.tables.exec = Jvm.exec) (hb : c.code = cc) (hts : ∀ w ∈ AL, w.before args s = true) (hown : s.vm.findClass RX6 = some m.cls) (hK : Kw G s) (hM : Wd G M s H locs) (ha : M a = some (r, .inr (6, [v0, v1, v2, v3, v4, v5, v6, v7, v8, v9]))) (hdg : decode cc pc = .ok (.getfield 250, 3)) (kk : W p l e R s m args below meth c H locs cells slots Q (F0 m (pc + 3) ls (v4 :: rest))) : W p l e R s m args below meth c H locs cells slots Q (F0 m pc ls (.ref a :: rest)) :=
  g_get (own := RX6) (ref := "WheatRun$Truck") (C := RX5) (T := TX5) (N := 10) (ci := 6) (index := 250) hx hb hts hown hK hM iaX5 rfl 4 (by decide) wf_X6_250 (fun _ h => h) ha rfl hdg kk
theorem fg_X6_251 {v0 v1 v2 v3 v4 v5 v6 v7 v8 v9 : Value} (hx : p.tables.exec = Jvm.exec) (hb : c.code = cc) (hts : ∀ w ∈ AL, w.before args s = true) (hown : s.vm.findClass RX6 = some m.cls) (hK : Kw G s) (hM : Wd G M s H locs) (ha : M a = some (r, .inr (6, [v0, v1, v2, v3, v4, v5, v6, v7, v8, v9]))) (hdg : decode cc pc = .ok (.getfield 251, 3)) (kk : W p l e R s m args below meth c H locs cells slots Q (F0 m (pc + 3) ls (v5 :: rest))) : W p l e R s m args below meth c H locs cells slots Q (F0 m pc ls (.ref a :: rest)) :=
  g_get (own := RX6) (ref := "WheatRun$Truck") (C := RX5) (T := TX5) (N := 10) (ci := 6) (index := 251) hx hb hts hown hK hM iaX5 rfl 5 (by decide) wf_X6_251 (fun _ h => h) ha rfl hdg kk
theorem fg_X6_254 {v0 v1 v2 v3 v4 v5 v6 v7 v8 v9 : Value} (hx : p.tables.exec = Jvm.exec) (hb : c.code = cc) (hts : ∀ w ∈ AL, w.before args s = true) (hown : s.vm.findClass RX6 = some m.cls) (hK : Kw G s) (hM : Wd G M s H locs) (ha : M a = some (r, .inr (6, [v0, v1, v2, v3, v4, v5, v6, v7, v8, v9]))) (hdg : decode cc pc = .ok (.getfield 254, 3)) (kk : W p l e R s m args below meth c H locs cells slots Q (F0 m (pc + 3) ls (v6 :: rest))) : W p l e R s m args below meth c H locs cells slots Q (F0 m pc ls (.ref a :: rest)) :=
  g_get (own := RX6) (ref := "WheatRun$Truck") (C := RX5) (T := TX5) (N := 10) (ci := 6) (index := 254) hx hb hts hown hK hM iaX5 rfl 6 (by decide) wf_X6_254 (fun _ h => h) ha rfl hdg kk
theorem fg_X6_257 {v0 v1 v2 v3 v4 v5 v6 v7 v8 v9 : Value} (hx : p.tables.exec = Jvm.exec) (hb : c.code = cc) (hts : ∀ w ∈ AL, w.before args s = true) (hown : s.vm.findClass RX6 = some m.cls) (hK : Kw G s) (hM : Wd G M s H locs) (ha : M a = some (r, .inr (6, [v0, v1, v2, v3, v4, v5, v6, v7, v8, v9]))) (hdg : decode cc pc = .ok (.getfield 257, 3)) (kk : W p l e R s m args below meth c H locs cells slots Q (F0 m (pc + 3) ls (v9 :: rest))) : W p l e R s m args below meth c H locs cells slots Q (F0 m pc ls (.ref a :: rest)) :=
  g_get (own := RX6) (ref := "WheatRun$Truck") (C := RX5) (T := TX5) (N := 10) (ci := 6) (index := 257) hx hb hts hown hK hM iaX5 rfl 9 (by decide) wf_X6_257 (fun _ h => h) ha rfl hdg kk
theorem fg_X6_266 {v0 v1 v2 v3 v4 v5 v6 : Value} (hx : p.tables.exec = Jvm.exec) (hb : c.code = cc) (hts : ∀ w ∈ AL, w.before args s = true) (hown : s.vm.findClass RX6 = some m.cls) (hK : Kw G s) (hM : Wd G M s H locs) (ha : M a = some (r, .inr (5, [v0, v1, v2, v3, v4, v5, v6]))) (hdg : decode cc pc = .ok (.getfield 266, 3)) (kk : W p l e R s m args below meth c H locs cells slots Q (F0 m (pc + 3) ls (v0 :: rest))) : W p l e R s m args below meth c H locs cells slots Q (F0 m pc ls (.ref a :: rest)) :=
  g_get (own := RX6) (ref := "WheatRun$Ticket") (C := RX4) (T := TX4) (N := 7) (ci := 5) (index := 266) hx hb hts hown hK hM iaX4 rfl 0 (by decide) wf_X6_266 (fun _ h => h) ha rfl hdg kk
theorem fg_X6_271 {v0 v1 v2 v3 v4 v5 v6 : Value} (hx : p.tables.exec = Jvm.exec) (hb : c.code = cc) (hts : ∀ w ∈ AL, w.before args s = true) (hown : s.vm.findClass RX6 = some m.cls) (hK : Kw G s) (hM : Wd G M s H locs) (ha : M a = some (r, .inr (5, [v0, v1, v2, v3, v4, v5, v6]))) (hdg : decode cc pc = .ok (.getfield 271, 3)) (kk : W p l e R s m args below meth c H locs cells slots Q (F0 m (pc + 3) ls (v1 :: rest))) : W p l e R s m args below meth c H locs cells slots Q (F0 m pc ls (.ref a :: rest)) :=
  g_get (own := RX6) (ref := "WheatRun$Ticket") (C := RX4) (T := TX4) (N := 7) (ci := 5) (index := 271) hx hb hts hown hK hM iaX4 rfl 1 (by decide) wf_X6_271 (fun _ h => h) ha rfl hdg kk
theorem fg_X6_274 {v0 v1 v2 v3 v4 v5 v6 : Value} (hx : p.tables.exec = Jvm.exec) (hb : c.code = cc) (hts : ∀ w ∈ AL, w.before args s = true) (hown : s.vm.findClass RX6 = some m.cls) (hK : Kw G s) (hM : Wd G M s H locs) (ha : M a = some (r, .inr (5, [v0, v1, v2, v3, v4, v5, v6]))) (hdg : decode cc pc = .ok (.getfield 274, 3)) (kk : W p l e R s m args below meth c H locs cells slots Q (F0 m (pc + 3) ls (v2 :: rest))) : W p l e R s m args below meth c H locs cells slots Q (F0 m pc ls (.ref a :: rest)) :=
  g_get (own := RX6) (ref := "WheatRun$Ticket") (C := RX4) (T := TX4) (N := 7) (ci := 5) (index := 274) hx hb hts hown hK hM iaX4 rfl 2 (by decide) wf_X6_274 (fun _ h => h) ha rfl hdg kk
theorem fg_X6_275 {v0 v1 v2 v3 v4 v5 v6 : Value} (hx : p.tables.exec = Jvm.exec) (hb : c.code = cc) (hts : ∀ w ∈ AL, w.before args s = true) (hown : s.vm.findClass RX6 = some m.cls) (hK : Kw G s) (hM : Wd G M s H locs) (ha : M a = some (r, .inr (5, [v0, v1, v2, v3, v4, v5, v6]))) (hdg : decode cc pc = .ok (.getfield 275, 3)) (kk : W p l e R s m args below meth c H locs cells slots Q (F0 m (pc + 3) ls (v3 :: rest))) : W p l e R s m args below meth c H locs cells slots Q (F0 m pc ls (.ref a :: rest)) :=
  g_get (own := RX6) (ref := "WheatRun$Ticket") (C := RX4) (T := TX4) (N := 7) (ci := 5) (index := 275) hx hb hts hown hK hM iaX4 rfl 3 (by decide) wf_X6_275 (fun _ h => h) ha rfl hdg kk
theorem fg_X6_278 {v0 v1 v2 v3 v4 v5 v6 : Value} (hx : p.tables.exec = Jvm.exec) (hb : c.code = cc) (hts : ∀ w ∈ AL, w.before args s = true) (hown : s.vm.findClass RX6 = some m.cls) (hK : Kw G s) (hM : Wd G M s H locs) (ha : M a = some (r, .inr (5, [v0, v1, v2, v3, v4, v5, v6]))) (hdg : decode cc pc = .ok (.getfield 278, 3)) (kk : W p l e R s m args below meth c H locs cells slots Q (F0 m (pc + 3) ls (v4 :: rest))) : W p l e R s m args below meth c H locs cells slots Q (F0 m pc ls (.ref a :: rest)) :=
  g_get (own := RX6) (ref := "WheatRun$Ticket") (C := RX4) (T := TX4) (N := 7) (ci := 5) (index := 278) hx hb hts hown hK hM iaX4 rfl 4 (by decide) wf_X6_278 (fun _ h => h) ha rfl hdg kk
theorem fg_X6_281 {v0 v1 v2 v3 v4 v5 v6 : Value} (hx : p.tables.exec = Jvm.exec) (hb : c.code = cc) (hts : ∀ w ∈ AL, w.before args s = true) (hown : s.vm.findClass RX6 = some m.cls) (hK : Kw G s) (hM : Wd G M s H locs) (ha : M a = some (r, .inr (5, [v0, v1, v2, v3, v4, v5, v6]))) (hdg : decode cc pc = .ok (.getfield 281, 3)) (kk : W p l e R s m args below meth c H locs cells slots Q (F0 m (pc + 3) ls (v5 :: rest))) : W p l e R s m args below meth c H locs cells slots Q (F0 m pc ls (.ref a :: rest)) :=
  g_get (own := RX6) (ref := "WheatRun$Ticket") (C := RX4) (T := TX4) (N := 7) (ci := 5) (index := 281) hx hb hts hown hK hM iaX4 rfl 5 (by decide) wf_X6_281 (fun _ h => h) ha rfl hdg kk
theorem fg_X6_284 {v0 v1 v2 v3 v4 v5 v6 : Value} (hx : p.tables.exec = Jvm.exec) (hb : c.code = cc) (hts : ∀ w ∈ AL, w.before args s = true) (hown : s.vm.findClass RX6 = some m.cls) (hK : Kw G s) (hM : Wd G M s H locs) (ha : M a = some (r, .inr (5, [v0, v1, v2, v3, v4, v5, v6]))) (hdg : decode cc pc = .ok (.getfield 284, 3)) (kk : W p l e R s m args below meth c H locs cells slots Q (F0 m (pc + 3) ls (v6 :: rest))) : W p l e R s m args below meth c H locs cells slots Q (F0 m pc ls (.ref a :: rest)) :=
  g_get (own := RX6) (ref := "WheatRun$Ticket") (C := RX4) (T := TX4) (N := 7) (ci := 5) (index := 284) hx hb hts hown hK hM iaX4 rfl 6 (by decide) wf_X6_284 (fun _ h => h) ha rfl hdg kk
theorem fg_X6_291 {v0 v1 v2 v3 v4 v5 v6 v7 v8 v9 v10 v11 v12 : Value} (hx : p.tables.exec = Jvm.exec) (hb : c.code = cc) (hts : ∀ w ∈ AL, w.before args s = true) (hown : s.vm.findClass RX6 = some m.cls) (hK : Kw G s) (hM : Wd G M s H locs) (ha : M a = some (r, .inr (3, [v0, v1, v2, v3, v4, v5, v6, v7, v8, v9, v10, v11, v12]))) (hdg : decode cc pc = .ok (.getfield 291, 3)) (kk : W p l e R s m args below meth c H locs cells slots Q (F0 m (pc + 3) ls (v12 :: rest))) : W p l e R s m args below meth c H locs cells slots Q (F0 m pc ls (.ref a :: rest)) :=
  g_get (own := RX6) (ref := "WheatRun$Field") (C := RX2) (T := TX2) (N := 13) (ci := 3) (index := 291) hx hb hts hown hK hM iaX2 rfl 12 (by decide) wf_X6_291 (fun _ h => h) ha rfl hdg kk
theorem fg_X6_294 {v0 v1 v2 v3 v4 v5 v6 v7 v8 v9 v10 v11 v12 : Value} (hx : p.tables.exec = Jvm.exec) (hb : c.code = cc) (hts : ∀ w ∈ AL, w.before args s = true) (hown : s.vm.findClass RX6 = some m.cls) (hK : Kw G s) (hM : Wd G M s H locs) (ha : M a = some (r, .inr (3, [v0, v1, v2, v3, v4, v5, v6, v7, v8, v9, v10, v11, v12]))) (hdg : decode cc pc = .ok (.getfield 294, 3)) (kk : W p l e R s m args below meth c H locs cells slots Q (F0 m (pc + 3) ls (v11 :: rest))) : W p l e R s m args below meth c H locs cells slots Q (F0 m pc ls (.ref a :: rest)) :=
  g_get (own := RX6) (ref := "WheatRun$Field") (C := RX2) (T := TX2) (N := 13) (ci := 3) (index := 294) hx hb hts hown hK hM iaX2 rfl 11 (by decide) wf_X6_294 (fun _ h => h) ha rfl hdg kk
theorem fg_X6_386 {v0 v1 v2 v3 v4 v5 v6 v7 v8 v9 v10 v11 : Value} (hx : p.tables.exec = Jvm.exec) (hb : c.code = cc) (hts : ∀ w ∈ AL, w.before args s = true) (hown : s.vm.findClass RX6 = some m.cls) (hK : Kw G s) (hM : Wd G M s H locs) (ha : M a = some (r, .inr (1, [v0, v1, v2, v3, v4, v5, v6, v7, v8, v9, v10, v11]))) (hdg : decode cc pc = .ok (.getfield 386, 3)) (kk : W p l e R s m args below meth c H locs cells slots Q (F0 m (pc + 3) ls (v11 :: rest))) : W p l e R s m args below meth c H locs cells slots Q (F0 m pc ls (.ref a :: rest)) :=
  g_get (own := RX6) (ref := "WheatRun$Combine") (C := RX0) (T := TX0) (N := 12) (ci := 1) (index := 386) hx hb hts hown hK hM iaX0 rfl 11 (by decide) wf_X6_386 (fun _ h => h) ha rfl hdg kk
theorem fg_X7_10 {v0 v1 v2 v3 v4 v5 v6 v7 v8 v9 v10 v11 : Value} (hx : p.tables.exec = Jvm.exec) (hb : c.code = cc) (hts : ∀ w ∈ AL, w.before args s = true) (hown : s.vm.findClass RX7 = some m.cls) (hK : Kw G s) (hM : Wd G M s H locs) (ha : M a = some (r, .inr (8, [v0, v1, v2, v3, v4, v5, v6, v7, v8, v9, v10, v11]))) (hdg : decode cc pc = .ok (.getfield 10, 3)) (kk : W p l e R s m args below meth c H locs cells slots Q (F0 m (pc + 3) ls (v0 :: rest))) : W p l e R s m args below meth c H locs cells slots Q (F0 m pc ls (.ref a :: rest)) :=
  g_get (own := RX7) (ref := "WheatRunLaw$Told") (C := RX7) (T := TX7) (N := 12) (ci := 8) (index := 10) hx hb hts hown hK hM iaX7 rfl 0 (by decide) wf_X7_10 (fun _ h => h) ha rfl hdg kk
theorem fg_X7_18 {v0 v1 v2 v3 v4 v5 v6 v7 v8 v9 v10 v11 : Value} (hx : p.tables.exec = Jvm.exec) (hb : c.code = cc) (hts : ∀ w ∈ AL, w.before args s = true) (hown : s.vm.findClass RX7 = some m.cls) (hK : Kw G s) (hM : Wd G M s H locs) (ha : M a = some (r, .inr (8, [v0, v1, v2, v3, v4, v5, v6, v7, v8, v9, v10, v11]))) (hdg : decode cc pc = .ok (.getfield 18, 3)) (kk : W p l e R s m args below meth c H locs cells slots Q (F0 m (pc + 3) ls (v3 :: rest))) : W p l e R s m args below meth c H locs cells slots Q (F0 m pc ls (.ref a :: rest)) :=
  g_get (own := RX7) (ref := "WheatRunLaw$Told") (C := RX7) (T := TX7) (N := 12) (ci := 8) (index := 18) hx hb hts hown hK hM iaX7 rfl 3 (by decide) wf_X7_18 (fun _ h => h) ha rfl hdg kk
theorem fg_X7_22 {v0 v1 v2 v3 v4 v5 v6 v7 v8 v9 v10 v11 : Value} (hx : p.tables.exec = Jvm.exec) (hb : c.code = cc) (hts : ∀ w ∈ AL, w.before args s = true) (hown : s.vm.findClass RX7 = some m.cls) (hK : Kw G s) (hM : Wd G M s H locs) (ha : M a = some (r, .inr (8, [v0, v1, v2, v3, v4, v5, v6, v7, v8, v9, v10, v11]))) (hdg : decode cc pc = .ok (.getfield 22, 3)) (kk : W p l e R s m args below meth c H locs cells slots Q (F0 m (pc + 3) ls (v4 :: rest))) : W p l e R s m args below meth c H locs cells slots Q (F0 m pc ls (.ref a :: rest)) :=
  g_get (own := RX7) (ref := "WheatRunLaw$Told") (C := RX7) (T := TX7) (N := 12) (ci := 8) (index := 22) hx hb hts hown hK hM iaX7 rfl 4 (by decide) wf_X7_22 (fun _ h => h) ha rfl hdg kk
theorem fg_X7_25 {v0 v1 v2 v3 v4 v5 v6 v7 v8 v9 v10 v11 : Value} (hx : p.tables.exec = Jvm.exec) (hb : c.code = cc) (hts : ∀ w ∈ AL, w.before args s = true) (hown : s.vm.findClass RX7 = some m.cls) (hK : Kw G s) (hM : Wd G M s H locs) (ha : M a = some (r, .inr (8, [v0, v1, v2, v3, v4, v5, v6, v7, v8, v9, v10, v11]))) (hdg : decode cc pc = .ok (.getfield 25, 3)) (kk : W p l e R s m args below meth c H locs cells slots Q (F0 m (pc + 3) ls (v5 :: rest))) : W p l e R s m args below meth c H locs cells slots Q (F0 m pc ls (.ref a :: rest)) :=
  g_get (own := RX7) (ref := "WheatRunLaw$Told") (C := RX7) (T := TX7) (N := 12) (ci := 8) (index := 25) hx hb hts hown hK hM iaX7 rfl 5 (by decide) wf_X7_25 (fun _ h => h) ha rfl hdg kk
theorem fg_X7_28 {v0 v1 v2 v3 v4 v5 v6 v7 v8 v9 v10 v11 : Value} (hx : p.tables.exec = Jvm.exec) (hb : c.code = cc) (hts : ∀ w ∈ AL, w.before args s = true) (hown : s.vm.findClass RX7 = some m.cls) (hK : Kw G s) (hM : Wd G M s H locs) (ha : M a = some (r, .inr (8, [v0, v1, v2, v3, v4, v5, v6, v7, v8, v9, v10, v11]))) (hdg : decode cc pc = .ok (.getfield 28, 3)) (kk : W p l e R s m args below meth c H locs cells slots Q (F0 m (pc + 3) ls (v6 :: rest))) : W p l e R s m args below meth c H locs cells slots Q (F0 m pc ls (.ref a :: rest)) :=
  g_get (own := RX7) (ref := "WheatRunLaw$Told") (C := RX7) (T := TX7) (N := 12) (ci := 8) (index := 28) hx hb hts hown hK hM iaX7 rfl 6 (by decide) wf_X7_28 (fun _ h => h) ha rfl hdg kk
theorem fg_X7_44 {v0 v1 v2 v3 v4 v5 v6 v7 v8 v9 v10 v11 : Value} (hx : p.tables.exec = Jvm.exec) (hb : c.code = cc) (hts : ∀ w ∈ AL, w.before args s = true) (hown : s.vm.findClass RX7 = some m.cls) (hK : Kw G s) (hM : Wd G M s H locs) (ha : M a = some (r, .inr (8, [v0, v1, v2, v3, v4, v5, v6, v7, v8, v9, v10, v11]))) (hdg : decode cc pc = .ok (.getfield 44, 3)) (kk : W p l e R s m args below meth c H locs cells slots Q (F0 m (pc + 3) ls (v1 :: rest))) : W p l e R s m args below meth c H locs cells slots Q (F0 m pc ls (.ref a :: rest)) :=
  g_get (own := RX7) (ref := "WheatRunLaw$Told") (C := RX7) (T := TX7) (N := 12) (ci := 8) (index := 44) hx hb hts hown hK hM iaX7 rfl 1 (by decide) wf_X7_44 (fun _ h => h) ha rfl hdg kk
theorem fg_X7_47 {v0 v1 v2 v3 v4 v5 v6 v7 v8 v9 v10 v11 : Value} (hx : p.tables.exec = Jvm.exec) (hb : c.code = cc) (hts : ∀ w ∈ AL, w.before args s = true) (hown : s.vm.findClass RX7 = some m.cls) (hK : Kw G s) (hM : Wd G M s H locs) (ha : M a = some (r, .inr (8, [v0, v1, v2, v3, v4, v5, v6, v7, v8, v9, v10, v11]))) (hdg : decode cc pc = .ok (.getfield 47, 3)) (kk : W p l e R s m args below meth c H locs cells slots Q (F0 m (pc + 3) ls (v2 :: rest))) : W p l e R s m args below meth c H locs cells slots Q (F0 m pc ls (.ref a :: rest)) :=
  g_get (own := RX7) (ref := "WheatRunLaw$Told") (C := RX7) (T := TX7) (N := 12) (ci := 8) (index := 47) hx hb hts hown hK hM iaX7 rfl 2 (by decide) wf_X7_47 (fun _ h => h) ha rfl hdg kk
theorem fp_Jx4a65c_9 {v0 v1 v2 : Value} {q : Nat} (hx : p.tables.exec = Jvm.exec) (hb : c.code = cc) (hts : ∀ w ∈ AL, w.before args s = true) (hown : s.vm.findClass RJx4a65c = some m.cls) (hK : Kw G s) (hM : Wd G M s H locs) (ha : M a = some (r, .inr (0, [v0, v1, v2]))) (hdg : decode cc pc = .ok (.putfield 9, 3)) (kk : ∀ (H : Heap) (locs : List Loc), Wd G (hu M a r (.inr (0, [v0, .ref q, v2]))) s H locs → W p l e R s m args below meth c H locs cells slots Q (F0 m (pc + 3) ls rest)) : W p l e R s m args below meth c H locs cells slots Q (F0 m pc ls (.ref q :: .ref a :: rest)) :=
  g_put (own := RJx4a65c) (ref := "java/util/ArrayList") (C := RJx4a65c) (T := TJx4a65c) (N := 3) (ci := 0) (index := 9) (ty := .array (.object "java/lang/Object")) hx hb hts hown hK hM iaJx4a65c rfl 1 (by decide) wf_Jx4a65c_9 (fun _ h => h) tyJx4a65c tyJx4a65c_ok nmJx4a65c rfl (by decide +kernel) rfl rfl ha (Nat.le_of_ble_eq_true rfl) hdg kk
theorem fp_Jx4a65c_48 {v0 v1 v2 : Value} {z : Int32} (hx : p.tables.exec = Jvm.exec) (hb : c.code = cc) (hts : ∀ w ∈ AL, w.before args s = true) (hown : s.vm.findClass RJx4a65c = some m.cls) (hK : Kw G s) (hM : Wd G M s H locs) (ha : M a = some (r, .inr (0, [v0, v1, v2]))) (hdg : decode cc pc = .ok (.putfield 48, 3)) (kk : ∀ (H : Heap) (locs : List Loc), Wd G (hu M a r (.inr (0, [v0, v1, .int z]))) s H locs → W p l e R s m args below meth c H locs cells slots Q (F0 m (pc + 3) ls rest)) : W p l e R s m args below meth c H locs cells slots Q (F0 m pc ls (.int z :: .ref a :: rest)) :=
  g_put (own := RJx4a65c) (ref := "java/util/ArrayList") (C := RJx4a65c) (T := TJx4a65c) (N := 3) (ci := 0) (index := 48) (ty := .int) hx hb hts hown hK hM iaJx4a65c rfl 2 (by decide) wf_Jx4a65c_48 (fun _ h => h) tyJx4a65c tyJx4a65c_ok nmJx4a65c rfl (by decide +kernel) rfl rfl ha (Nat.le_of_ble_eq_true rfl) hdg kk
theorem fp_Jx4a65c_63 {v0 v1 v2 : Value} {z : Int32} (hx : p.tables.exec = Jvm.exec) (hb : c.code = cc) (hts : ∀ w ∈ AL, w.before args s = true) (hown : s.vm.findClass RJx4a65c = some m.cls) (hK : Kw G s) (hM : Wd G M s H locs) (ha : M a = some (r, .inr (0, [v0, v1, v2]))) (hdg : decode cc pc = .ok (.putfield 63, 3)) (kk : ∀ (H : Heap) (locs : List Loc), Wd G (hu M a r (.inr (0, [.int z, v1, v2]))) s H locs → W p l e R s m args below meth c H locs cells slots Q (F0 m (pc + 3) ls rest)) : W p l e R s m args below meth c H locs cells slots Q (F0 m pc ls (.int z :: .ref a :: rest)) :=
  g_put (own := RJx4a65c) (ref := "java/util/ArrayList") (C := RJx4a65c) (T := TJx4a65c) (N := 3) (ci := 0) (index := 63) (ty := .int) hx hb hts hown hK hM iaJx4a65c rfl 0 (by decide) wf_Jx4a65c_63 (fun x9 h9 => u_same (hts _ ws_java_util_ArrayList_java_util_AbstractList_modCount_I) x9 h9) tyJx4a65c tyJx4a65c_ok nmJx4a65c rfl (by decide +kernel) rfl rfl ha (Nat.le_of_ble_eq_true rfl) hdg kk
theorem fp_Jxc12de_7 {v0 v1 v2 : Value} {z : Int32} (hx : p.tables.exec = Jvm.exec) (hb : c.code = cc) (hts : ∀ w ∈ AL, w.before args s = true) (hown : s.vm.findClass RJxc12de = some m.cls) (hK : Kw G s) (hM : Wd G M s H locs) (ha : M a = some (r, .inr (0, [v0, v1, v2]))) (hdg : decode cc pc = .ok (.putfield 7, 3)) (kk : ∀ (H : Heap) (locs : List Loc), Wd G (hu M a r (.inr (0, [.int z, v1, v2]))) s H locs → W p l e R s m args below meth c H locs cells slots Q (F0 m (pc + 3) ls rest)) : W p l e R s m args below meth c H locs cells slots Q (F0 m pc ls (.int z :: .ref a :: rest)) :=
  g_put (own := RJxc12de) (ref := "java/util/AbstractList") (C := RJx4a65c) (T := TJx4a65c) (N := 3) (ci := 0) (index := 7) (ty := .int) hx hb hts hown hK hM iaJx4a65c rfl 0 (by decide) wf_Jxc12de_7 (fun _ h => h) tyJx4a65c tyJx4a65c_ok nmJx4a65c rfl (by decide +kernel) rfl rfl ha (Nat.le_of_ble_eq_true rfl) hdg kk
theorem fp_X0_9 {v0 v1 v2 v3 v4 v5 v6 v7 v8 v9 v10 v11 : Value} {z : Int32} (hx : p.tables.exec = Jvm.exec) (hb : c.code = cc) (hts : ∀ w ∈ AL, w.before args s = true) (hown : s.vm.findClass RX0 = some m.cls) (hK : Kw G s) (hM : Wd G M s H locs) (ha : M a = some (r, .inr (1, [v0, v1, v2, v3, v4, v5, v6, v7, v8, v9, v10, v11]))) (hdg : decode cc pc = .ok (.putfield 9, 3)) (kk : ∀ (H : Heap) (locs : List Loc), Wd G (hu M a r (.inr (1, [v0, v1, v2, v3, .int z, v5, v6, v7, v8, v9, v10, v11]))) s H locs → W p l e R s m args below meth c H locs cells slots Q (F0 m (pc + 3) ls rest)) : W p l e R s m args below meth c H locs cells slots Q (F0 m pc ls (.int z :: .ref a :: rest)) :=
  g_put (own := RX0) (ref := "WheatRun$Combine") (C := RX0) (T := TX0) (N := 12) (ci := 1) (index := 9) (ty := .int) hx hb hts hown hK hM iaX0 rfl 4 (by decide) wf_X0_9 (fun _ h => h) tyX0 tyX0_ok nmX0 rfl (by decide +kernel) rfl rfl ha (Nat.le_of_ble_eq_true rfl) hdg kk
theorem fp_X0_15 {v0 v1 v2 v3 v4 v5 v6 v7 v8 v9 v10 v11 : Value} {z : Int32} (hx : p.tables.exec = Jvm.exec) (hb : c.code = cc) (hts : ∀ w ∈ AL, w.before args s = true) (hown : s.vm.findClass RX0 = some m.cls) (hK : Kw G s) (hM : Wd G M s H locs) (ha : M a = some (r, .inr (1, [v0, v1, v2, v3, v4, v5, v6, v7, v8, v9, v10, v11]))) (hdg : decode cc pc = .ok (.putfield 15, 3)) (kk : ∀ (H : Heap) (locs : List Loc), Wd G (hu M a r (.inr (1, [v0, v1, v2, v3, v4, v5, v6, v7, v8, .int z, v10, v11]))) s H locs → W p l e R s m args below meth c H locs cells slots Q (F0 m (pc + 3) ls rest)) : W p l e R s m args below meth c H locs cells slots Q (F0 m pc ls (.int z :: .ref a :: rest)) :=
  g_put (own := RX0) (ref := "WheatRun$Combine") (C := RX0) (T := TX0) (N := 12) (ci := 1) (index := 15) (ty := .int) hx hb hts hown hK hM iaX0 rfl 9 (by decide) wf_X0_15 (fun _ h => h) tyX0 tyX0_ok nmX0 rfl (by decide +kernel) rfl rfl ha (Nat.le_of_ble_eq_true rfl) hdg kk
theorem fp_X0_18 {v0 v1 v2 v3 v4 v5 v6 v7 v8 v9 v10 v11 : Value} {z : Int32} (hx : p.tables.exec = Jvm.exec) (hb : c.code = cc) (hts : ∀ w ∈ AL, w.before args s = true) (hown : s.vm.findClass RX0 = some m.cls) (hK : Kw G s) (hM : Wd G M s H locs) (ha : M a = some (r, .inr (1, [v0, v1, v2, v3, v4, v5, v6, v7, v8, v9, v10, v11]))) (hdg : decode cc pc = .ok (.putfield 18, 3)) (kk : ∀ (H : Heap) (locs : List Loc), Wd G (hu M a r (.inr (1, [.int z, v1, v2, v3, v4, v5, v6, v7, v8, v9, v10, v11]))) s H locs → W p l e R s m args below meth c H locs cells slots Q (F0 m (pc + 3) ls rest)) : W p l e R s m args below meth c H locs cells slots Q (F0 m pc ls (.int z :: .ref a :: rest)) :=
  g_put (own := RX0) (ref := "WheatRun$Combine") (C := RX0) (T := TX0) (N := 12) (ci := 1) (index := 18) (ty := .int) hx hb hts hown hK hM iaX0 rfl 0 (by decide) wf_X0_18 (fun _ h => h) tyX0 tyX0_ok nmX0 rfl (by decide +kernel) rfl rfl ha (Nat.le_of_ble_eq_true rfl) hdg kk
theorem fp_X0_21 {v0 v1 v2 v3 v4 v5 v6 v7 v8 v9 v10 v11 : Value} {z : Int32} (hx : p.tables.exec = Jvm.exec) (hb : c.code = cc) (hts : ∀ w ∈ AL, w.before args s = true) (hown : s.vm.findClass RX0 = some m.cls) (hK : Kw G s) (hM : Wd G M s H locs) (ha : M a = some (r, .inr (1, [v0, v1, v2, v3, v4, v5, v6, v7, v8, v9, v10, v11]))) (hdg : decode cc pc = .ok (.putfield 21, 3)) (kk : ∀ (H : Heap) (locs : List Loc), Wd G (hu M a r (.inr (1, [v0, .int z, v2, v3, v4, v5, v6, v7, v8, v9, v10, v11]))) s H locs → W p l e R s m args below meth c H locs cells slots Q (F0 m (pc + 3) ls rest)) : W p l e R s m args below meth c H locs cells slots Q (F0 m pc ls (.int z :: .ref a :: rest)) :=
  g_put (own := RX0) (ref := "WheatRun$Combine") (C := RX0) (T := TX0) (N := 12) (ci := 1) (index := 21) (ty := .int) hx hb hts hown hK hM iaX0 rfl 1 (by decide) wf_X0_21 (fun _ h => h) tyX0 tyX0_ok nmX0 rfl (by decide +kernel) rfl rfl ha (Nat.le_of_ble_eq_true rfl) hdg kk
theorem fp_X0_24 {v0 v1 v2 v3 v4 v5 v6 v7 v8 v9 v10 v11 : Value} {z : Int32} (hx : p.tables.exec = Jvm.exec) (hb : c.code = cc) (hts : ∀ w ∈ AL, w.before args s = true) (hown : s.vm.findClass RX0 = some m.cls) (hK : Kw G s) (hM : Wd G M s H locs) (ha : M a = some (r, .inr (1, [v0, v1, v2, v3, v4, v5, v6, v7, v8, v9, v10, v11]))) (hdg : decode cc pc = .ok (.putfield 24, 3)) (kk : ∀ (H : Heap) (locs : List Loc), Wd G (hu M a r (.inr (1, [v0, v1, .int z, v3, v4, v5, v6, v7, v8, v9, v10, v11]))) s H locs → W p l e R s m args below meth c H locs cells slots Q (F0 m (pc + 3) ls rest)) : W p l e R s m args below meth c H locs cells slots Q (F0 m pc ls (.int z :: .ref a :: rest)) :=
  g_put (own := RX0) (ref := "WheatRun$Combine") (C := RX0) (T := TX0) (N := 12) (ci := 1) (index := 24) (ty := .int) hx hb hts hown hK hM iaX0 rfl 2 (by decide) wf_X0_24 (fun _ h => h) tyX0 tyX0_ok nmX0 rfl (by decide +kernel) rfl rfl ha (Nat.le_of_ble_eq_true rfl) hdg kk
theorem fp_X0_27 {v0 v1 v2 v3 v4 v5 v6 v7 v8 v9 v10 v11 : Value} {z : Int32} (hx : p.tables.exec = Jvm.exec) (hb : c.code = cc) (hts : ∀ w ∈ AL, w.before args s = true) (hown : s.vm.findClass RX0 = some m.cls) (hK : Kw G s) (hM : Wd G M s H locs) (ha : M a = some (r, .inr (1, [v0, v1, v2, v3, v4, v5, v6, v7, v8, v9, v10, v11]))) (hdg : decode cc pc = .ok (.putfield 27, 3)) (kk : ∀ (H : Heap) (locs : List Loc), Wd G (hu M a r (.inr (1, [v0, v1, v2, .int z, v4, v5, v6, v7, v8, v9, v10, v11]))) s H locs → W p l e R s m args below meth c H locs cells slots Q (F0 m (pc + 3) ls rest)) : W p l e R s m args below meth c H locs cells slots Q (F0 m pc ls (.int z :: .ref a :: rest)) :=
  g_put (own := RX0) (ref := "WheatRun$Combine") (C := RX0) (T := TX0) (N := 12) (ci := 1) (index := 27) (ty := .int) hx hb hts hown hK hM iaX0 rfl 3 (by decide) wf_X0_27 (fun _ h => h) tyX0 tyX0_ok nmX0 rfl (by decide +kernel) rfl rfl ha (Nat.le_of_ble_eq_true rfl) hdg kk
theorem fp_X0_30 {v0 v1 v2 v3 v4 v5 v6 v7 v8 v9 v10 v11 : Value} {z : Int32} (hx : p.tables.exec = Jvm.exec) (hb : c.code = cc) (hts : ∀ w ∈ AL, w.before args s = true) (hown : s.vm.findClass RX0 = some m.cls) (hK : Kw G s) (hM : Wd G M s H locs) (ha : M a = some (r, .inr (1, [v0, v1, v2, v3, v4, v5, v6, v7, v8, v9, v10, v11]))) (hdg : decode cc pc = .ok (.putfield 30, 3)) (kk : ∀ (H : Heap) (locs : List Loc), Wd G (hu M a r (.inr (1, [v0, v1, v2, v3, v4, .int z, v6, v7, v8, v9, v10, v11]))) s H locs → W p l e R s m args below meth c H locs cells slots Q (F0 m (pc + 3) ls rest)) : W p l e R s m args below meth c H locs cells slots Q (F0 m pc ls (.int z :: .ref a :: rest)) :=
  g_put (own := RX0) (ref := "WheatRun$Combine") (C := RX0) (T := TX0) (N := 12) (ci := 1) (index := 30) (ty := .int) hx hb hts hown hK hM iaX0 rfl 5 (by decide) wf_X0_30 (fun _ h => h) tyX0 tyX0_ok nmX0 rfl (by decide +kernel) rfl rfl ha (Nat.le_of_ble_eq_true rfl) hdg kk
theorem fp_X0_33 {v0 v1 v2 v3 v4 v5 v6 v7 v8 v9 v10 v11 : Value} {z : Int32} (hx : p.tables.exec = Jvm.exec) (hb : c.code = cc) (hts : ∀ w ∈ AL, w.before args s = true) (hown : s.vm.findClass RX0 = some m.cls) (hK : Kw G s) (hM : Wd G M s H locs) (ha : M a = some (r, .inr (1, [v0, v1, v2, v3, v4, v5, v6, v7, v8, v9, v10, v11]))) (hdg : decode cc pc = .ok (.putfield 33, 3)) (kk : ∀ (H : Heap) (locs : List Loc), Wd G (hu M a r (.inr (1, [v0, v1, v2, v3, v4, v5, .int z, v7, v8, v9, v10, v11]))) s H locs → W p l e R s m args below meth c H locs cells slots Q (F0 m (pc + 3) ls rest)) : W p l e R s m args below meth c H locs cells slots Q (F0 m pc ls (.int z :: .ref a :: rest)) :=
  g_put (own := RX0) (ref := "WheatRun$Combine") (C := RX0) (T := TX0) (N := 12) (ci := 1) (index := 33) (ty := .int) hx hb hts hown hK hM iaX0 rfl 6 (by decide) wf_X0_33 (fun _ h => h) tyX0 tyX0_ok nmX0 rfl (by decide +kernel) rfl rfl ha (Nat.le_of_ble_eq_true rfl) hdg kk
theorem fp_X0_36 {v0 v1 v2 v3 v4 v5 v6 v7 v8 v9 v10 v11 : Value} {z : Int32} (hx : p.tables.exec = Jvm.exec) (hb : c.code = cc) (hts : ∀ w ∈ AL, w.before args s = true) (hown : s.vm.findClass RX0 = some m.cls) (hK : Kw G s) (hM : Wd G M s H locs) (hz : z = 0 ∨ z = 1) (ha : M a = some (r, .inr (1, [v0, v1, v2, v3, v4, v5, v6, v7, v8, v9, v10, v11]))) (hdg : decode cc pc = .ok (.putfield 36, 3)) (kk : ∀ (H : Heap) (locs : List Loc), Wd G (hu M a r (.inr (1, [v0, v1, v2, v3, v4, v5, v6, .int z, v8, v9, v10, v11]))) s H locs → W p l e R s m args below meth c H locs cells slots Q (F0 m (pc + 3) ls rest)) : W p l e R s m args below meth c H locs cells slots Q (F0 m pc ls (.int z :: .ref a :: rest)) :=
  g_put (own := RX0) (ref := "WheatRun$Combine") (C := RX0) (T := TX0) (N := 12) (ci := 1) (index := 36) (ty := .boolean) hx hb hts hown hK hM iaX0 rfl 7 (by decide) wf_X0_36 (fun _ h => h) tyX0 tyX0_ok nmX0 rfl (by decide +kernel) (nz01 hz) (fz01 hz) ha (Nat.le_of_ble_eq_true rfl) hdg kk
theorem fp_X0_40 {v0 v1 v2 v3 v4 v5 v6 v7 v8 v9 v10 v11 : Value} {z : Int32} (hx : p.tables.exec = Jvm.exec) (hb : c.code = cc) (hts : ∀ w ∈ AL, w.before args s = true) (hown : s.vm.findClass RX0 = some m.cls) (hK : Kw G s) (hM : Wd G M s H locs) (ha : M a = some (r, .inr (1, [v0, v1, v2, v3, v4, v5, v6, v7, v8, v9, v10, v11]))) (hdg : decode cc pc = .ok (.putfield 40, 3)) (kk : ∀ (H : Heap) (locs : List Loc), Wd G (hu M a r (.inr (1, [v0, v1, v2, v3, v4, v5, v6, v7, .int z, v9, v10, v11]))) s H locs → W p l e R s m args below meth c H locs cells slots Q (F0 m (pc + 3) ls rest)) : W p l e R s m args below meth c H locs cells slots Q (F0 m pc ls (.int z :: .ref a :: rest)) :=
  g_put (own := RX0) (ref := "WheatRun$Combine") (C := RX0) (T := TX0) (N := 12) (ci := 1) (index := 40) (ty := .int) hx hb hts hown hK hM iaX0 rfl 8 (by decide) wf_X0_40 (fun _ h => h) tyX0 tyX0_ok nmX0 rfl (by decide +kernel) rfl rfl ha (Nat.le_of_ble_eq_true rfl) hdg kk
theorem fp_X0_43 {v0 v1 v2 v3 v4 v5 v6 v7 v8 v9 v10 v11 : Value} {z : Int32} (hx : p.tables.exec = Jvm.exec) (hb : c.code = cc) (hts : ∀ w ∈ AL, w.before args s = true) (hown : s.vm.findClass RX0 = some m.cls) (hK : Kw G s) (hM : Wd G M s H locs) (ha : M a = some (r, .inr (1, [v0, v1, v2, v3, v4, v5, v6, v7, v8, v9, v10, v11]))) (hdg : decode cc pc = .ok (.putfield 43, 3)) (kk : ∀ (H : Heap) (locs : List Loc), Wd G (hu M a r (.inr (1, [v0, v1, v2, v3, v4, v5, v6, v7, v8, v9, .int z, v11]))) s H locs → W p l e R s m args below meth c H locs cells slots Q (F0 m (pc + 3) ls rest)) : W p l e R s m args below meth c H locs cells slots Q (F0 m pc ls (.int z :: .ref a :: rest)) :=
  g_put (own := RX0) (ref := "WheatRun$Combine") (C := RX0) (T := TX0) (N := 12) (ci := 1) (index := 43) (ty := .int) hx hb hts hown hK hM iaX0 rfl 10 (by decide) wf_X0_43 (fun _ h => h) tyX0 tyX0_ok nmX0 rfl (by decide +kernel) rfl rfl ha (Nat.le_of_ble_eq_true rfl) hdg kk
theorem fp_X0_46 {v0 v1 v2 v3 v4 v5 v6 v7 v8 v9 v10 v11 : Value} {z : Int32} (hx : p.tables.exec = Jvm.exec) (hb : c.code = cc) (hts : ∀ w ∈ AL, w.before args s = true) (hown : s.vm.findClass RX0 = some m.cls) (hK : Kw G s) (hM : Wd G M s H locs) (ha : M a = some (r, .inr (1, [v0, v1, v2, v3, v4, v5, v6, v7, v8, v9, v10, v11]))) (hdg : decode cc pc = .ok (.putfield 46, 3)) (kk : ∀ (H : Heap) (locs : List Loc), Wd G (hu M a r (.inr (1, [v0, v1, v2, v3, v4, v5, v6, v7, v8, v9, v10, .int z]))) s H locs → W p l e R s m args below meth c H locs cells slots Q (F0 m (pc + 3) ls rest)) : W p l e R s m args below meth c H locs cells slots Q (F0 m pc ls (.int z :: .ref a :: rest)) :=
  g_put (own := RX0) (ref := "WheatRun$Combine") (C := RX0) (T := TX0) (N := 12) (ci := 1) (index := 46) (ty := .int) hx hb hts hown hK hM iaX0 rfl 11 (by decide) wf_X0_46 (fun _ h => h) tyX0 tyX0_ok nmX0 rfl (by decide +kernel) rfl rfl ha (Nat.le_of_ble_eq_true rfl) hdg kk
theorem fp_X0_85 {v0 v1 v2 v3 v4 v5 v6 v7 v8 v9 v10 v11 v12 : Value} {z : Int32} (hx : p.tables.exec = Jvm.exec) (hb : c.code = cc) (hts : ∀ w ∈ AL, w.before args s = true) (hown : s.vm.findClass RX0 = some m.cls) (hK : Kw G s) (hM : Wd G M s H locs) (ha : M a = some (r, .inr (3, [v0, v1, v2, v3, v4, v5, v6, v7, v8, v9, v10, v11, v12]))) (hdg : decode cc pc = .ok (.putfield 85, 3)) (kk : ∀ (H : Heap) (locs : List Loc), Wd G (hu M a r (.inr (3, [v0, v1, v2, v3, v4, .int z, v6, v7, v8, v9, v10, v11, v12]))) s H locs → W p l e R s m args below meth c H locs cells slots Q (F0 m (pc + 3) ls rest)) : W p l e R s m args below meth c H locs cells slots Q (F0 m pc ls (.int z :: .ref a :: rest)) :=
  g_put (own := RX0) (ref := "WheatRun$Field") (C := RX2) (T := TX2) (N := 13) (ci := 3) (index := 85) (ty := .int) hx hb hts hown hK hM iaX2 rfl 5 (by decide) wf_X0_85 (fun _ h => h) tyX2 tyX2_ok nmX2 rfl (by decide +kernel) rfl rfl ha (Nat.le_of_ble_eq_true rfl) hdg kk
theorem fp_X0_86 {v0 v1 v2 v3 v4 v5 v6 v7 v8 v9 v10 v11 v12 : Value} {z : Int32} (hx : p.tables.exec = Jvm.exec) (hb : c.code = cc) (hts : ∀ w ∈ AL, w.before args s = true) (hown : s.vm.findClass RX0 = some m.cls) (hK : Kw G s) (hM : Wd G M s H locs) (ha : M a = some (r, .inr (3, [v0, v1, v2, v3, v4, v5, v6, v7, v8, v9, v10, v11, v12]))) (hdg : decode cc pc = .ok (.putfield 86, 3)) (kk : ∀ (H : Heap) (locs : List Loc), Wd G (hu M a r (.inr (3, [v0, v1, v2, v3, v4, v5, v6, v7, v8, .int z, v10, v11, v12]))) s H locs → W p l e R s m args below meth c H locs cells slots Q (F0 m (pc + 3) ls rest)) : W p l e R s m args below meth c H locs cells slots Q (F0 m pc ls (.int z :: .ref a :: rest)) :=
  g_put (own := RX0) (ref := "WheatRun$Field") (C := RX2) (T := TX2) (N := 13) (ci := 3) (index := 86) (ty := .int) hx hb hts hown hK hM iaX2 rfl 9 (by decide) wf_X0_86 (fun _ h => h) tyX2 tyX2_ok nmX2 rfl (by decide +kernel) rfl rfl ha (Nat.le_of_ble_eq_true rfl) hdg kk
theorem fp_X1_7 {v0 v1 v2 v3 v4 v5 : Value} {z : Int32} (hx : p.tables.exec = Jvm.exec) (hb : c.code = cc) (hts : ∀ w ∈ AL, w.before args s = true) (hown : s.vm.findClass RX1 = some m.cls) (hK : Kw G s) (hM : Wd G M s H locs) (ha : M a = some (r, .inr (2, [v0, v1, v2, v3, v4, v5]))) (hdg : decode cc pc = .ok (.putfield 7, 3)) (kk : ∀ (H : Heap) (locs : List Loc), Wd G (hu M a r (.inr (2, [.int z, v1, v2, v3, v4, v5]))) s H locs → W p l e R s m args below meth c H locs cells slots Q (F0 m (pc + 3) ls rest)) : W p l e R s m args below meth c H locs cells slots Q (F0 m pc ls (.int z :: .ref a :: rest)) :=
  g_put (own := RX1) (ref := "WheatRun$Elevator") (C := RX1) (T := TX1) (N := 6) (ci := 2) (index := 7) (ty := .int) hx hb hts hown hK hM iaX1 rfl 0 (by decide) wf_X1_7 (fun _ h => h) tyX1 tyX1_ok nmX1 rfl (by decide +kernel) rfl rfl ha (Nat.le_of_ble_eq_true rfl) hdg kk
theorem fp_X1_13 {v0 v1 v2 v3 v4 v5 : Value} {z : Int32} (hx : p.tables.exec = Jvm.exec) (hb : c.code = cc) (hts : ∀ w ∈ AL, w.before args s = true) (hown : s.vm.findClass RX1 = some m.cls) (hK : Kw G s) (hM : Wd G M s H locs) (ha : M a = some (r, .inr (2, [v0, v1, v2, v3, v4, v5]))) (hdg : decode cc pc = .ok (.putfield 13, 3)) (kk : ∀ (H : Heap) (locs : List Loc), Wd G (hu M a r (.inr (2, [v0, .int z, v2, v3, v4, v5]))) s H locs → W p l e R s m args below meth c H locs cells slots Q (F0 m (pc + 3) ls rest)) : W p l e R s m args below meth c H locs cells slots Q (F0 m pc ls (.int z :: .ref a :: rest)) :=
  g_put (own := RX1) (ref := "WheatRun$Elevator") (C := RX1) (T := TX1) (N := 6) (ci := 2) (index := 13) (ty := .int) hx hb hts hown hK hM iaX1 rfl 1 (by decide) wf_X1_13 (fun _ h => h) tyX1 tyX1_ok nmX1 rfl (by decide +kernel) rfl rfl ha (Nat.le_of_ble_eq_true rfl) hdg kk
theorem fp_X1_16 {v0 v1 v2 v3 v4 v5 : Value} {z : Int32} (hx : p.tables.exec = Jvm.exec) (hb : c.code = cc) (hts : ∀ w ∈ AL, w.before args s = true) (hown : s.vm.findClass RX1 = some m.cls) (hK : Kw G s) (hM : Wd G M s H locs) (ha : M a = some (r, .inr (2, [v0, v1, v2, v3, v4, v5]))) (hdg : decode cc pc = .ok (.putfield 16, 3)) (kk : ∀ (H : Heap) (locs : List Loc), Wd G (hu M a r (.inr (2, [v0, v1, .int z, v3, v4, v5]))) s H locs → W p l e R s m args below meth c H locs cells slots Q (F0 m (pc + 3) ls rest)) : W p l e R s m args below meth c H locs cells slots Q (F0 m pc ls (.int z :: .ref a :: rest)) :=
  g_put (own := RX1) (ref := "WheatRun$Elevator") (C := RX1) (T := TX1) (N := 6) (ci := 2) (index := 16) (ty := .int) hx hb hts hown hK hM iaX1 rfl 2 (by decide) wf_X1_16 (fun _ h => h) tyX1 tyX1_ok nmX1 rfl (by decide +kernel) rfl rfl ha (Nat.le_of_ble_eq_true rfl) hdg kk
theorem fp_X1_19 {v0 v1 v2 v3 v4 v5 : Value} {z : Int32} (hx : p.tables.exec = Jvm.exec) (hb : c.code = cc) (hts : ∀ w ∈ AL, w.before args s = true) (hown : s.vm.findClass RX1 = some m.cls) (hK : Kw G s) (hM : Wd G M s H locs) (ha : M a = some (r, .inr (2, [v0, v1, v2, v3, v4, v5]))) (hdg : decode cc pc = .ok (.putfield 19, 3)) (kk : ∀ (H : Heap) (locs : List Loc), Wd G (hu M a r (.inr (2, [v0, v1, v2, .int z, v4, v5]))) s H locs → W p l e R s m args below meth c H locs cells slots Q (F0 m (pc + 3) ls rest)) : W p l e R s m args below meth c H locs cells slots Q (F0 m pc ls (.int z :: .ref a :: rest)) :=
  g_put (own := RX1) (ref := "WheatRun$Elevator") (C := RX1) (T := TX1) (N := 6) (ci := 2) (index := 19) (ty := .int) hx hb hts hown hK hM iaX1 rfl 3 (by decide) wf_X1_19 (fun _ h => h) tyX1 tyX1_ok nmX1 rfl (by decide +kernel) rfl rfl ha (Nat.le_of_ble_eq_true rfl) hdg kk
theorem fp_X1_22 {v0 v1 v2 v3 v4 v5 : Value} {z : Int32} (hx : p.tables.exec = Jvm.exec) (hb : c.code = cc) (hts : ∀ w ∈ AL, w.before args s = true) (hown : s.vm.findClass RX1 = some m.cls) (hK : Kw G s) (hM : Wd G M s H locs) (ha : M a = some (r, .inr (2, [v0, v1, v2, v3, v4, v5]))) (hdg : decode cc pc = .ok (.putfield 22, 3)) (kk : ∀ (H : Heap) (locs : List Loc), Wd G (hu M a r (.inr (2, [v0, v1, v2, v3, .int z, v5]))) s H locs → W p l e R s m args below meth c H locs cells slots Q (F0 m (pc + 3) ls rest)) : W p l e R s m args below meth c H locs cells slots Q (F0 m pc ls (.int z :: .ref a :: rest)) :=
  g_put (own := RX1) (ref := "WheatRun$Elevator") (C := RX1) (T := TX1) (N := 6) (ci := 2) (index := 22) (ty := .int) hx hb hts hown hK hM iaX1 rfl 4 (by decide) wf_X1_22 (fun _ h => h) tyX1 tyX1_ok nmX1 rfl (by decide +kernel) rfl rfl ha (Nat.le_of_ble_eq_true rfl) hdg kk
theorem fp_X1_25 {v0 v1 v2 v3 v4 v5 : Value} {z : Int32} (hx : p.tables.exec = Jvm.exec) (hb : c.code = cc) (hts : ∀ w ∈ AL, w.before args s = true) (hown : s.vm.findClass RX1 = some m.cls) (hK : Kw G s) (hM : Wd G M s H locs) (ha : M a = some (r, .inr (2, [v0, v1, v2, v3, v4, v5]))) (hdg : decode cc pc = .ok (.putfield 25, 3)) (kk : ∀ (H : Heap) (locs : List Loc), Wd G (hu M a r (.inr (2, [v0, v1, v2, v3, v4, .int z]))) s H locs → W p l e R s m args below meth c H locs cells slots Q (F0 m (pc + 3) ls rest)) : W p l e R s m args below meth c H locs cells slots Q (F0 m pc ls (.int z :: .ref a :: rest)) :=
  g_put (own := RX1) (ref := "WheatRun$Elevator") (C := RX1) (T := TX1) (N := 6) (ci := 2) (index := 25) (ty := .int) hx hb hts hown hK hM iaX1 rfl 5 (by decide) wf_X1_25 (fun _ h => h) tyX1 tyX1_ok nmX1 rfl (by decide +kernel) rfl rfl ha (Nat.le_of_ble_eq_true rfl) hdg kk
theorem fp_X2_9 {v0 v1 v2 v3 v4 v5 v6 v7 v8 v9 v10 v11 v12 : Value} {z : Int32} (hx : p.tables.exec = Jvm.exec) (hb : c.code = cc) (hts : ∀ w ∈ AL, w.before args s = true) (hown : s.vm.findClass RX2 = some m.cls) (hK : Kw G s) (hM : Wd G M s H locs) (ha : M a = some (r, .inr (3, [v0, v1, v2, v3, v4, v5, v6, v7, v8, v9, v10, v11, v12]))) (hdg : decode cc pc = .ok (.putfield 9, 3)) (kk : ∀ (H : Heap) (locs : List Loc), Wd G (hu M a r (.inr (3, [v0, v1, v2, v3, v4, v5, v6, .int z, v8, v9, v10, v11, v12]))) s H locs → W p l e R s m args below meth c H locs cells slots Q (F0 m (pc + 3) ls rest)) : W p l e R s m args below meth c H locs cells slots Q (F0 m pc ls (.int z :: .ref a :: rest)) :=
  g_put (own := RX2) (ref := "WheatRun$Field") (C := RX2) (T := TX2) (N := 13) (ci := 3) (index := 9) (ty := .int) hx hb hts hown hK hM iaX2 rfl 7 (by decide) wf_X2_9 (fun _ h => h) tyX2 tyX2_ok nmX2 rfl (by decide +kernel) rfl rfl ha (Nat.le_of_ble_eq_true rfl) hdg kk
theorem fp_X2_15 {v0 v1 v2 v3 v4 v5 v6 v7 v8 v9 v10 v11 v12 : Value} {z : Int32} (hx : p.tables.exec = Jvm.exec) (hb : c.code = cc) (hts : ∀ w ∈ AL, w.before args s = true) (hown : s.vm.findClass RX2 = some m.cls) (hK : Kw G s) (hM : Wd G M s H locs) (ha : M a = some (r, .inr (3, [v0, v1, v2, v3, v4, v5, v6, v7, v8, v9, v10, v11, v12]))) (hdg : decode cc pc = .ok (.putfield 15, 3)) (kk : ∀ (H : Heap) (locs : List Loc), Wd G (hu M a r (.inr (3, [.int z, v1, v2, v3, v4, v5, v6, v7, v8, v9, v10, v11, v12]))) s H locs → W p l e R s m args below meth c H locs cells slots Q (F0 m (pc + 3) ls rest)) : W p l e R s m args below meth c H locs cells slots Q (F0 m pc ls (.int z :: .ref a :: rest)) :=
  g_put (own := RX2) (ref := "WheatRun$Field") (C := RX2) (T := TX2) (N := 13) (ci := 3) (index := 15) (ty := .int) hx hb hts hown hK hM iaX2 rfl 0 (by decide) wf_X2_15 (fun _ h => h) tyX2 tyX2_ok nmX2 rfl (by decide +kernel) rfl rfl ha (Nat.le_of_ble_eq_true rfl) hdg kk
theorem fp_X2_18 {v0 v1 v2 v3 v4 v5 v6 v7 v8 v9 v10 v11 v12 : Value} {z : Int32} (hx : p.tables.exec = Jvm.exec) (hb : c.code = cc) (hts : ∀ w ∈ AL, w.before args s = true) (hown : s.vm.findClass RX2 = some m.cls) (hK : Kw G s) (hM : Wd G M s H locs) (ha : M a = some (r, .inr (3, [v0, v1, v2, v3, v4, v5, v6, v7, v8, v9, v10, v11, v12]))) (hdg : decode cc pc = .ok (.putfield 18, 3)) (kk : ∀ (H : Heap) (locs : List Loc), Wd G (hu M a r (.inr (3, [v0, .int z, v2, v3, v4, v5, v6, v7, v8, v9, v10, v11, v12]))) s H locs → W p l e R s m args below meth c H locs cells slots Q (F0 m (pc + 3) ls rest)) : W p l e R s m args below meth c H locs cells slots Q (F0 m pc ls (.int z :: .ref a :: rest)) :=
  g_put (own := RX2) (ref := "WheatRun$Field") (C := RX2) (T := TX2) (N := 13) (ci := 3) (index := 18) (ty := .int) hx hb hts hown hK hM iaX2 rfl 1 (by decide) wf_X2_18 (fun _ h => h) tyX2 tyX2_ok nmX2 rfl (by decide +kernel) rfl rfl ha (Nat.le_of_ble_eq_true rfl) hdg kk
theorem fp_X2_21 {v0 v1 v2 v3 v4 v5 v6 v7 v8 v9 v10 v11 v12 : Value} {z : Int32} (hx : p.tables.exec = Jvm.exec) (hb : c.code = cc) (hts : ∀ w ∈ AL, w.before args s = true) (hown : s.vm.findClass RX2 = some m.cls) (hK : Kw G s) (hM : Wd G M s H locs) (ha : M a = some (r, .inr (3, [v0, v1, v2, v3, v4, v5, v6, v7, v8, v9, v10, v11, v12]))) (hdg : decode cc pc = .ok (.putfield 21, 3)) (kk : ∀ (H : Heap) (locs : List Loc), Wd G (hu M a r (.inr (3, [v0, v1, .int z, v3, v4, v5, v6, v7, v8, v9, v10, v11, v12]))) s H locs → W p l e R s m args below meth c H locs cells slots Q (F0 m (pc + 3) ls rest)) : W p l e R s m args below meth c H locs cells slots Q (F0 m pc ls (.int z :: .ref a :: rest)) :=
  g_put (own := RX2) (ref := "WheatRun$Field") (C := RX2) (T := TX2) (N := 13) (ci := 3) (index := 21) (ty := .int) hx hb hts hown hK hM iaX2 rfl 2 (by decide) wf_X2_21 (fun _ h => h) tyX2 tyX2_ok nmX2 rfl (by decide +kernel) rfl rfl ha (Nat.le_of_ble_eq_true rfl) hdg kk
theorem fp_X2_24 {v0 v1 v2 v3 v4 v5 v6 v7 v8 v9 v10 v11 v12 : Value} {z : Int32} (hx : p.tables.exec = Jvm.exec) (hb : c.code = cc) (hts : ∀ w ∈ AL, w.before args s = true) (hown : s.vm.findClass RX2 = some m.cls) (hK : Kw G s) (hM : Wd G M s H locs) (ha : M a = some (r, .inr (3, [v0, v1, v2, v3, v4, v5, v6, v7, v8, v9, v10, v11, v12]))) (hdg : decode cc pc = .ok (.putfield 24, 3)) (kk : ∀ (H : Heap) (locs : List Loc), Wd G (hu M a r (.inr (3, [v0, v1, v2, .int z, v4, v5, v6, v7, v8, v9, v10, v11, v12]))) s H locs → W p l e R s m args below meth c H locs cells slots Q (F0 m (pc + 3) ls rest)) : W p l e R s m args below meth c H locs cells slots Q (F0 m pc ls (.int z :: .ref a :: rest)) :=
  g_put (own := RX2) (ref := "WheatRun$Field") (C := RX2) (T := TX2) (N := 13) (ci := 3) (index := 24) (ty := .int) hx hb hts hown hK hM iaX2 rfl 3 (by decide) wf_X2_24 (fun _ h => h) tyX2 tyX2_ok nmX2 rfl (by decide +kernel) rfl rfl ha (Nat.le_of_ble_eq_true rfl) hdg kk
theorem fp_X2_27 {v0 v1 v2 v3 v4 v5 v6 v7 v8 v9 v10 v11 v12 : Value} {z : Int32} (hx : p.tables.exec = Jvm.exec) (hb : c.code = cc) (hts : ∀ w ∈ AL, w.before args s = true) (hown : s.vm.findClass RX2 = some m.cls) (hK : Kw G s) (hM : Wd G M s H locs) (ha : M a = some (r, .inr (3, [v0, v1, v2, v3, v4, v5, v6, v7, v8, v9, v10, v11, v12]))) (hdg : decode cc pc = .ok (.putfield 27, 3)) (kk : ∀ (H : Heap) (locs : List Loc), Wd G (hu M a r (.inr (3, [v0, v1, v2, v3, .int z, v5, v6, v7, v8, v9, v10, v11, v12]))) s H locs → W p l e R s m args below meth c H locs cells slots Q (F0 m (pc + 3) ls rest)) : W p l e R s m args below meth c H locs cells slots Q (F0 m pc ls (.int z :: .ref a :: rest)) :=
  g_put (own := RX2) (ref := "WheatRun$Field") (C := RX2) (T := TX2) (N := 13) (ci := 3) (index := 27) (ty := .int) hx hb hts hown hK hM iaX2 rfl 4 (by decide) wf_X2_27 (fun _ h => h) tyX2 tyX2_ok nmX2 rfl (by decide +kernel) rfl rfl ha (Nat.le_of_ble_eq_true rfl) hdg kk
theorem fp_X2_30 {v0 v1 v2 v3 v4 v5 v6 v7 v8 v9 v10 v11 v12 : Value} {z : Int32} (hx : p.tables.exec = Jvm.exec) (hb : c.code = cc) (hts : ∀ w ∈ AL, w.before args s = true) (hown : s.vm.findClass RX2 = some m.cls) (hK : Kw G s) (hM : Wd G M s H locs) (ha : M a = some (r, .inr (3, [v0, v1, v2, v3, v4, v5, v6, v7, v8, v9, v10, v11, v12]))) (hdg : decode cc pc = .ok (.putfield 30, 3)) (kk : ∀ (H : Heap) (locs : List Loc), Wd G (hu M a r (.inr (3, [v0, v1, v2, v3, v4, .int z, v6, v7, v8, v9, v10, v11, v12]))) s H locs → W p l e R s m args below meth c H locs cells slots Q (F0 m (pc + 3) ls rest)) : W p l e R s m args below meth c H locs cells slots Q (F0 m pc ls (.int z :: .ref a :: rest)) :=
  g_put (own := RX2) (ref := "WheatRun$Field") (C := RX2) (T := TX2) (N := 13) (ci := 3) (index := 30) (ty := .int) hx hb hts hown hK hM iaX2 rfl 5 (by decide) wf_X2_30 (fun _ h => h) tyX2 tyX2_ok nmX2 rfl (by decide +kernel) rfl rfl ha (Nat.le_of_ble_eq_true rfl) hdg kk
theorem fp_X2_33 {v0 v1 v2 v3 v4 v5 v6 v7 v8 v9 v10 v11 v12 : Value} {z : Int32} (hx : p.tables.exec = Jvm.exec) (hb : c.code = cc) (hts : ∀ w ∈ AL, w.before args s = true) (hown : s.vm.findClass RX2 = some m.cls) (hK : Kw G s) (hM : Wd G M s H locs) (ha : M a = some (r, .inr (3, [v0, v1, v2, v3, v4, v5, v6, v7, v8, v9, v10, v11, v12]))) (hdg : decode cc pc = .ok (.putfield 33, 3)) (kk : ∀ (H : Heap) (locs : List Loc), Wd G (hu M a r (.inr (3, [v0, v1, v2, v3, v4, v5, .int z, v7, v8, v9, v10, v11, v12]))) s H locs → W p l e R s m args below meth c H locs cells slots Q (F0 m (pc + 3) ls rest)) : W p l e R s m args below meth c H locs cells slots Q (F0 m pc ls (.int z :: .ref a :: rest)) :=
  g_put (own := RX2) (ref := "WheatRun$Field") (C := RX2) (T := TX2) (N := 13) (ci := 3) (index := 33) (ty := .int) hx hb hts hown hK hM iaX2 rfl 6 (by decide) wf_X2_33 (fun _ h => h) tyX2 tyX2_ok nmX2 rfl (by decide +kernel) rfl rfl ha (Nat.le_of_ble_eq_true rfl) hdg kk
theorem fp_X2_36 {v0 v1 v2 v3 v4 v5 v6 v7 v8 v9 v10 v11 v12 : Value} {z : Int32} (hx : p.tables.exec = Jvm.exec) (hb : c.code = cc) (hts : ∀ w ∈ AL, w.before args s = true) (hown : s.vm.findClass RX2 = some m.cls) (hK : Kw G s) (hM : Wd G M s H locs) (ha : M a = some (r, .inr (3, [v0, v1, v2, v3, v4, v5, v6, v7, v8, v9, v10, v11, v12]))) (hdg : decode cc pc = .ok (.putfield 36, 3)) (kk : ∀ (H : Heap) (locs : List Loc), Wd G (hu M a r (.inr (3, [v0, v1, v2, v3, v4, v5, v6, v7, .int z, v9, v10, v11, v12]))) s H locs → W p l e R s m args below meth c H locs cells slots Q (F0 m (pc + 3) ls rest)) : W p l e R s m args below meth c H locs cells slots Q (F0 m pc ls (.int z :: .ref a :: rest)) :=
  g_put (own := RX2) (ref := "WheatRun$Field") (C := RX2) (T := TX2) (N := 13) (ci := 3) (index := 36) (ty := .int) hx hb hts hown hK hM iaX2 rfl 8 (by decide) wf_X2_36 (fun _ h => h) tyX2 tyX2_ok nmX2 rfl (by decide +kernel) rfl rfl ha (Nat.le_of_ble_eq_true rfl) hdg kk
theorem fp_X2_39 {v0 v1 v2 v3 v4 v5 v6 v7 v8 v9 v10 v11 v12 : Value} {z : Int32} (hx : p.tables.exec = Jvm.exec) (hb : c.code = cc) (hts : ∀ w ∈ AL, w.before args s = true) (hown : s.vm.findClass RX2 = some m.cls) (hK : Kw G s) (hM : Wd G M s H locs) (ha : M a = some (r, .inr (3, [v0, v1, v2, v3, v4, v5, v6, v7, v8, v9, v10, v11, v12]))) (hdg : decode cc pc = .ok (.putfield 39, 3)) (kk : ∀ (H : Heap) (locs : List Loc), Wd G (hu M a r (.inr (3, [v0, v1, v2, v3, v4, v5, v6, v7, v8, .int z, v10, v11, v12]))) s H locs → W p l e R s m args below meth c H locs cells slots Q (F0 m (pc + 3) ls rest)) : W p l e R s m args below meth c H locs cells slots Q (F0 m pc ls (.int z :: .ref a :: rest)) :=
  g_put (own := RX2) (ref := "WheatRun$Field") (C := RX2) (T := TX2) (N := 13) (ci := 3) (index := 39) (ty := .int) hx hb hts hown hK hM iaX2 rfl 9 (by decide) wf_X2_39 (fun _ h => h) tyX2 tyX2_ok nmX2 rfl (by decide +kernel) rfl rfl ha (Nat.le_of_ble_eq_true rfl) hdg kk
theorem fp_X2_42 {v0 v1 v2 v3 v4 v5 v6 v7 v8 v9 v10 v11 v12 : Value} {z : Int32} (hx : p.tables.exec = Jvm.exec) (hb : c.code = cc) (hts : ∀ w ∈ AL, w.before args s = true) (hown : s.vm.findClass RX2 = some m.cls) (hK : Kw G s) (hM : Wd G M s H locs) (ha : M a = some (r, .inr (3, [v0, v1, v2, v3, v4, v5, v6, v7, v8, v9, v10, v11, v12]))) (hdg : decode cc pc = .ok (.putfield 42, 3)) (kk : ∀ (H : Heap) (locs : List Loc), Wd G (hu M a r (.inr (3, [v0, v1, v2, v3, v4, v5, v6, v7, v8, v9, .int z, v11, v12]))) s H locs → W p l e R s m args below meth c H locs cells slots Q (F0 m (pc + 3) ls rest)) : W p l e R s m args below meth c H locs cells slots Q (F0 m pc ls (.int z :: .ref a :: rest)) :=
  g_put (own := RX2) (ref := "WheatRun$Field") (C := RX2) (T := TX2) (N := 13) (ci := 3) (index := 42) (ty := .int) hx hb hts hown hK hM iaX2 rfl 10 (by decide) wf_X2_42 (fun _ h => h) tyX2 tyX2_ok nmX2 rfl (by decide +kernel) rfl rfl ha (Nat.le_of_ble_eq_true rfl) hdg kk
theorem fp_X2_45 {v0 v1 v2 v3 v4 v5 v6 v7 v8 v9 v10 v11 v12 : Value} {z : Int32} (hx : p.tables.exec = Jvm.exec) (hb : c.code = cc) (hts : ∀ w ∈ AL, w.before args s = true) (hown : s.vm.findClass RX2 = some m.cls) (hK : Kw G s) (hM : Wd G M s H locs) (ha : M a = some (r, .inr (3, [v0, v1, v2, v3, v4, v5, v6, v7, v8, v9, v10, v11, v12]))) (hdg : decode cc pc = .ok (.putfield 45, 3)) (kk : ∀ (H : Heap) (locs : List Loc), Wd G (hu M a r (.inr (3, [v0, v1, v2, v3, v4, v5, v6, v7, v8, v9, v10, .int z, v12]))) s H locs → W p l e R s m args below meth c H locs cells slots Q (F0 m (pc + 3) ls rest)) : W p l e R s m args below meth c H locs cells slots Q (F0 m pc ls (.int z :: .ref a :: rest)) :=
  g_put (own := RX2) (ref := "WheatRun$Field") (C := RX2) (T := TX2) (N := 13) (ci := 3) (index := 45) (ty := .int) hx hb hts hown hK hM iaX2 rfl 11 (by decide) wf_X2_45 (fun _ h => h) tyX2 tyX2_ok nmX2 rfl (by decide +kernel) rfl rfl ha (Nat.le_of_ble_eq_true rfl) hdg kk
theorem fp_X2_48 {v0 v1 v2 v3 v4 v5 v6 v7 v8 v9 v10 v11 v12 : Value} {z : Int32} (hx : p.tables.exec = Jvm.exec) (hb : c.code = cc) (hts : ∀ w ∈ AL, w.before args s = true) (hown : s.vm.findClass RX2 = some m.cls) (hK : Kw G s) (hM : Wd G M s H locs) (ha : M a = some (r, .inr (3, [v0, v1, v2, v3, v4, v5, v6, v7, v8, v9, v10, v11, v12]))) (hdg : decode cc pc = .ok (.putfield 48, 3)) (kk : ∀ (H : Heap) (locs : List Loc), Wd G (hu M a r (.inr (3, [v0, v1, v2, v3, v4, v5, v6, v7, v8, v9, v10, v11, .int z]))) s H locs → W p l e R s m args below meth c H locs cells slots Q (F0 m (pc + 3) ls rest)) : W p l e R s m args below meth c H locs cells slots Q (F0 m pc ls (.int z :: .ref a :: rest)) :=
  g_put (own := RX2) (ref := "WheatRun$Field") (C := RX2) (T := TX2) (N := 13) (ci := 3) (index := 48) (ty := .int) hx hb hts hown hK hM iaX2 rfl 12 (by decide) wf_X2_48 (fun _ h => h) tyX2 tyX2_ok nmX2 rfl (by decide +kernel) rfl rfl ha (Nat.le_of_ble_eq_true rfl) hdg kk
theorem fp_X3_12 {v0 v1 v2 v3 v4 v5 v6 v7 v8 : Value} {q : Nat} (hx : p.tables.exec = Jvm.exec) (hb : c.code = cc) (hts : ∀ w ∈ AL, w.before args s = true) (hown : s.vm.findClass RX3 = some m.cls) (hK : Kw G s) (hM : Wd G M s H locs) (hin : meth.name = "<init>") (ha : M a = some (r, .inr (4, [v0, v1, v2, v3, v4, v5, v6, v7, v8]))) (hdg : decode cc pc = .ok (.putfield 12, 3)) (kk : ∀ (H : Heap) (locs : List Loc), Wd G (hu M a r (.inr (4, [.ref q, v1, v2, v3, v4, v5, v6, v7, v8]))) s H locs → W p l e R s m args below meth c H locs cells slots Q (F0 m (pc + 3) ls rest)) : W p l e R s m args below meth c H locs cells slots Q (F0 m pc ls (.ref q :: .ref a :: rest)) :=
  g_putF (own := RX3) (ref := "WheatRun$Land") (C := RX3) (T := TX3) (N := 9) (ci := 4) (index := 12) (ty := .object "java/util/ArrayList") hx hb hts hown hK hM iaX3 rfl 0 (by decide) wf_X3_12 (fun _ h => h) tyX3 tyX3_ok nmX3 rfl hin rfl (by decide +kernel) rfl rfl ha (Nat.le_of_ble_eq_true rfl) hdg kk
theorem fp_X3_18 {v0 v1 v2 v3 v4 v5 v6 v7 v8 : Value} {q : Nat} (hx : p.tables.exec = Jvm.exec) (hb : c.code = cc) (hts : ∀ w ∈ AL, w.before args s = true) (hown : s.vm.findClass RX3 = some m.cls) (hK : Kw G s) (hM : Wd G M s H locs) (hin : meth.name = "<init>") (ha : M a = some (r, .inr (4, [v0, v1, v2, v3, v4, v5, v6, v7, v8]))) (hdg : decode cc pc = .ok (.putfield 18, 3)) (kk : ∀ (H : Heap) (locs : List Loc), Wd G (hu M a r (.inr (4, [v0, .ref q, v2, v3, v4, v5, v6, v7, v8]))) s H locs → W p l e R s m args below meth c H locs cells slots Q (F0 m (pc + 3) ls rest)) : W p l e R s m args below meth c H locs cells slots Q (F0 m pc ls (.ref q :: .ref a :: rest)) :=
  g_putF (own := RX3) (ref := "WheatRun$Land") (C := RX3) (T := TX3) (N := 9) (ci := 4) (index := 18) (ty := .object "java/util/ArrayList") hx hb hts hown hK hM iaX3 rfl 1 (by decide) wf_X3_18 (fun _ h => h) tyX3 tyX3_ok nmX3 rfl hin rfl (by decide +kernel) rfl rfl ha (Nat.le_of_ble_eq_true rfl) hdg kk
theorem fp_X3_21 {v0 v1 v2 v3 v4 v5 v6 v7 v8 : Value} {q : Nat} (hx : p.tables.exec = Jvm.exec) (hb : c.code = cc) (hts : ∀ w ∈ AL, w.before args s = true) (hown : s.vm.findClass RX3 = some m.cls) (hK : Kw G s) (hM : Wd G M s H locs) (hin : meth.name = "<init>") (ha : M a = some (r, .inr (4, [v0, v1, v2, v3, v4, v5, v6, v7, v8]))) (hdg : decode cc pc = .ok (.putfield 21, 3)) (kk : ∀ (H : Heap) (locs : List Loc), Wd G (hu M a r (.inr (4, [v0, v1, .ref q, v3, v4, v5, v6, v7, v8]))) s H locs → W p l e R s m args below meth c H locs cells slots Q (F0 m (pc + 3) ls rest)) : W p l e R s m args below meth c H locs cells slots Q (F0 m pc ls (.ref q :: .ref a :: rest)) :=
  g_putF (own := RX3) (ref := "WheatRun$Land") (C := RX3) (T := TX3) (N := 9) (ci := 4) (index := 21) (ty := .object "java/util/ArrayList") hx hb hts hown hK hM iaX3 rfl 2 (by decide) wf_X3_21 (fun _ h => h) tyX3 tyX3_ok nmX3 rfl hin rfl (by decide +kernel) rfl rfl ha (Nat.le_of_ble_eq_true rfl) hdg kk
theorem fp_X3_24 {v0 v1 v2 v3 v4 v5 v6 v7 v8 : Value} {q : Nat} (hx : p.tables.exec = Jvm.exec) (hb : c.code = cc) (hts : ∀ w ∈ AL, w.before args s = true) (hown : s.vm.findClass RX3 = some m.cls) (hK : Kw G s) (hM : Wd G M s H locs) (hin : meth.name = "<init>") (ha : M a = some (r, .inr (4, [v0, v1, v2, v3, v4, v5, v6, v7, v8]))) (hdg : decode cc pc = .ok (.putfield 24, 3)) (kk : ∀ (H : Heap) (locs : List Loc), Wd G (hu M a r (.inr (4, [v0, v1, v2, .ref q, v4, v5, v6, v7, v8]))) s H locs → W p l e R s m args below meth c H locs cells slots Q (F0 m (pc + 3) ls rest)) : W p l e R s m args below meth c H locs cells slots Q (F0 m pc ls (.ref q :: .ref a :: rest)) :=
  g_putF (own := RX3) (ref := "WheatRun$Land") (C := RX3) (T := TX3) (N := 9) (ci := 4) (index := 24) (ty := .object "java/util/ArrayList") hx hb hts hown hK hM iaX3 rfl 3 (by decide) wf_X3_24 (fun _ h => h) tyX3 tyX3_ok nmX3 rfl hin rfl (by decide +kernel) rfl rfl ha (Nat.le_of_ble_eq_true rfl) hdg kk
theorem fp_X3_27 {v0 v1 v2 v3 v4 v5 v6 v7 v8 : Value} {q : Nat} (hx : p.tables.exec = Jvm.exec) (hb : c.code = cc) (hts : ∀ w ∈ AL, w.before args s = true) (hown : s.vm.findClass RX3 = some m.cls) (hK : Kw G s) (hM : Wd G M s H locs) (hin : meth.name = "<init>") (ha : M a = some (r, .inr (4, [v0, v1, v2, v3, v4, v5, v6, v7, v8]))) (hdg : decode cc pc = .ok (.putfield 27, 3)) (kk : ∀ (H : Heap) (locs : List Loc), Wd G (hu M a r (.inr (4, [v0, v1, v2, v3, .ref q, v5, v6, v7, v8]))) s H locs → W p l e R s m args below meth c H locs cells slots Q (F0 m (pc + 3) ls rest)) : W p l e R s m args below meth c H locs cells slots Q (F0 m pc ls (.ref q :: .ref a :: rest)) :=
  g_putF (own := RX3) (ref := "WheatRun$Land") (C := RX3) (T := TX3) (N := 9) (ci := 4) (index := 27) (ty := .object "java/util/ArrayList") hx hb hts hown hK hM iaX3 rfl 4 (by decide) wf_X3_27 (fun _ h => h) tyX3 tyX3_ok nmX3 rfl hin rfl (by decide +kernel) rfl rfl ha (Nat.le_of_ble_eq_true rfl) hdg kk
theorem fp_X3_30 {v0 v1 v2 v3 v4 v5 v6 v7 v8 : Value} {z : Int32} (hx : p.tables.exec = Jvm.exec) (hb : c.code = cc) (hts : ∀ w ∈ AL, w.before args s = true) (hown : s.vm.findClass RX3 = some m.cls) (hK : Kw G s) (hM : Wd G M s H locs) (ha : M a = some (r, .inr (4, [v0, v1, v2, v3, v4, v5, v6, v7, v8]))) (hdg : decode cc pc = .ok (.putfield 30, 3)) (kk : ∀ (H : Heap) (locs : List Loc), Wd G (hu M a r (.inr (4, [v0, v1, v2, v3, v4, v5, v6, .int z, v8]))) s H locs → W p l e R s m args below meth c H locs cells slots Q (F0 m (pc + 3) ls rest)) : W p l e R s m args below meth c H locs cells slots Q (F0 m pc ls (.int z :: .ref a :: rest)) :=
  g_put (own := RX3) (ref := "WheatRun$Land") (C := RX3) (T := TX3) (N := 9) (ci := 4) (index := 30) (ty := .int) hx hb hts hown hK hM iaX3 rfl 7 (by decide) wf_X3_30 (fun _ h => h) tyX3 tyX3_ok nmX3 rfl (by decide +kernel) rfl rfl ha (Nat.le_of_ble_eq_true rfl) hdg kk
theorem fp_X3_34 {v0 v1 v2 v3 v4 v5 v6 v7 v8 : Value} {z : Int32} (hx : p.tables.exec = Jvm.exec) (hb : c.code = cc) (hts : ∀ w ∈ AL, w.before args s = true) (hown : s.vm.findClass RX3 = some m.cls) (hK : Kw G s) (hM : Wd G M s H locs) (ha : M a = some (r, .inr (4, [v0, v1, v2, v3, v4, v5, v6, v7, v8]))) (hdg : decode cc pc = .ok (.putfield 34, 3)) (kk : ∀ (H : Heap) (locs : List Loc), Wd G (hu M a r (.inr (4, [v0, v1, v2, v3, v4, v5, v6, v7, .int z]))) s H locs → W p l e R s m args below meth c H locs cells slots Q (F0 m (pc + 3) ls rest)) : W p l e R s m args below meth c H locs cells slots Q (F0 m pc ls (.int z :: .ref a :: rest)) :=
  g_put (own := RX3) (ref := "WheatRun$Land") (C := RX3) (T := TX3) (N := 9) (ci := 4) (index := 34) (ty := .int) hx hb hts hown hK hM iaX3 rfl 8 (by decide) wf_X3_34 (fun _ h => h) tyX3 tyX3_ok nmX3 rfl (by decide +kernel) rfl rfl ha (Nat.le_of_ble_eq_true rfl) hdg kk
theorem fp_X3_37 {v0 v1 v2 v3 v4 v5 v6 v7 v8 : Value} {z : Int32} (hx : p.tables.exec = Jvm.exec) (hb : c.code = cc) (hts : ∀ w ∈ AL, w.before args s = true) (hown : s.vm.findClass RX3 = some m.cls) (hK : Kw G s) (hM : Wd G M s H locs) (hin : meth.name = "<init>") (hz : z = 0 ∨ z = 1) (ha : M a = some (r, .inr (4, [v0, v1, v2, v3, v4, v5, v6, v7, v8]))) (hdg : decode cc pc = .ok (.putfield 37, 3)) (kk : ∀ (H : Heap) (locs : List Loc), Wd G (hu M a r (.inr (4, [v0, v1, v2, v3, v4, .int z, v6, v7, v8]))) s H locs → W p l e R s m args below meth c H locs cells slots Q (F0 m (pc + 3) ls rest)) : W p l e R s m args below meth c H locs cells slots Q (F0 m pc ls (.int z :: .ref a :: rest)) :=
  g_putF (own := RX3) (ref := "WheatRun$Land") (C := RX3) (T := TX3) (N := 9) (ci := 4) (index := 37) (ty := .boolean) hx hb hts hown hK hM iaX3 rfl 5 (by decide) wf_X3_37 (fun _ h => h) tyX3 tyX3_ok nmX3 rfl hin rfl (by decide +kernel) (nz01 hz) (fz01 hz) ha (Nat.le_of_ble_eq_true rfl) hdg kk
theorem fp_X3_41 {v0 v1 v2 v3 v4 v5 v6 v7 v8 : Value} {z : Int32} (hx : p.tables.exec = Jvm.exec) (hb : c.code = cc) (hts : ∀ w ∈ AL, w.before args s = true) (hown : s.vm.findClass RX3 = some m.cls) (hK : Kw G s) (hM : Wd G M s H locs) (ha : M a = some (r, .inr (4, [v0, v1, v2, v3, v4, v5, v6, v7, v8]))) (hdg : decode cc pc = .ok (.putfield 41, 3)) (kk : ∀ (H : Heap) (locs : List Loc), Wd G (hu M a r (.inr (4, [v0, v1, v2, v3, v4, v5, .int z, v7, v8]))) s H locs → W p l e R s m args below meth c H locs cells slots Q (F0 m (pc + 3) ls rest)) : W p l e R s m args below meth c H locs cells slots Q (F0 m pc ls (.int z :: .ref a :: rest)) :=
  g_put (own := RX3) (ref := "WheatRun$Land") (C := RX3) (T := TX3) (N := 9) (ci := 4) (index := 41) (ty := .int) hx hb hts hown hK hM iaX3 rfl 6 (by decide) wf_X3_41 (fun _ h => h) tyX3 tyX3_ok nmX3 rfl (by decide +kernel) rfl rfl ha (Nat.le_of_ble_eq_true rfl) hdg kk
theorem fp_X3_147 {v0 v1 v2 v3 v4 v5 v6 v7 v8 v9 : Value} {z : Int32} (hx : p.tables.exec = Jvm.exec) (hb : c.code = cc) (hts : ∀ w ∈ AL, w.before args s = true) (hown : s.vm.findClass RX3 = some m.cls) (hK : Kw G s) (hM : Wd G M s H locs) (ha : M a = some (r, .inr (6, [v0, v1, v2, v3, v4, v5, v6, v7, v8, v9]))) (hdg : decode cc pc = .ok (.putfield 147, 3)) (kk : ∀ (H : Heap) (locs : List Loc), Wd G (hu M a r (.inr (6, [v0, v1, .int z, v3, v4, v5, v6, v7, v8, v9]))) s H locs → W p l e R s m args below meth c H locs cells slots Q (F0 m (pc + 3) ls rest)) : W p l e R s m args below meth c H locs cells slots Q (F0 m pc ls (.int z :: .ref a :: rest)) :=
  g_put (own := RX3) (ref := "WheatRun$Truck") (C := RX5) (T := TX5) (N := 10) (ci := 6) (index := 147) (ty := .int) hx hb hts hown hK hM iaX5 rfl 2 (by decide) wf_X3_147 (fun _ h => h) tyX5 tyX5_ok nmX5 rfl (by decide +kernel) rfl rfl ha (Nat.le_of_ble_eq_true rfl) hdg kk
theorem fp_X3_158 {v0 v1 v2 v3 v4 v5 v6 v7 v8 v9 : Value} {z : Int32} (hx : p.tables.exec = Jvm.exec) (hb : c.code = cc) (hts : ∀ w ∈ AL, w.before args s = true) (hown : s.vm.findClass RX3 = some m.cls) (hK : Kw G s) (hM : Wd G M s H locs) (ha : M a = some (r, .inr (6, [v0, v1, v2, v3, v4, v5, v6, v7, v8, v9]))) (hdg : decode cc pc = .ok (.putfield 158, 3)) (kk : ∀ (H : Heap) (locs : List Loc), Wd G (hu M a r (.inr (6, [v0, v1, v2, v3, v4, v5, .int z, v7, v8, v9]))) s H locs → W p l e R s m args below meth c H locs cells slots Q (F0 m (pc + 3) ls rest)) : W p l e R s m args below meth c H locs cells slots Q (F0 m pc ls (.int z :: .ref a :: rest)) :=
  g_put (own := RX3) (ref := "WheatRun$Truck") (C := RX5) (T := TX5) (N := 10) (ci := 6) (index := 158) (ty := .int) hx hb hts hown hK hM iaX5 rfl 6 (by decide) wf_X3_158 (fun _ h => h) tyX5 tyX5_ok nmX5 rfl (by decide +kernel) rfl rfl ha (Nat.le_of_ble_eq_true rfl) hdg kk
theorem fp_X3_161 {v0 v1 v2 v3 v4 v5 : Value} {z : Int32} (hx : p.tables.exec = Jvm.exec) (hb : c.code = cc) (hts : ∀ w ∈ AL, w.before args s = true) (hown : s.vm.findClass RX3 = some m.cls) (hK : Kw G s) (hM : Wd G M s H locs) (ha : M a = some (r, .inr (2, [v0, v1, v2, v3, v4, v5]))) (hdg : decode cc pc = .ok (.putfield 161, 3)) (kk : ∀ (H : Heap) (locs : List Loc), Wd G (hu M a r (.inr (2, [v0, .int z, v2, v3, v4, v5]))) s H locs → W p l e R s m args below meth c H locs cells slots Q (F0 m (pc + 3) ls rest)) : W p l e R s m args below meth c H locs cells slots Q (F0 m pc ls (.int z :: .ref a :: rest)) :=
  g_put (own := RX3) (ref := "WheatRun$Elevator") (C := RX1) (T := TX1) (N := 6) (ci := 2) (index := 161) (ty := .int) hx hb hts hown hK hM iaX1 rfl 1 (by decide) wf_X3_161 (fun _ h => h) tyX1 tyX1_ok nmX1 rfl (by decide +kernel) rfl rfl ha (Nat.le_of_ble_eq_true rfl) hdg kk
theorem fp_X4_13 {v0 v1 v2 v3 v4 v5 v6 : Value} {z : Int32} (hx : p.tables.exec = Jvm.exec) (hb : c.code = cc) (hts : ∀ w ∈ AL, w.before args s = true) (hown : s.vm.findClass RX4 = some m.cls) (hK : Kw G s) (hM : Wd G M s H locs) (hin : meth.name = "<init>") (ha : M a = some (r, .inr (5, [v0, v1, v2, v3, v4, v5, v6]))) (hdg : decode cc pc = .ok (.putfield 13, 3)) (kk : ∀ (H : Heap) (locs : List Loc), Wd G (hu M a r (.inr (5, [.int z, v1, v2, v3, v4, v5, v6]))) s H locs → W p l e R s m args below meth c H locs cells slots Q (F0 m (pc + 3) ls rest)) : W p l e R s m args below meth c H locs cells slots Q (F0 m pc ls (.int z :: .ref a :: rest)) :=
  g_putF (own := RX4) (ref := "WheatRun$Ticket") (C := RX4) (T := TX4) (N := 7) (ci := 5) (index := 13) (ty := .int) hx hb hts hown hK hM iaX4 rfl 0 (by decide) wf_X4_13 (fun _ h => h) tyX4 tyX4_ok nmX4 rfl hin rfl (by decide +kernel) rfl rfl ha (Nat.le_of_ble_eq_true rfl) hdg kk
theorem fp_X4_21 {v0 v1 v2 v3 v4 v5 v6 : Value} {z : Int32} (hx : p.tables.exec = Jvm.exec) (hb : c.code = cc) (hts : ∀ w ∈ AL, w.before args s = true) (hown : s.vm.findClass RX4 = some m.cls) (hK : Kw G s) (hM : Wd G M s H locs) (hin : meth.name = "<init>") (ha : M a = some (r, .inr (5, [v0, v1, v2, v3, v4, v5, v6]))) (hdg : decode cc pc = .ok (.putfield 21, 3)) (kk : ∀ (H : Heap) (locs : List Loc), Wd G (hu M a r (.inr (5, [v0, .int z, v2, v3, v4, v5, v6]))) s H locs → W p l e R s m args below meth c H locs cells slots Q (F0 m (pc + 3) ls rest)) : W p l e R s m args below meth c H locs cells slots Q (F0 m pc ls (.int z :: .ref a :: rest)) :=
  g_putF (own := RX4) (ref := "WheatRun$Ticket") (C := RX4) (T := TX4) (N := 7) (ci := 5) (index := 21) (ty := .int) hx hb hts hown hK hM iaX4 rfl 1 (by decide) wf_X4_21 (fun _ h => h) tyX4 tyX4_ok nmX4 rfl hin rfl (by decide +kernel) rfl rfl ha (Nat.le_of_ble_eq_true rfl) hdg kk
theorem fp_X4_27 {v0 v1 v2 v3 v4 v5 v6 : Value} {z : Int32} (hx : p.tables.exec = Jvm.exec) (hb : c.code = cc) (hts : ∀ w ∈ AL, w.before args s = true) (hown : s.vm.findClass RX4 = some m.cls) (hK : Kw G s) (hM : Wd G M s H locs) (hin : meth.name = "<init>") (ha : M a = some (r, .inr (5, [v0, v1, v2, v3, v4, v5, v6]))) (hdg : decode cc pc = .ok (.putfield 27, 3)) (kk : ∀ (H : Heap) (locs : List Loc), Wd G (hu M a r (.inr (5, [v0, v1, .int z, v3, v4, v5, v6]))) s H locs → W p l e R s m args below meth c H locs cells slots Q (F0 m (pc + 3) ls rest)) : W p l e R s m args below meth c H locs cells slots Q (F0 m pc ls (.int z :: .ref a :: rest)) :=
  g_putF (own := RX4) (ref := "WheatRun$Ticket") (C := RX4) (T := TX4) (N := 7) (ci := 5) (index := 27) (ty := .int) hx hb hts hown hK hM iaX4 rfl 2 (by decide) wf_X4_27 (fun _ h => h) tyX4 tyX4_ok nmX4 rfl hin rfl (by decide +kernel) rfl rfl ha (Nat.le_of_ble_eq_true rfl) hdg kk
theorem fp_X4_28 {v0 v1 v2 v3 v4 v5 v6 : Value} {z : Int32} (hx : p.tables.exec = Jvm.exec) (hb : c.code = cc) (hts : ∀ w ∈ AL, w.before args s = true) (hown : s.vm.findClass RX4 = some m.cls) (hK : Kw G s) (hM : Wd G M s H locs) (hin : meth.name = "<init>") (ha : M a = some (r, .inr (5, [v0, v1, v2, v3, v4, v5, v6]))) (hdg : decode cc pc = .ok (.putfield 28, 3)) (kk : ∀ (H : Heap) (locs : List Loc), Wd G (hu M a r (.inr (5, [v0, v1, v2, .int z, v4, v5, v6]))) s H locs → W p l e R s m args below meth c H locs cells slots Q (F0 m (pc + 3) ls rest)) : W p l e R s m args below meth c H locs cells slots Q (F0 m pc ls (.int z :: .ref a :: rest)) :=
  g_putF (own := RX4) (ref := "WheatRun$Ticket") (C := RX4) (T := TX4) (N := 7) (ci := 5) (index := 28) (ty := .int) hx hb hts hown hK hM iaX4 rfl 3 (by decide) wf_X4_28 (fun _ h => h) tyX4 tyX4_ok nmX4 rfl hin rfl (by decide +kernel) rfl rfl ha (Nat.le_of_ble_eq_true rfl) hdg kk
theorem fp_X4_34 {v0 v1 v2 v3 v4 v5 v6 : Value} {z : Int32} (hx : p.tables.exec = Jvm.exec) (hb : c.code = cc) (hts : ∀ w ∈ AL, w.before args s = true) (hown : s.vm.findClass RX4 = some m.cls) (hK : Kw G s) (hM : Wd G M s H locs) (hin : meth.name = "<init>") (ha : M a = some (r, .inr (5, [v0, v1, v2, v3, v4, v5, v6]))) (hdg : decode cc pc = .ok (.putfield 34, 3)) (kk : ∀ (H : Heap) (locs : List Loc), Wd G (hu M a r (.inr (5, [v0, v1, v2, v3, .int z, v5, v6]))) s H locs → W p l e R s m args below meth c H locs cells slots Q (F0 m (pc + 3) ls rest)) : W p l e R s m args below meth c H locs cells slots Q (F0 m pc ls (.int z :: .ref a :: rest)) :=
  g_putF (own := RX4) (ref := "WheatRun$Ticket") (C := RX4) (T := TX4) (N := 7) (ci := 5) (index := 34) (ty := .int) hx hb hts hown hK hM iaX4 rfl 4 (by decide) wf_X4_34 (fun _ h => h) tyX4 tyX4_ok nmX4 rfl hin rfl (by decide +kernel) rfl rfl ha (Nat.le_of_ble_eq_true rfl) hdg kk
theorem fp_X4_37 {v0 v1 v2 v3 v4 v5 v6 : Value} {z : Int32} (hx : p.tables.exec = Jvm.exec) (hb : c.code = cc) (hts : ∀ w ∈ AL, w.before args s = true) (hown : s.vm.findClass RX4 = some m.cls) (hK : Kw G s) (hM : Wd G M s H locs) (hin : meth.name = "<init>") (ha : M a = some (r, .inr (5, [v0, v1, v2, v3, v4, v5, v6]))) (hdg : decode cc pc = .ok (.putfield 37, 3)) (kk : ∀ (H : Heap) (locs : List Loc), Wd G (hu M a r (.inr (5, [v0, v1, v2, v3, v4, .int z, v6]))) s H locs → W p l e R s m args below meth c H locs cells slots Q (F0 m (pc + 3) ls rest)) : W p l e R s m args below meth c H locs cells slots Q (F0 m pc ls (.int z :: .ref a :: rest)) :=
  g_putF (own := RX4) (ref := "WheatRun$Ticket") (C := RX4) (T := TX4) (N := 7) (ci := 5) (index := 37) (ty := .int) hx hb hts hown hK hM iaX4 rfl 5 (by decide) wf_X4_37 (fun _ h => h) tyX4 tyX4_ok nmX4 rfl hin rfl (by decide +kernel) rfl rfl ha (Nat.le_of_ble_eq_true rfl) hdg kk
theorem fp_X4_40 {v0 v1 v2 v3 v4 v5 v6 : Value} {z : Int32} (hx : p.tables.exec = Jvm.exec) (hb : c.code = cc) (hts : ∀ w ∈ AL, w.before args s = true) (hown : s.vm.findClass RX4 = some m.cls) (hK : Kw G s) (hM : Wd G M s H locs) (hin : meth.name = "<init>") (ha : M a = some (r, .inr (5, [v0, v1, v2, v3, v4, v5, v6]))) (hdg : decode cc pc = .ok (.putfield 40, 3)) (kk : ∀ (H : Heap) (locs : List Loc), Wd G (hu M a r (.inr (5, [v0, v1, v2, v3, v4, v5, .int z]))) s H locs → W p l e R s m args below meth c H locs cells slots Q (F0 m (pc + 3) ls rest)) : W p l e R s m args below meth c H locs cells slots Q (F0 m pc ls (.int z :: .ref a :: rest)) :=
  g_putF (own := RX4) (ref := "WheatRun$Ticket") (C := RX4) (T := TX4) (N := 7) (ci := 5) (index := 40) (ty := .int) hx hb hts hown hK hM iaX4 rfl 6 (by decide) wf_X4_40 (fun _ h => h) tyX4 tyX4_ok nmX4 rfl hin rfl (by decide +kernel) rfl rfl ha (Nat.le_of_ble_eq_true rfl) hdg kk
theorem fp_X5_9 {v0 v1 v2 v3 v4 v5 v6 v7 v8 v9 : Value} {z : Int32} (hx : p.tables.exec = Jvm.exec) (hb : c.code = cc) (hts : ∀ w ∈ AL, w.before args s = true) (hown : s.vm.findClass RX5 = some m.cls) (hK : Kw G s) (hM : Wd G M s H locs) (ha : M a = some (r, .inr (6, [v0, v1, v2, v3, v4, v5, v6, v7, v8, v9]))) (hdg : decode cc pc = .ok (.putfield 9, 3)) (kk : ∀ (H : Heap) (locs : List Loc), Wd G (hu M a r (.inr (6, [v0, v1, v2, .int z, v4, v5, v6, v7, v8, v9]))) s H locs → W p l e R s m args below meth c H locs cells slots Q (F0 m (pc + 3) ls rest)) : W p l e R s m args below meth c H locs cells slots Q (F0 m pc ls (.int z :: .ref a :: rest)) :=
  g_put (own := RX5) (ref := "WheatRun$Truck") (C := RX5) (T := TX5) (N := 10) (ci := 6) (index := 9) (ty := .int) hx hb hts hown hK hM iaX5 rfl 3 (by decide) wf_X5_9 (fun _ h => h) tyX5 tyX5_ok nmX5 rfl (by decide +kernel) rfl rfl ha (Nat.le_of_ble_eq_true rfl) hdg kk
theorem fp_X5_15 {v0 v1 v2 v3 v4 v5 v6 v7 v8 v9 : Value} {z : Int32} (hx : p.tables.exec = Jvm.exec) (hb : c.code = cc) (hts : ∀ w ∈ AL, w.before args s = true) (hown : s.vm.findClass RX5 = some m.cls) (hK : Kw G s) (hM : Wd G M s H locs) (ha : M a = some (r, .inr (6, [v0, v1, v2, v3, v4, v5, v6, v7, v8, v9]))) (hdg : decode cc pc = .ok (.putfield 15, 3)) (kk : ∀ (H : Heap) (locs : List Loc), Wd G (hu M a r (.inr (6, [v0, v1, v2, v3, v4, v5, v6, .int z, v8, v9]))) s H locs → W p l e R s m args below meth c H locs cells slots Q (F0 m (pc + 3) ls rest)) : W p l e R s m args below meth c H locs cells slots Q (F0 m pc ls (.int z :: .ref a :: rest)) :=
  g_put (own := RX5) (ref := "WheatRun$Truck") (C := RX5) (T := TX5) (N := 10) (ci := 6) (index := 15) (ty := .int) hx hb hts hown hK hM iaX5 rfl 7 (by decide) wf_X5_15 (fun _ h => h) tyX5 tyX5_ok nmX5 rfl (by decide +kernel) rfl rfl ha (Nat.le_of_ble_eq_true rfl) hdg kk
theorem fp_X5_18 {v0 v1 v2 v3 v4 v5 v6 v7 v8 v9 : Value} {z : Int32} (hx : p.tables.exec = Jvm.exec) (hb : c.code = cc) (hts : ∀ w ∈ AL, w.before args s = true) (hown : s.vm.findClass RX5 = some m.cls) (hK : Kw G s) (hM : Wd G M s H locs) (ha : M a = some (r, .inr (6, [v0, v1, v2, v3, v4, v5, v6, v7, v8, v9]))) (hdg : decode cc pc = .ok (.putfield 18, 3)) (kk : ∀ (H : Heap) (locs : List Loc), Wd G (hu M a r (.inr (6, [v0, v1, v2, v3, v4, v5, v6, v7, .int z, v9]))) s H locs → W p l e R s m args below meth c H locs cells slots Q (F0 m (pc + 3) ls rest)) : W p l e R s m args below meth c H locs cells slots Q (F0 m pc ls (.int z :: .ref a :: rest)) :=
  g_put (own := RX5) (ref := "WheatRun$Truck") (C := RX5) (T := TX5) (N := 10) (ci := 6) (index := 18) (ty := .int) hx hb hts hown hK hM iaX5 rfl 8 (by decide) wf_X5_18 (fun _ h => h) tyX5 tyX5_ok nmX5 rfl (by decide +kernel) rfl rfl ha (Nat.le_of_ble_eq_true rfl) hdg kk
theorem fp_X5_21 {v0 v1 v2 v3 v4 v5 v6 v7 v8 v9 : Value} {z : Int32} (hx : p.tables.exec = Jvm.exec) (hb : c.code = cc) (hts : ∀ w ∈ AL, w.before args s = true) (hown : s.vm.findClass RX5 = some m.cls) (hK : Kw G s) (hM : Wd G M s H locs) (ha : M a = some (r, .inr (6, [v0, v1, v2, v3, v4, v5, v6, v7, v8, v9]))) (hdg : decode cc pc = .ok (.putfield 21, 3)) (kk : ∀ (H : Heap) (locs : List Loc), Wd G (hu M a r (.inr (6, [.int z, v1, v2, v3, v4, v5, v6, v7, v8, v9]))) s H locs → W p l e R s m args below meth c H locs cells slots Q (F0 m (pc + 3) ls rest)) : W p l e R s m args below meth c H locs cells slots Q (F0 m pc ls (.int z :: .ref a :: rest)) :=
  g_put (own := RX5) (ref := "WheatRun$Truck") (C := RX5) (T := TX5) (N := 10) (ci := 6) (index := 21) (ty := .int) hx hb hts hown hK hM iaX5 rfl 0 (by decide) wf_X5_21 (fun _ h => h) tyX5 tyX5_ok nmX5 rfl (by decide +kernel) rfl rfl ha (Nat.le_of_ble_eq_true rfl) hdg kk
theorem fp_X5_24 {v0 v1 v2 v3 v4 v5 v6 v7 v8 v9 : Value} {z : Int32} (hx : p.tables.exec = Jvm.exec) (hb : c.code = cc) (hts : ∀ w ∈ AL, w.before args s = true) (hown : s.vm.findClass RX5 = some m.cls) (hK : Kw G s) (hM : Wd G M s H locs) (ha : M a = some (r, .inr (6, [v0, v1, v2, v3, v4, v5, v6, v7, v8, v9]))) (hdg : decode cc pc = .ok (.putfield 24, 3)) (kk : ∀ (H : Heap) (locs : List Loc), Wd G (hu M a r (.inr (6, [v0, .int z, v2, v3, v4, v5, v6, v7, v8, v9]))) s H locs → W p l e R s m args below meth c H locs cells slots Q (F0 m (pc + 3) ls rest)) : W p l e R s m args below meth c H locs cells slots Q (F0 m pc ls (.int z :: .ref a :: rest)) :=
  g_put (own := RX5) (ref := "WheatRun$Truck") (C := RX5) (T := TX5) (N := 10) (ci := 6) (index := 24) (ty := .int) hx hb hts hown hK hM iaX5 rfl 1 (by decide) wf_X5_24 (fun _ h => h) tyX5 tyX5_ok nmX5 rfl (by decide +kernel) rfl rfl ha (Nat.le_of_ble_eq_true rfl) hdg kk
theorem fp_X5_27 {v0 v1 v2 v3 v4 v5 v6 v7 v8 v9 : Value} {z : Int32} (hx : p.tables.exec = Jvm.exec) (hb : c.code = cc) (hts : ∀ w ∈ AL, w.before args s = true) (hown : s.vm.findClass RX5 = some m.cls) (hK : Kw G s) (hM : Wd G M s H locs) (ha : M a = some (r, .inr (6, [v0, v1, v2, v3, v4, v5, v6, v7, v8, v9]))) (hdg : decode cc pc = .ok (.putfield 27, 3)) (kk : ∀ (H : Heap) (locs : List Loc), Wd G (hu M a r (.inr (6, [v0, v1, .int z, v3, v4, v5, v6, v7, v8, v9]))) s H locs → W p l e R s m args below meth c H locs cells slots Q (F0 m (pc + 3) ls rest)) : W p l e R s m args below meth c H locs cells slots Q (F0 m pc ls (.int z :: .ref a :: rest)) :=
  g_put (own := RX5) (ref := "WheatRun$Truck") (C := RX5) (T := TX5) (N := 10) (ci := 6) (index := 27) (ty := .int) hx hb hts hown hK hM iaX5 rfl 2 (by decide) wf_X5_27 (fun _ h => h) tyX5 tyX5_ok nmX5 rfl (by decide +kernel) rfl rfl ha (Nat.le_of_ble_eq_true rfl) hdg kk
theorem fp_X5_30 {v0 v1 v2 v3 v4 v5 v6 v7 v8 v9 : Value} {z : Int32} (hx : p.tables.exec = Jvm.exec) (hb : c.code = cc) (hts : ∀ w ∈ AL, w.before args s = true) (hown : s.vm.findClass RX5 = some m.cls) (hK : Kw G s) (hM : Wd G M s H locs) (ha : M a = some (r, .inr (6, [v0, v1, v2, v3, v4, v5, v6, v7, v8, v9]))) (hdg : decode cc pc = .ok (.putfield 30, 3)) (kk : ∀ (H : Heap) (locs : List Loc), Wd G (hu M a r (.inr (6, [v0, v1, v2, v3, .int z, v5, v6, v7, v8, v9]))) s H locs → W p l e R s m args below meth c H locs cells slots Q (F0 m (pc + 3) ls rest)) : W p l e R s m args below meth c H locs cells slots Q (F0 m pc ls (.int z :: .ref a :: rest)) :=
  g_put (own := RX5) (ref := "WheatRun$Truck") (C := RX5) (T := TX5) (N := 10) (ci := 6) (index := 30) (ty := .int) hx hb hts hown hK hM iaX5 rfl 4 (by decide) wf_X5_30 (fun _ h => h) tyX5 tyX5_ok nmX5 rfl (by decide +kernel) rfl rfl ha (Nat.le_of_ble_eq_true rfl) hdg kk
theorem fp_X5_33 {v0 v1 v2 v3 v4 v5 v6 v7 v8 v9 : Value} {z : Int32} (hx : p.tables.exec = Jvm.exec) (hb : c.code = cc) (hts : ∀ w ∈ AL, w.before args s = true) (hown : s.vm.findClass RX5 = some m.cls) (hK : Kw G s) (hM : Wd G M s H locs) (ha : M a = some (r, .inr (6, [v0, v1, v2, v3, v4, v5, v6, v7, v8, v9]))) (hdg : decode cc pc = .ok (.putfield 33, 3)) (kk : ∀ (H : Heap) (locs : List Loc), Wd G (hu M a r (.inr (6, [v0, v1, v2, v3, v4, .int z, v6, v7, v8, v9]))) s H locs → W p l e R s m args below meth c H locs cells slots Q (F0 m (pc + 3) ls rest)) : W p l e R s m args below meth c H locs cells slots Q (F0 m pc ls (.int z :: .ref a :: rest)) :=
  g_put (own := RX5) (ref := "WheatRun$Truck") (C := RX5) (T := TX5) (N := 10) (ci := 6) (index := 33) (ty := .int) hx hb hts hown hK hM iaX5 rfl 5 (by decide) wf_X5_33 (fun _ h => h) tyX5 tyX5_ok nmX5 rfl (by decide +kernel) rfl rfl ha (Nat.le_of_ble_eq_true rfl) hdg kk
theorem fp_X5_36 {v0 v1 v2 v3 v4 v5 v6 v7 v8 v9 : Value} {z : Int32} (hx : p.tables.exec = Jvm.exec) (hb : c.code = cc) (hts : ∀ w ∈ AL, w.before args s = true) (hown : s.vm.findClass RX5 = some m.cls) (hK : Kw G s) (hM : Wd G M s H locs) (ha : M a = some (r, .inr (6, [v0, v1, v2, v3, v4, v5, v6, v7, v8, v9]))) (hdg : decode cc pc = .ok (.putfield 36, 3)) (kk : ∀ (H : Heap) (locs : List Loc), Wd G (hu M a r (.inr (6, [v0, v1, v2, v3, v4, v5, .int z, v7, v8, v9]))) s H locs → W p l e R s m args below meth c H locs cells slots Q (F0 m (pc + 3) ls rest)) : W p l e R s m args below meth c H locs cells slots Q (F0 m pc ls (.int z :: .ref a :: rest)) :=
  g_put (own := RX5) (ref := "WheatRun$Truck") (C := RX5) (T := TX5) (N := 10) (ci := 6) (index := 36) (ty := .int) hx hb hts hown hK hM iaX5 rfl 6 (by decide) wf_X5_36 (fun _ h => h) tyX5 tyX5_ok nmX5 rfl (by decide +kernel) rfl rfl ha (Nat.le_of_ble_eq_true rfl) hdg kk
theorem fp_X5_39 {v0 v1 v2 v3 v4 v5 v6 v7 v8 v9 : Value} {z : Int32} (hx : p.tables.exec = Jvm.exec) (hb : c.code = cc) (hts : ∀ w ∈ AL, w.before args s = true) (hown : s.vm.findClass RX5 = some m.cls) (hK : Kw G s) (hM : Wd G M s H locs) (ha : M a = some (r, .inr (6, [v0, v1, v2, v3, v4, v5, v6, v7, v8, v9]))) (hdg : decode cc pc = .ok (.putfield 39, 3)) (kk : ∀ (H : Heap) (locs : List Loc), Wd G (hu M a r (.inr (6, [v0, v1, v2, v3, v4, v5, v6, v7, v8, .int z]))) s H locs → W p l e R s m args below meth c H locs cells slots Q (F0 m (pc + 3) ls rest)) : W p l e R s m args below meth c H locs cells slots Q (F0 m pc ls (.int z :: .ref a :: rest)) :=
  g_put (own := RX5) (ref := "WheatRun$Truck") (C := RX5) (T := TX5) (N := 10) (ci := 6) (index := 39) (ty := .int) hx hb hts hown hK hM iaX5 rfl 9 (by decide) wf_X5_39 (fun _ h => h) tyX5 tyX5_ok nmX5 rfl (by decide +kernel) rfl rfl ha (Nat.le_of_ble_eq_true rfl) hdg kk
theorem fp_X5_57 {v0 v1 v2 v3 v4 v5 v6 v7 v8 v9 v10 v11 : Value} {z : Int32} (hx : p.tables.exec = Jvm.exec) (hb : c.code = cc) (hts : ∀ w ∈ AL, w.before args s = true) (hown : s.vm.findClass RX5 = some m.cls) (hK : Kw G s) (hM : Wd G M s H locs) (ha : M a = some (r, .inr (1, [v0, v1, v2, v3, v4, v5, v6, v7, v8, v9, v10, v11]))) (hdg : decode cc pc = .ok (.putfield 57, 3)) (kk : ∀ (H : Heap) (locs : List Loc), Wd G (hu M a r (.inr (1, [v0, v1, v2, .int z, v4, v5, v6, v7, v8, v9, v10, v11]))) s H locs → W p l e R s m args below meth c H locs cells slots Q (F0 m (pc + 3) ls rest)) : W p l e R s m args below meth c H locs cells slots Q (F0 m pc ls (.int z :: .ref a :: rest)) :=
  g_put (own := RX5) (ref := "WheatRun$Combine") (C := RX0) (T := TX0) (N := 12) (ci := 1) (index := 57) (ty := .int) hx hb hts hown hK hM iaX0 rfl 3 (by decide) wf_X5_57 (fun _ h => h) tyX0 tyX0_ok nmX0 rfl (by decide +kernel) rfl rfl ha (Nat.le_of_ble_eq_true rfl) hdg kk
theorem fp_X6_12 {v0 v1 v2 : Value} {q : Nat} (hx : p.tables.exec = Jvm.exec) (hb : c.code = cc) (hts : ∀ w ∈ AL, w.before args s = true) (hown : s.vm.findClass RX6 = some m.cls) (hK : Kw G s) (hM : Wd G M s H locs) (hin : meth.name = "<init>") (ha : M a = some (r, .inr (7, [v0, v1, v2]))) (hdg : decode cc pc = .ok (.putfield 12, 3)) (kk : ∀ (H : Heap) (locs : List Loc), Wd G (hu M a r (.inr (7, [.ref q, v1, v2]))) s H locs → W p l e R s m args below meth c H locs cells slots Q (F0 m (pc + 3) ls rest)) : W p l e R s m args below meth c H locs cells slots Q (F0 m pc ls (.ref q :: .ref a :: rest)) :=
  g_putF (own := RX6) (ref := "WheatRun") (C := RX6) (T := TX6) (N := 3) (ci := 7) (index := 12) (ty := .object "WheatRun$Land") hx hb hts hown hK hM iaX6 rfl 0 (by decide) wf_X6_12 (fun _ h => h) tyX6 tyX6_ok nmX6 rfl hin rfl (by decide +kernel) rfl rfl ha (Nat.le_of_ble_eq_true rfl) hdg kk
theorem fp_X6_18 {v0 v1 v2 : Value} {q : Nat} (hx : p.tables.exec = Jvm.exec) (hb : c.code = cc) (hts : ∀ w ∈ AL, w.before args s = true) (hown : s.vm.findClass RX6 = some m.cls) (hK : Kw G s) (hM : Wd G M s H locs) (hin : meth.name = "<init>") (ha : M a = some (r, .inr (7, [v0, v1, v2]))) (hdg : decode cc pc = .ok (.putfield 18, 3)) (kk : ∀ (H : Heap) (locs : List Loc), Wd G (hu M a r (.inr (7, [v0, .ref q, v2]))) s H locs → W p l e R s m args below meth c H locs cells slots Q (F0 m (pc + 3) ls rest)) : W p l e R s m args below meth c H locs cells slots Q (F0 m pc ls (.ref q :: .ref a :: rest)) :=
  g_putF (own := RX6) (ref := "WheatRun") (C := RX6) (T := TX6) (N := 3) (ci := 7) (index := 18) (ty := .object "WheatRun$Land") hx hb hts hown hK hM iaX6 rfl 1 (by decide) wf_X6_18 (fun _ h => h) tyX6 tyX6_ok nmX6 rfl hin rfl (by decide +kernel) rfl rfl ha (Nat.le_of_ble_eq_true rfl) hdg kk
theorem fp_X6_26 {v0 v1 v2 : Value} {q : Nat} (hx : p.tables.exec = Jvm.exec) (hb : c.code = cc) (hts : ∀ w ∈ AL, w.before args s = true) (hown : s.vm.findClass RX6 = some m.cls) (hK : Kw G s) (hM : Wd G M s H locs) (hin : meth.name = "<init>") (ha : M a = some (r, .inr (7, [v0, v1, v2]))) (hdg : decode cc pc = .ok (.putfield 26, 3)) (kk : ∀ (H : Heap) (locs : List Loc), Wd G (hu M a r (.inr (7, [v0, v1, .ref q]))) s H locs → W p l e R s m args below meth c H locs cells slots Q (F0 m (pc + 3) ls rest)) : W p l e R s m args below meth c H locs cells slots Q (F0 m pc ls (.ref q :: .ref a :: rest)) :=
  g_putF (own := RX6) (ref := "WheatRun") (C := RX6) (T := TX6) (N := 3) (ci := 7) (index := 26) (ty := .object "WheatRun$Field") hx hb hts hown hK hM iaX6 rfl 2 (by decide) wf_X6_26 (fun _ h => h) tyX6 tyX6_ok nmX6 rfl hin rfl (by decide +kernel) rfl rfl ha (Nat.le_of_ble_eq_true rfl) hdg kk
theorem fp_X6_73 {v0 v1 v2 v3 v4 v5 v6 v7 v8 v9 v10 v11 v12 : Value} {z : Int32} (hx : p.tables.exec = Jvm.exec) (hb : c.code = cc) (hts : ∀ w ∈ AL, w.before args s = true) (hown : s.vm.findClass RX6 = some m.cls) (hK : Kw G s) (hM : Wd G M s H locs) (ha : M a = some (r, .inr (3, [v0, v1, v2, v3, v4, v5, v6, v7, v8, v9, v10, v11, v12]))) (hdg : decode cc pc = .ok (.putfield 73, 3)) (kk : ∀ (H : Heap) (locs : List Loc), Wd G (hu M a r (.inr (3, [v0, v1, v2, v3, v4, v5, .int z, v7, v8, v9, v10, v11, v12]))) s H locs → W p l e R s m args below meth c H locs cells slots Q (F0 m (pc + 3) ls rest)) : W p l e R s m args below meth c H locs cells slots Q (F0 m pc ls (.int z :: .ref a :: rest)) :=
  g_put (own := RX6) (ref := "WheatRun$Field") (C := RX2) (T := TX2) (N := 13) (ci := 3) (index := 73) (ty := .int) hx hb hts hown hK hM iaX2 rfl 6 (by decide) wf_X6_73 (fun _ h => h) tyX2 tyX2_ok nmX2 rfl (by decide +kernel) rfl rfl ha (Nat.le_of_ble_eq_true rfl) hdg kk
theorem fp_X6_77 {v0 v1 v2 v3 v4 v5 v6 v7 v8 v9 v10 v11 v12 : Value} {z : Int32} (hx : p.tables.exec = Jvm.exec) (hb : c.code = cc) (hts : ∀ w ∈ AL, w.before args s = true) (hown : s.vm.findClass RX6 = some m.cls) (hK : Kw G s) (hM : Wd G M s H locs) (ha : M a = some (r, .inr (3, [v0, v1, v2, v3, v4, v5, v6, v7, v8, v9, v10, v11, v12]))) (hdg : decode cc pc = .ok (.putfield 77, 3)) (kk : ∀ (H : Heap) (locs : List Loc), Wd G (hu M a r (.inr (3, [v0, v1, v2, v3, v4, v5, v6, .int z, v8, v9, v10, v11, v12]))) s H locs → W p l e R s m args below meth c H locs cells slots Q (F0 m (pc + 3) ls rest)) : W p l e R s m args below meth c H locs cells slots Q (F0 m pc ls (.int z :: .ref a :: rest)) :=
  g_put (own := RX6) (ref := "WheatRun$Field") (C := RX2) (T := TX2) (N := 13) (ci := 3) (index := 77) (ty := .int) hx hb hts hown hK hM iaX2 rfl 7 (by decide) wf_X6_77 (fun _ h => h) tyX2 tyX2_ok nmX2 rfl (by decide +kernel) rfl rfl ha (Nat.le_of_ble_eq_true rfl) hdg kk
theorem fp_X6_131 {v0 v1 v2 v3 v4 v5 v6 v7 v8 v9 v10 v11 : Value} {z : Int32} (hx : p.tables.exec = Jvm.exec) (hb : c.code = cc) (hts : ∀ w ∈ AL, w.before args s = true) (hown : s.vm.findClass RX6 = some m.cls) (hK : Kw G s) (hM : Wd G M s H locs) (ha : M a = some (r, .inr (1, [v0, v1, v2, v3, v4, v5, v6, v7, v8, v9, v10, v11]))) (hdg : decode cc pc = .ok (.putfield 131, 3)) (kk : ∀ (H : Heap) (locs : List Loc), Wd G (hu M a r (.inr (1, [v0, v1, v2, v3, v4, v5, v6, v7, v8, .int z, v10, v11]))) s H locs → W p l e R s m args below meth c H locs cells slots Q (F0 m (pc + 3) ls rest)) : W p l e R s m args below meth c H locs cells slots Q (F0 m pc ls (.int z :: .ref a :: rest)) :=
  g_put (own := RX6) (ref := "WheatRun$Combine") (C := RX0) (T := TX0) (N := 12) (ci := 1) (index := 131) (ty := .int) hx hb hts hown hK hM iaX0 rfl 9 (by decide) wf_X6_131 (fun _ h => h) tyX0 tyX0_ok nmX0 rfl (by decide +kernel) rfl rfl ha (Nat.le_of_ble_eq_true rfl) hdg kk
theorem fp_X6_144 {v0 v1 v2 v3 v4 v5 v6 v7 v8 v9 : Value} {z : Int32} (hx : p.tables.exec = Jvm.exec) (hb : c.code = cc) (hts : ∀ w ∈ AL, w.before args s = true) (hown : s.vm.findClass RX6 = some m.cls) (hK : Kw G s) (hM : Wd G M s H locs) (ha : M a = some (r, .inr (6, [v0, v1, v2, v3, v4, v5, v6, v7, v8, v9]))) (hdg : decode cc pc = .ok (.putfield 144, 3)) (kk : ∀ (H : Heap) (locs : List Loc), Wd G (hu M a r (.inr (6, [v0, v1, v2, v3, v4, v5, v6, .int z, v8, v9]))) s H locs → W p l e R s m args below meth c H locs cells slots Q (F0 m (pc + 3) ls rest)) : W p l e R s m args below meth c H locs cells slots Q (F0 m pc ls (.int z :: .ref a :: rest)) :=
  g_put (own := RX6) (ref := "WheatRun$Truck") (C := RX5) (T := TX5) (N := 10) (ci := 6) (index := 144) (ty := .int) hx hb hts hown hK hM iaX5 rfl 7 (by decide) wf_X6_144 (fun _ h => h) tyX5 tyX5_ok nmX5 rfl (by decide +kernel) rfl rfl ha (Nat.le_of_ble_eq_true rfl) hdg kk
theorem fp_X6_147 {v0 v1 v2 v3 v4 v5 v6 v7 v8 v9 : Value} {z : Int32} (hx : p.tables.exec = Jvm.exec) (hb : c.code = cc) (hts : ∀ w ∈ AL, w.before args s = true) (hown : s.vm.findClass RX6 = some m.cls) (hK : Kw G s) (hM : Wd G M s H locs) (ha : M a = some (r, .inr (6, [v0, v1, v2, v3, v4, v5, v6, v7, v8, v9]))) (hdg : decode cc pc = .ok (.putfield 147, 3)) (kk : ∀ (H : Heap) (locs : List Loc), Wd G (hu M a r (.inr (6, [v0, v1, v2, v3, v4, v5, v6, v7, .int z, v9]))) s H locs → W p l e R s m args below meth c H locs cells slots Q (F0 m (pc + 3) ls rest)) : W p l e R s m args below meth c H locs cells slots Q (F0 m pc ls (.int z :: .ref a :: rest)) :=
  g_put (own := RX6) (ref := "WheatRun$Truck") (C := RX5) (T := TX5) (N := 10) (ci := 6) (index := 147) (ty := .int) hx hb hts hown hK hM iaX5 rfl 8 (by decide) wf_X6_147 (fun _ h => h) tyX5 tyX5_ok nmX5 rfl (by decide +kernel) rfl rfl ha (Nat.le_of_ble_eq_true rfl) hdg kk
theorem fp_X7_10 {v0 v1 v2 v3 v4 v5 v6 v7 v8 v9 v10 v11 : Value} {q : Nat} (hx : p.tables.exec = Jvm.exec) (hb : c.code = cc) (hts : ∀ w ∈ AL, w.before args s = true) (hown : s.vm.findClass RX7 = some m.cls) (hK : Kw G s) (hM : Wd G M s H locs) (hin : meth.name = "<init>") (ha : M a = some (r, .inr (8, [v0, v1, v2, v3, v4, v5, v6, v7, v8, v9, v10, v11]))) (hdg : decode cc pc = .ok (.putfield 10, 3)) (kk : ∀ (H : Heap) (locs : List Loc), Wd G (hu M a r (.inr (8, [.ref q, v1, v2, v3, v4, v5, v6, v7, v8, v9, v10, v11]))) s H locs → W p l e R s m args below meth c H locs cells slots Q (F0 m (pc + 3) ls rest)) : W p l e R s m args below meth c H locs cells slots Q (F0 m pc ls (.ref q :: .ref a :: rest)) :=
  g_putF (own := RX7) (ref := "WheatRunLaw$Told") (C := RX7) (T := TX7) (N := 12) (ci := 8) (index := 10) (ty := .object "WheatRun") hx hb hts hown hK hM iaX7 rfl 0 (by decide) wf_X7_10 (fun _ h => h) tyX7 tyX7_ok nmX7 rfl hin rfl (by decide +kernel) rfl rfl ha (Nat.le_of_ble_eq_true rfl) hdg kk
theorem fp_X7_18 {v0 v1 v2 v3 v4 v5 v6 v7 v8 v9 v10 v11 : Value} {q : Nat} (hx : p.tables.exec = Jvm.exec) (hb : c.code = cc) (hts : ∀ w ∈ AL, w.before args s = true) (hown : s.vm.findClass RX7 = some m.cls) (hK : Kw G s) (hM : Wd G M s H locs) (ha : M a = some (r, .inr (8, [v0, v1, v2, v3, v4, v5, v6, v7, v8, v9, v10, v11]))) (hdg : decode cc pc = .ok (.putfield 18, 3)) (kk : ∀ (H : Heap) (locs : List Loc), Wd G (hu M a r (.inr (8, [v0, v1, v2, .ref q, v4, v5, v6, v7, v8, v9, v10, v11]))) s H locs → W p l e R s m args below meth c H locs cells slots Q (F0 m (pc + 3) ls rest)) : W p l e R s m args below meth c H locs cells slots Q (F0 m pc ls (.ref q :: .ref a :: rest)) :=
  g_put (own := RX7) (ref := "WheatRunLaw$Told") (C := RX7) (T := TX7) (N := 12) (ci := 8) (index := 18) (ty := .array (.array .int)) hx hb hts hown hK hM iaX7 rfl 3 (by decide) wf_X7_18 (fun _ h => h) tyX7 tyX7_ok nmX7 rfl (by decide +kernel) rfl rfl ha (Nat.le_of_ble_eq_true rfl) hdg kk
theorem fp_X7_22 {v0 v1 v2 v3 v4 v5 v6 v7 v8 v9 v10 v11 : Value} {q : Nat} (hx : p.tables.exec = Jvm.exec) (hb : c.code = cc) (hts : ∀ w ∈ AL, w.before args s = true) (hown : s.vm.findClass RX7 = some m.cls) (hK : Kw G s) (hM : Wd G M s H locs) (ha : M a = some (r, .inr (8, [v0, v1, v2, v3, v4, v5, v6, v7, v8, v9, v10, v11]))) (hdg : decode cc pc = .ok (.putfield 22, 3)) (kk : ∀ (H : Heap) (locs : List Loc), Wd G (hu M a r (.inr (8, [v0, v1, v2, v3, .ref q, v5, v6, v7, v8, v9, v10, v11]))) s H locs → W p l e R s m args below meth c H locs cells slots Q (F0 m (pc + 3) ls rest)) : W p l e R s m args below meth c H locs cells slots Q (F0 m pc ls (.ref q :: .ref a :: rest)) :=
  g_put (own := RX7) (ref := "WheatRunLaw$Told") (C := RX7) (T := TX7) (N := 12) (ci := 8) (index := 22) (ty := .array (.array .int)) hx hb hts hown hK hM iaX7 rfl 4 (by decide) wf_X7_22 (fun _ h => h) tyX7 tyX7_ok nmX7 rfl (by decide +kernel) rfl rfl ha (Nat.le_of_ble_eq_true rfl) hdg kk
theorem fp_X7_25 {v0 v1 v2 v3 v4 v5 v6 v7 v8 v9 v10 v11 : Value} {q : Nat} (hx : p.tables.exec = Jvm.exec) (hb : c.code = cc) (hts : ∀ w ∈ AL, w.before args s = true) (hown : s.vm.findClass RX7 = some m.cls) (hK : Kw G s) (hM : Wd G M s H locs) (ha : M a = some (r, .inr (8, [v0, v1, v2, v3, v4, v5, v6, v7, v8, v9, v10, v11]))) (hdg : decode cc pc = .ok (.putfield 25, 3)) (kk : ∀ (H : Heap) (locs : List Loc), Wd G (hu M a r (.inr (8, [v0, v1, v2, v3, v4, .ref q, v6, v7, v8, v9, v10, v11]))) s H locs → W p l e R s m args below meth c H locs cells slots Q (F0 m (pc + 3) ls rest)) : W p l e R s m args below meth c H locs cells slots Q (F0 m pc ls (.ref q :: .ref a :: rest)) :=
  g_put (own := RX7) (ref := "WheatRunLaw$Told") (C := RX7) (T := TX7) (N := 12) (ci := 8) (index := 25) (ty := .array (.array .int)) hx hb hts hown hK hM iaX7 rfl 5 (by decide) wf_X7_25 (fun _ h => h) tyX7 tyX7_ok nmX7 rfl (by decide +kernel) rfl rfl ha (Nat.le_of_ble_eq_true rfl) hdg kk
theorem fp_X7_28 {v0 v1 v2 v3 v4 v5 v6 v7 v8 v9 v10 v11 : Value} {q : Nat} (hx : p.tables.exec = Jvm.exec) (hb : c.code = cc) (hts : ∀ w ∈ AL, w.before args s = true) (hown : s.vm.findClass RX7 = some m.cls) (hK : Kw G s) (hM : Wd G M s H locs) (ha : M a = some (r, .inr (8, [v0, v1, v2, v3, v4, v5, v6, v7, v8, v9, v10, v11]))) (hdg : decode cc pc = .ok (.putfield 28, 3)) (kk : ∀ (H : Heap) (locs : List Loc), Wd G (hu M a r (.inr (8, [v0, v1, v2, v3, v4, v5, .ref q, v7, v8, v9, v10, v11]))) s H locs → W p l e R s m args below meth c H locs cells slots Q (F0 m (pc + 3) ls rest)) : W p l e R s m args below meth c H locs cells slots Q (F0 m pc ls (.ref q :: .ref a :: rest)) :=
  g_put (own := RX7) (ref := "WheatRunLaw$Told") (C := RX7) (T := TX7) (N := 12) (ci := 8) (index := 28) (ty := .array (.array .int)) hx hb hts hown hK hM iaX7 rfl 6 (by decide) wf_X7_28 (fun _ h => h) tyX7 tyX7_ok nmX7 rfl (by decide +kernel) rfl rfl ha (Nat.le_of_ble_eq_true rfl) hdg kk
theorem fp_X7_31 {v0 v1 v2 v3 v4 v5 v6 v7 v8 v9 v10 v11 : Value} {q : Nat} (hx : p.tables.exec = Jvm.exec) (hb : c.code = cc) (hts : ∀ w ∈ AL, w.before args s = true) (hown : s.vm.findClass RX7 = some m.cls) (hK : Kw G s) (hM : Wd G M s H locs) (ha : M a = some (r, .inr (8, [v0, v1, v2, v3, v4, v5, v6, v7, v8, v9, v10, v11]))) (hdg : decode cc pc = .ok (.putfield 31, 3)) (kk : ∀ (H : Heap) (locs : List Loc), Wd G (hu M a r (.inr (8, [v0, v1, v2, v3, v4, v5, v6, .ref q, v8, v9, v10, v11]))) s H locs → W p l e R s m args below meth c H locs cells slots Q (F0 m (pc + 3) ls rest)) : W p l e R s m args below meth c H locs cells slots Q (F0 m pc ls (.ref q :: .ref a :: rest)) :=
  g_put (own := RX7) (ref := "WheatRunLaw$Told") (C := RX7) (T := TX7) (N := 12) (ci := 8) (index := 31) (ty := .array (.array .int)) hx hb hts hown hK hM iaX7 rfl 7 (by decide) wf_X7_31 (fun _ h => h) tyX7 tyX7_ok nmX7 rfl (by decide +kernel) rfl rfl ha (Nat.le_of_ble_eq_true rfl) hdg kk
theorem fp_X7_34 {v0 v1 v2 v3 v4 v5 v6 v7 v8 v9 v10 v11 : Value} {q : Nat} (hx : p.tables.exec = Jvm.exec) (hb : c.code = cc) (hts : ∀ w ∈ AL, w.before args s = true) (hown : s.vm.findClass RX7 = some m.cls) (hK : Kw G s) (hM : Wd G M s H locs) (hin : meth.name = "<init>") (ha : M a = some (r, .inr (8, [v0, v1, v2, v3, v4, v5, v6, v7, v8, v9, v10, v11]))) (hdg : decode cc pc = .ok (.putfield 34, 3)) (kk : ∀ (H : Heap) (locs : List Loc), Wd G (hu M a r (.inr (8, [v0, v1, v2, v3, v4, v5, v6, v7, .ref q, v9, v10, v11]))) s H locs → W p l e R s m args below meth c H locs cells slots Q (F0 m (pc + 3) ls rest)) : W p l e R s m args below meth c H locs cells slots Q (F0 m pc ls (.ref q :: .ref a :: rest)) :=
  g_putF (own := RX7) (ref := "WheatRunLaw$Told") (C := RX7) (T := TX7) (N := 12) (ci := 8) (index := 34) (ty := .array .int) hx hb hts hown hK hM iaX7 rfl 8 (by decide) wf_X7_34 (fun _ h => h) tyX7 tyX7_ok nmX7 rfl hin rfl (by decide +kernel) rfl rfl ha (Nat.le_of_ble_eq_true rfl) hdg kk
theorem fp_X7_37 {v0 v1 v2 v3 v4 v5 v6 v7 v8 v9 v10 v11 : Value} {z : Int32} (hx : p.tables.exec = Jvm.exec) (hb : c.code = cc) (hts : ∀ w ∈ AL, w.before args s = true) (hown : s.vm.findClass RX7 = some m.cls) (hK : Kw G s) (hM : Wd G M s H locs) (ha : M a = some (r, .inr (8, [v0, v1, v2, v3, v4, v5, v6, v7, v8, v9, v10, v11]))) (hdg : decode cc pc = .ok (.putfield 37, 3)) (kk : ∀ (H : Heap) (locs : List Loc), Wd G (hu M a r (.inr (8, [v0, v1, v2, v3, v4, v5, v6, v7, v8, v9, .int z, v11]))) s H locs → W p l e R s m args below meth c H locs cells slots Q (F0 m (pc + 3) ls rest)) : W p l e R s m args below meth c H locs cells slots Q (F0 m pc ls (.int z :: .ref a :: rest)) :=
  g_put (own := RX7) (ref := "WheatRunLaw$Told") (C := RX7) (T := TX7) (N := 12) (ci := 8) (index := 37) (ty := .int) hx hb hts hown hK hM iaX7 rfl 10 (by decide) wf_X7_37 (fun _ h => h) tyX7 tyX7_ok nmX7 rfl (by decide +kernel) rfl rfl ha (Nat.le_of_ble_eq_true rfl) hdg kk
theorem fp_X7_41 {v0 v1 v2 v3 v4 v5 v6 v7 v8 v9 v10 v11 : Value} {z : Int32} (hx : p.tables.exec = Jvm.exec) (hb : c.code = cc) (hts : ∀ w ∈ AL, w.before args s = true) (hown : s.vm.findClass RX7 = some m.cls) (hK : Kw G s) (hM : Wd G M s H locs) (ha : M a = some (r, .inr (8, [v0, v1, v2, v3, v4, v5, v6, v7, v8, v9, v10, v11]))) (hdg : decode cc pc = .ok (.putfield 41, 3)) (kk : ∀ (H : Heap) (locs : List Loc), Wd G (hu M a r (.inr (8, [v0, v1, v2, v3, v4, v5, v6, v7, v8, v9, v10, .int z]))) s H locs → W p l e R s m args below meth c H locs cells slots Q (F0 m (pc + 3) ls rest)) : W p l e R s m args below meth c H locs cells slots Q (F0 m pc ls (.int z :: .ref a :: rest)) :=
  g_put (own := RX7) (ref := "WheatRunLaw$Told") (C := RX7) (T := TX7) (N := 12) (ci := 8) (index := 41) (ty := .int) hx hb hts hown hK hM iaX7 rfl 11 (by decide) wf_X7_41 (fun _ h => h) tyX7 tyX7_ok nmX7 rfl (by decide +kernel) rfl rfl ha (Nat.le_of_ble_eq_true rfl) hdg kk
theorem fp_X7_44 {v0 v1 v2 v3 v4 v5 v6 v7 v8 v9 v10 v11 : Value} {q : Nat} (hx : p.tables.exec = Jvm.exec) (hb : c.code = cc) (hts : ∀ w ∈ AL, w.before args s = true) (hown : s.vm.findClass RX7 = some m.cls) (hK : Kw G s) (hM : Wd G M s H locs) (hin : meth.name = "<init>") (ha : M a = some (r, .inr (8, [v0, v1, v2, v3, v4, v5, v6, v7, v8, v9, v10, v11]))) (hdg : decode cc pc = .ok (.putfield 44, 3)) (kk : ∀ (H : Heap) (locs : List Loc), Wd G (hu M a r (.inr (8, [v0, .ref q, v2, v3, v4, v5, v6, v7, v8, v9, v10, v11]))) s H locs → W p l e R s m args below meth c H locs cells slots Q (F0 m (pc + 3) ls rest)) : W p l e R s m args below meth c H locs cells slots Q (F0 m pc ls (.ref q :: .ref a :: rest)) :=
  g_putF (own := RX7) (ref := "WheatRunLaw$Told") (C := RX7) (T := TX7) (N := 12) (ci := 8) (index := 44) (ty := .array .int) hx hb hts hown hK hM iaX7 rfl 1 (by decide) wf_X7_44 (fun _ h => h) tyX7 tyX7_ok nmX7 rfl hin rfl (by decide +kernel) rfl rfl ha (Nat.le_of_ble_eq_true rfl) hdg kk
theorem fp_X7_47 {v0 v1 v2 v3 v4 v5 v6 v7 v8 v9 v10 v11 : Value} {z : Int32} (hx : p.tables.exec = Jvm.exec) (hb : c.code = cc) (hts : ∀ w ∈ AL, w.before args s = true) (hown : s.vm.findClass RX7 = some m.cls) (hK : Kw G s) (hM : Wd G M s H locs) (ha : M a = some (r, .inr (8, [v0, v1, v2, v3, v4, v5, v6, v7, v8, v9, v10, v11]))) (hdg : decode cc pc = .ok (.putfield 47, 3)) (kk : ∀ (H : Heap) (locs : List Loc), Wd G (hu M a r (.inr (8, [v0, v1, .int z, v3, v4, v5, v6, v7, v8, v9, v10, v11]))) s H locs → W p l e R s m args below meth c H locs cells slots Q (F0 m (pc + 3) ls rest)) : W p l e R s m args below meth c H locs cells slots Q (F0 m pc ls (.int z :: .ref a :: rest)) :=
  g_put (own := RX7) (ref := "WheatRunLaw$Told") (C := RX7) (T := TX7) (N := 12) (ci := 8) (index := 47) (ty := .int) hx hb hts hown hK hM iaX7 rfl 2 (by decide) wf_X7_47 (fun _ h => h) tyX7 tyX7_ok nmX7 rfl (by decide +kernel) rfl rfl ha (Nat.le_of_ble_eq_true rfl) hdg kk
theorem ia4_0 {v0 v1 v2 v3 : Int32} (hx : p.tables.exec = Jvm.exec) (hb : c.code = cc) (hK : Kw G s) (hM : Wd G M s H locs) (ha : M a = some (r, .inl (G.2.1 0, 4, .inl (rw4 v0 v1 v2 v3)))) (hdg : decode cc pc = .ok (.iaload, 1)) (kk : W p l e R s m args below meth c H locs cells slots Q (F0 m (pc + 1) ls (.int v0 :: rest))) : W p l e R s m args below meth c H locs cells slots Q (F0 m pc ls (.int 0 :: .ref a :: rest)) :=
  g_iald hx hb hK hM ha (i := 0) (by unfold vp_in; decide) hdg (by rw [show rw4 v0 v1 v2 v3 ((0 : Int32).toNatClampNeg) = v0 from congrArg (rw4 v0 v1 v2 v3) (show (0 : Int32).toNatClampNeg = 0 by decide)]; exact kk)
theorem is4_0 {v0 v1 v2 v3 x : Int32} (hx : p.tables.exec = Jvm.exec) (hb : c.code = cc) (hK : Kw G s) (hM : Wd G M s H locs) (ha : M a = some (r, .inl (G.2.1 0, 4, .inl (rw4 v0 v1 v2 v3)))) (hdg : decode cc pc = .ok (.iastore, 1)) (kk : ∀ (H : Heap) (locs : List Loc), Wd G (hu M a r (.inl (G.2.1 0, 4, .inl (rw4 x v1 v2 v3)))) s H locs → W p l e R s m args below meth c H locs cells slots Q (F0 m (pc + 1) ls rest)) : W p l e R s m args below meth c H locs cells slots Q (F0 m pc ls (.int x :: .int 0 :: .ref a :: rest)) :=
  g_iast hx hb hK hM ha (i := 0) (by unfold vp_in; decide) hdg (fun H locs hM => kk H locs (hM.eq (by rw [show (0 : Int32).toNatClampNeg = 0 by decide, ru4_0])))
theorem ia4_1 {v0 v1 v2 v3 : Int32} (hx : p.tables.exec = Jvm.exec) (hb : c.code = cc) (hK : Kw G s) (hM : Wd G M s H locs) (ha : M a = some (r, .inl (G.2.1 0, 4, .inl (rw4 v0 v1 v2 v3)))) (hdg : decode cc pc = .ok (.iaload, 1)) (kk : W p l e R s m args below meth c H locs cells slots Q (F0 m (pc + 1) ls (.int v1 :: rest))) : W p l e R s m args below meth c H locs cells slots Q (F0 m pc ls (.int 1 :: .ref a :: rest)) :=
  g_iald hx hb hK hM ha (i := 1) (by unfold vp_in; decide) hdg (by rw [show rw4 v0 v1 v2 v3 ((1 : Int32).toNatClampNeg) = v1 from congrArg (rw4 v0 v1 v2 v3) (show (1 : Int32).toNatClampNeg = 1 by decide)]; exact kk)
theorem is4_1 {v0 v1 v2 v3 x : Int32} (hx : p.tables.exec = Jvm.exec) (hb : c.code = cc) (hK : Kw G s) (hM : Wd G M s H locs) (ha : M a = some (r, .inl (G.2.1 0, 4, .inl (rw4 v0 v1 v2 v3)))) (hdg : decode cc pc = .ok (.iastore, 1)) (kk : ∀ (H : Heap) (locs : List Loc), Wd G (hu M a r (.inl (G.2.1 0, 4, .inl (rw4 v0 x v2 v3)))) s H locs → W p l e R s m args below meth c H locs cells slots Q (F0 m (pc + 1) ls rest)) : W p l e R s m args below meth c H locs cells slots Q (F0 m pc ls (.int x :: .int 1 :: .ref a :: rest)) :=
  g_iast hx hb hK hM ha (i := 1) (by unfold vp_in; decide) hdg (fun H locs hM => kk H locs (hM.eq (by rw [show (1 : Int32).toNatClampNeg = 1 by decide, ru4_1])))
theorem ia4_2 {v0 v1 v2 v3 : Int32} (hx : p.tables.exec = Jvm.exec) (hb : c.code = cc) (hK : Kw G s) (hM : Wd G M s H locs) (ha : M a = some (r, .inl (G.2.1 0, 4, .inl (rw4 v0 v1 v2 v3)))) (hdg : decode cc pc = .ok (.iaload, 1)) (kk : W p l e R s m args below meth c H locs cells slots Q (F0 m (pc + 1) ls (.int v2 :: rest))) : W p l e R s m args below meth c H locs cells slots Q (F0 m pc ls (.int 2 :: .ref a :: rest)) :=
  g_iald hx hb hK hM ha (i := 2) (by unfold vp_in; decide) hdg (by rw [show rw4 v0 v1 v2 v3 ((2 : Int32).toNatClampNeg) = v2 from congrArg (rw4 v0 v1 v2 v3) (show (2 : Int32).toNatClampNeg = 2 by decide)]; exact kk)
theorem is4_2 {v0 v1 v2 v3 x : Int32} (hx : p.tables.exec = Jvm.exec) (hb : c.code = cc) (hK : Kw G s) (hM : Wd G M s H locs) (ha : M a = some (r, .inl (G.2.1 0, 4, .inl (rw4 v0 v1 v2 v3)))) (hdg : decode cc pc = .ok (.iastore, 1)) (kk : ∀ (H : Heap) (locs : List Loc), Wd G (hu M a r (.inl (G.2.1 0, 4, .inl (rw4 v0 v1 x v3)))) s H locs → W p l e R s m args below meth c H locs cells slots Q (F0 m (pc + 1) ls rest)) : W p l e R s m args below meth c H locs cells slots Q (F0 m pc ls (.int x :: .int 2 :: .ref a :: rest)) :=
  g_iast hx hb hK hM ha (i := 2) (by unfold vp_in; decide) hdg (fun H locs hM => kk H locs (hM.eq (by rw [show (2 : Int32).toNatClampNeg = 2 by decide, ru4_2])))
theorem ia4_3 {v0 v1 v2 v3 : Int32} (hx : p.tables.exec = Jvm.exec) (hb : c.code = cc) (hK : Kw G s) (hM : Wd G M s H locs) (ha : M a = some (r, .inl (G.2.1 0, 4, .inl (rw4 v0 v1 v2 v3)))) (hdg : decode cc pc = .ok (.iaload, 1)) (kk : W p l e R s m args below meth c H locs cells slots Q (F0 m (pc + 1) ls (.int v3 :: rest))) : W p l e R s m args below meth c H locs cells slots Q (F0 m pc ls (.int 3 :: .ref a :: rest)) :=
  g_iald hx hb hK hM ha (i := 3) (by unfold vp_in; decide) hdg (by rw [show rw4 v0 v1 v2 v3 ((3 : Int32).toNatClampNeg) = v3 from congrArg (rw4 v0 v1 v2 v3) (show (3 : Int32).toNatClampNeg = 3 by decide)]; exact kk)
theorem is4_3 {v0 v1 v2 v3 x : Int32} (hx : p.tables.exec = Jvm.exec) (hb : c.code = cc) (hK : Kw G s) (hM : Wd G M s H locs) (ha : M a = some (r, .inl (G.2.1 0, 4, .inl (rw4 v0 v1 v2 v3)))) (hdg : decode cc pc = .ok (.iastore, 1)) (kk : ∀ (H : Heap) (locs : List Loc), Wd G (hu M a r (.inl (G.2.1 0, 4, .inl (rw4 v0 v1 v2 x)))) s H locs → W p l e R s m args below meth c H locs cells slots Q (F0 m (pc + 1) ls rest)) : W p l e R s m args below meth c H locs cells slots Q (F0 m pc ls (.int x :: .int 3 :: .ref a :: rest)) :=
  g_iast hx hb hK hM ha (i := 3) (by unfold vp_in; decide) hdg (fun H locs hM => kk H locs (hM.eq (by rw [show (3 : Int32).toNatClampNeg = 3 by decide, ru4_3])))
theorem ia6_0 {v0 v1 v2 v3 v4 v5 : Int32} (hx : p.tables.exec = Jvm.exec) (hb : c.code = cc) (hK : Kw G s) (hM : Wd G M s H locs) (ha : M a = some (r, .inl (G.2.1 0, 6, .inl (rw6 v0 v1 v2 v3 v4 v5)))) (hdg : decode cc pc = .ok (.iaload, 1)) (kk : W p l e R s m args below meth c H locs cells slots Q (F0 m (pc + 1) ls (.int v0 :: rest))) : W p l e R s m args below meth c H locs cells slots Q (F0 m pc ls (.int 0 :: .ref a :: rest)) :=
  g_iald hx hb hK hM ha (i := 0) (by unfold vp_in; decide) hdg (by rw [show rw6 v0 v1 v2 v3 v4 v5 ((0 : Int32).toNatClampNeg) = v0 from congrArg (rw6 v0 v1 v2 v3 v4 v5) (show (0 : Int32).toNatClampNeg = 0 by decide)]; exact kk)
theorem is6_0 {v0 v1 v2 v3 v4 v5 x : Int32} (hx : p.tables.exec = Jvm.exec) (hb : c.code = cc) (hK : Kw G s) (hM : Wd G M s H locs) (ha : M a = some (r, .inl (G.2.1 0, 6, .inl (rw6 v0 v1 v2 v3 v4 v5)))) (hdg : decode cc pc = .ok (.iastore, 1)) (kk : ∀ (H : Heap) (locs : List Loc), Wd G (hu M a r (.inl (G.2.1 0, 6, .inl (rw6 x v1 v2 v3 v4 v5)))) s H locs → W p l e R s m args below meth c H locs cells slots Q (F0 m (pc + 1) ls rest)) : W p l e R s m args below meth c H locs cells slots Q (F0 m pc ls (.int x :: .int 0 :: .ref a :: rest)) :=
  g_iast hx hb hK hM ha (i := 0) (by unfold vp_in; decide) hdg (fun H locs hM => kk H locs (hM.eq (by rw [show (0 : Int32).toNatClampNeg = 0 by decide, ru6_0])))
theorem ia6_1 {v0 v1 v2 v3 v4 v5 : Int32} (hx : p.tables.exec = Jvm.exec) (hb : c.code = cc) (hK : Kw G s) (hM : Wd G M s H locs) (ha : M a = some (r, .inl (G.2.1 0, 6, .inl (rw6 v0 v1 v2 v3 v4 v5)))) (hdg : decode cc pc = .ok (.iaload, 1)) (kk : W p l e R s m args below meth c H locs cells slots Q (F0 m (pc + 1) ls (.int v1 :: rest))) : W p l e R s m args below meth c H locs cells slots Q (F0 m pc ls (.int 1 :: .ref a :: rest)) :=
  g_iald hx hb hK hM ha (i := 1) (by unfold vp_in; decide) hdg (by rw [show rw6 v0 v1 v2 v3 v4 v5 ((1 : Int32).toNatClampNeg) = v1 from congrArg (rw6 v0 v1 v2 v3 v4 v5) (show (1 : Int32).toNatClampNeg = 1 by decide)]; exact kk)
theorem is6_1 {v0 v1 v2 v3 v4 v5 x : Int32} (hx : p.tables.exec = Jvm.exec) (hb : c.code = cc) (hK : Kw G s) (hM : Wd G M s H locs) (ha : M a = some (r, .inl (G.2.1 0, 6, .inl (rw6 v0 v1 v2 v3 v4 v5)))) (hdg : decode cc pc = .ok (.iastore, 1)) (kk : ∀ (H : Heap) (locs : List Loc), Wd G (hu M a r (.inl (G.2.1 0, 6, .inl (rw6 v0 x v2 v3 v4 v5)))) s H locs → W p l e R s m args below meth c H locs cells slots Q (F0 m (pc + 1) ls rest)) : W p l e R s m args below meth c H locs cells slots Q (F0 m pc ls (.int x :: .int 1 :: .ref a :: rest)) :=
  g_iast hx hb hK hM ha (i := 1) (by unfold vp_in; decide) hdg (fun H locs hM => kk H locs (hM.eq (by rw [show (1 : Int32).toNatClampNeg = 1 by decide, ru6_1])))
theorem ia6_2 {v0 v1 v2 v3 v4 v5 : Int32} (hx : p.tables.exec = Jvm.exec) (hb : c.code = cc) (hK : Kw G s) (hM : Wd G M s H locs) (ha : M a = some (r, .inl (G.2.1 0, 6, .inl (rw6 v0 v1 v2 v3 v4 v5)))) (hdg : decode cc pc = .ok (.iaload, 1)) (kk : W p l e R s m args below meth c H locs cells slots Q (F0 m (pc + 1) ls (.int v2 :: rest))) : W p l e R s m args below meth c H locs cells slots Q (F0 m pc ls (.int 2 :: .ref a :: rest)) :=
  g_iald hx hb hK hM ha (i := 2) (by unfold vp_in; decide) hdg (by rw [show rw6 v0 v1 v2 v3 v4 v5 ((2 : Int32).toNatClampNeg) = v2 from congrArg (rw6 v0 v1 v2 v3 v4 v5) (show (2 : Int32).toNatClampNeg = 2 by decide)]; exact kk)
theorem is6_2 {v0 v1 v2 v3 v4 v5 x : Int32} (hx : p.tables.exec = Jvm.exec) (hb : c.code = cc) (hK : Kw G s) (hM : Wd G M s H locs) (ha : M a = some (r, .inl (G.2.1 0, 6, .inl (rw6 v0 v1 v2 v3 v4 v5)))) (hdg : decode cc pc = .ok (.iastore, 1)) (kk : ∀ (H : Heap) (locs : List Loc), Wd G (hu M a r (.inl (G.2.1 0, 6, .inl (rw6 v0 v1 x v3 v4 v5)))) s H locs → W p l e R s m args below meth c H locs cells slots Q (F0 m (pc + 1) ls rest)) : W p l e R s m args below meth c H locs cells slots Q (F0 m pc ls (.int x :: .int 2 :: .ref a :: rest)) :=
  g_iast hx hb hK hM ha (i := 2) (by unfold vp_in; decide) hdg (fun H locs hM => kk H locs (hM.eq (by rw [show (2 : Int32).toNatClampNeg = 2 by decide, ru6_2])))
theorem ia6_3 {v0 v1 v2 v3 v4 v5 : Int32} (hx : p.tables.exec = Jvm.exec) (hb : c.code = cc) (hK : Kw G s) (hM : Wd G M s H locs) (ha : M a = some (r, .inl (G.2.1 0, 6, .inl (rw6 v0 v1 v2 v3 v4 v5)))) (hdg : decode cc pc = .ok (.iaload, 1)) (kk : W p l e R s m args below meth c H locs cells slots Q (F0 m (pc + 1) ls (.int v3 :: rest))) : W p l e R s m args below meth c H locs cells slots Q (F0 m pc ls (.int 3 :: .ref a :: rest)) :=
  g_iald hx hb hK hM ha (i := 3) (by unfold vp_in; decide) hdg (by rw [show rw6 v0 v1 v2 v3 v4 v5 ((3 : Int32).toNatClampNeg) = v3 from congrArg (rw6 v0 v1 v2 v3 v4 v5) (show (3 : Int32).toNatClampNeg = 3 by decide)]; exact kk)
theorem is6_3 {v0 v1 v2 v3 v4 v5 x : Int32} (hx : p.tables.exec = Jvm.exec) (hb : c.code = cc) (hK : Kw G s) (hM : Wd G M s H locs) (ha : M a = some (r, .inl (G.2.1 0, 6, .inl (rw6 v0 v1 v2 v3 v4 v5)))) (hdg : decode cc pc = .ok (.iastore, 1)) (kk : ∀ (H : Heap) (locs : List Loc), Wd G (hu M a r (.inl (G.2.1 0, 6, .inl (rw6 v0 v1 v2 x v4 v5)))) s H locs → W p l e R s m args below meth c H locs cells slots Q (F0 m (pc + 1) ls rest)) : W p l e R s m args below meth c H locs cells slots Q (F0 m pc ls (.int x :: .int 3 :: .ref a :: rest)) :=
  g_iast hx hb hK hM ha (i := 3) (by unfold vp_in; decide) hdg (fun H locs hM => kk H locs (hM.eq (by rw [show (3 : Int32).toNatClampNeg = 3 by decide, ru6_3])))
theorem ia6_4 {v0 v1 v2 v3 v4 v5 : Int32} (hx : p.tables.exec = Jvm.exec) (hb : c.code = cc) (hK : Kw G s) (hM : Wd G M s H locs) (ha : M a = some (r, .inl (G.2.1 0, 6, .inl (rw6 v0 v1 v2 v3 v4 v5)))) (hdg : decode cc pc = .ok (.iaload, 1)) (kk : W p l e R s m args below meth c H locs cells slots Q (F0 m (pc + 1) ls (.int v4 :: rest))) : W p l e R s m args below meth c H locs cells slots Q (F0 m pc ls (.int 4 :: .ref a :: rest)) :=
  g_iald hx hb hK hM ha (i := 4) (by unfold vp_in; decide) hdg (by rw [show rw6 v0 v1 v2 v3 v4 v5 ((4 : Int32).toNatClampNeg) = v4 from congrArg (rw6 v0 v1 v2 v3 v4 v5) (show (4 : Int32).toNatClampNeg = 4 by decide)]; exact kk)
theorem is6_4 {v0 v1 v2 v3 v4 v5 x : Int32} (hx : p.tables.exec = Jvm.exec) (hb : c.code = cc) (hK : Kw G s) (hM : Wd G M s H locs) (ha : M a = some (r, .inl (G.2.1 0, 6, .inl (rw6 v0 v1 v2 v3 v4 v5)))) (hdg : decode cc pc = .ok (.iastore, 1)) (kk : ∀ (H : Heap) (locs : List Loc), Wd G (hu M a r (.inl (G.2.1 0, 6, .inl (rw6 v0 v1 v2 v3 x v5)))) s H locs → W p l e R s m args below meth c H locs cells slots Q (F0 m (pc + 1) ls rest)) : W p l e R s m args below meth c H locs cells slots Q (F0 m pc ls (.int x :: .int 4 :: .ref a :: rest)) :=
  g_iast hx hb hK hM ha (i := 4) (by unfold vp_in; decide) hdg (fun H locs hM => kk H locs (hM.eq (by rw [show (4 : Int32).toNatClampNeg = 4 by decide, ru6_4])))
theorem ia6_5 {v0 v1 v2 v3 v4 v5 : Int32} (hx : p.tables.exec = Jvm.exec) (hb : c.code = cc) (hK : Kw G s) (hM : Wd G M s H locs) (ha : M a = some (r, .inl (G.2.1 0, 6, .inl (rw6 v0 v1 v2 v3 v4 v5)))) (hdg : decode cc pc = .ok (.iaload, 1)) (kk : W p l e R s m args below meth c H locs cells slots Q (F0 m (pc + 1) ls (.int v5 :: rest))) : W p l e R s m args below meth c H locs cells slots Q (F0 m pc ls (.int 5 :: .ref a :: rest)) :=
  g_iald hx hb hK hM ha (i := 5) (by unfold vp_in; decide) hdg (by rw [show rw6 v0 v1 v2 v3 v4 v5 ((5 : Int32).toNatClampNeg) = v5 from congrArg (rw6 v0 v1 v2 v3 v4 v5) (show (5 : Int32).toNatClampNeg = 5 by decide)]; exact kk)
theorem is6_5 {v0 v1 v2 v3 v4 v5 x : Int32} (hx : p.tables.exec = Jvm.exec) (hb : c.code = cc) (hK : Kw G s) (hM : Wd G M s H locs) (ha : M a = some (r, .inl (G.2.1 0, 6, .inl (rw6 v0 v1 v2 v3 v4 v5)))) (hdg : decode cc pc = .ok (.iastore, 1)) (kk : ∀ (H : Heap) (locs : List Loc), Wd G (hu M a r (.inl (G.2.1 0, 6, .inl (rw6 v0 v1 v2 v3 v4 x)))) s H locs → W p l e R s m args below meth c H locs cells slots Q (F0 m (pc + 1) ls rest)) : W p l e R s m args below meth c H locs cells slots Q (F0 m pc ls (.int x :: .int 5 :: .ref a :: rest)) :=
  g_iast hx hb hK hM ha (i := 5) (by unfold vp_in; decide) hdg (fun H locs hM => kk H locs (hM.eq (by rw [show (5 : Int32).toNatClampNeg = 5 by decide, ru6_5])))
theorem ia7_0 {v0 v1 v2 v3 v4 v5 v6 : Int32} (hx : p.tables.exec = Jvm.exec) (hb : c.code = cc) (hK : Kw G s) (hM : Wd G M s H locs) (ha : M a = some (r, .inl (G.2.1 0, 7, .inl (rw7 v0 v1 v2 v3 v4 v5 v6)))) (hdg : decode cc pc = .ok (.iaload, 1)) (kk : W p l e R s m args below meth c H locs cells slots Q (F0 m (pc + 1) ls (.int v0 :: rest))) : W p l e R s m args below meth c H locs cells slots Q (F0 m pc ls (.int 0 :: .ref a :: rest)) :=
  g_iald hx hb hK hM ha (i := 0) (by unfold vp_in; decide) hdg (by rw [show rw7 v0 v1 v2 v3 v4 v5 v6 ((0 : Int32).toNatClampNeg) = v0 from congrArg (rw7 v0 v1 v2 v3 v4 v5 v6) (show (0 : Int32).toNatClampNeg = 0 by decide)]; exact kk)
theorem is7_0 {v0 v1 v2 v3 v4 v5 v6 x : Int32} (hx : p.tables.exec = Jvm.exec) (hb : c.code = cc) (hK : Kw G s) (hM : Wd G M s H locs) (ha : M a = some (r, .inl (G.2.1 0, 7, .inl (rw7 v0 v1 v2 v3 v4 v5 v6)))) (hdg : decode cc pc = .ok (.iastore, 1)) (kk : ∀ (H : Heap) (locs : List Loc), Wd G (hu M a r (.inl (G.2.1 0, 7, .inl (rw7 x v1 v2 v3 v4 v5 v6)))) s H locs → W p l e R s m args below meth c H locs cells slots Q (F0 m (pc + 1) ls rest)) : W p l e R s m args below meth c H locs cells slots Q (F0 m pc ls (.int x :: .int 0 :: .ref a :: rest)) :=
  g_iast hx hb hK hM ha (i := 0) (by unfold vp_in; decide) hdg (fun H locs hM => kk H locs (hM.eq (by rw [show (0 : Int32).toNatClampNeg = 0 by decide, ru7_0])))
theorem ia7_1 {v0 v1 v2 v3 v4 v5 v6 : Int32} (hx : p.tables.exec = Jvm.exec) (hb : c.code = cc) (hK : Kw G s) (hM : Wd G M s H locs) (ha : M a = some (r, .inl (G.2.1 0, 7, .inl (rw7 v0 v1 v2 v3 v4 v5 v6)))) (hdg : decode cc pc = .ok (.iaload, 1)) (kk : W p l e R s m args below meth c H locs cells slots Q (F0 m (pc + 1) ls (.int v1 :: rest))) : W p l e R s m args below meth c H locs cells slots Q (F0 m pc ls (.int 1 :: .ref a :: rest)) :=
  g_iald hx hb hK hM ha (i := 1) (by unfold vp_in; decide) hdg (by rw [show rw7 v0 v1 v2 v3 v4 v5 v6 ((1 : Int32).toNatClampNeg) = v1 from congrArg (rw7 v0 v1 v2 v3 v4 v5 v6) (show (1 : Int32).toNatClampNeg = 1 by decide)]; exact kk)
theorem is7_1 {v0 v1 v2 v3 v4 v5 v6 x : Int32} (hx : p.tables.exec = Jvm.exec) (hb : c.code = cc) (hK : Kw G s) (hM : Wd G M s H locs) (ha : M a = some (r, .inl (G.2.1 0, 7, .inl (rw7 v0 v1 v2 v3 v4 v5 v6)))) (hdg : decode cc pc = .ok (.iastore, 1)) (kk : ∀ (H : Heap) (locs : List Loc), Wd G (hu M a r (.inl (G.2.1 0, 7, .inl (rw7 v0 x v2 v3 v4 v5 v6)))) s H locs → W p l e R s m args below meth c H locs cells slots Q (F0 m (pc + 1) ls rest)) : W p l e R s m args below meth c H locs cells slots Q (F0 m pc ls (.int x :: .int 1 :: .ref a :: rest)) :=
  g_iast hx hb hK hM ha (i := 1) (by unfold vp_in; decide) hdg (fun H locs hM => kk H locs (hM.eq (by rw [show (1 : Int32).toNatClampNeg = 1 by decide, ru7_1])))
theorem ia7_2 {v0 v1 v2 v3 v4 v5 v6 : Int32} (hx : p.tables.exec = Jvm.exec) (hb : c.code = cc) (hK : Kw G s) (hM : Wd G M s H locs) (ha : M a = some (r, .inl (G.2.1 0, 7, .inl (rw7 v0 v1 v2 v3 v4 v5 v6)))) (hdg : decode cc pc = .ok (.iaload, 1)) (kk : W p l e R s m args below meth c H locs cells slots Q (F0 m (pc + 1) ls (.int v2 :: rest))) : W p l e R s m args below meth c H locs cells slots Q (F0 m pc ls (.int 2 :: .ref a :: rest)) :=
  g_iald hx hb hK hM ha (i := 2) (by unfold vp_in; decide) hdg (by rw [show rw7 v0 v1 v2 v3 v4 v5 v6 ((2 : Int32).toNatClampNeg) = v2 from congrArg (rw7 v0 v1 v2 v3 v4 v5 v6) (show (2 : Int32).toNatClampNeg = 2 by decide)]; exact kk)
theorem is7_2 {v0 v1 v2 v3 v4 v5 v6 x : Int32} (hx : p.tables.exec = Jvm.exec) (hb : c.code = cc) (hK : Kw G s) (hM : Wd G M s H locs) (ha : M a = some (r, .inl (G.2.1 0, 7, .inl (rw7 v0 v1 v2 v3 v4 v5 v6)))) (hdg : decode cc pc = .ok (.iastore, 1)) (kk : ∀ (H : Heap) (locs : List Loc), Wd G (hu M a r (.inl (G.2.1 0, 7, .inl (rw7 v0 v1 x v3 v4 v5 v6)))) s H locs → W p l e R s m args below meth c H locs cells slots Q (F0 m (pc + 1) ls rest)) : W p l e R s m args below meth c H locs cells slots Q (F0 m pc ls (.int x :: .int 2 :: .ref a :: rest)) :=
  g_iast hx hb hK hM ha (i := 2) (by unfold vp_in; decide) hdg (fun H locs hM => kk H locs (hM.eq (by rw [show (2 : Int32).toNatClampNeg = 2 by decide, ru7_2])))
theorem ia7_3 {v0 v1 v2 v3 v4 v5 v6 : Int32} (hx : p.tables.exec = Jvm.exec) (hb : c.code = cc) (hK : Kw G s) (hM : Wd G M s H locs) (ha : M a = some (r, .inl (G.2.1 0, 7, .inl (rw7 v0 v1 v2 v3 v4 v5 v6)))) (hdg : decode cc pc = .ok (.iaload, 1)) (kk : W p l e R s m args below meth c H locs cells slots Q (F0 m (pc + 1) ls (.int v3 :: rest))) : W p l e R s m args below meth c H locs cells slots Q (F0 m pc ls (.int 3 :: .ref a :: rest)) :=
  g_iald hx hb hK hM ha (i := 3) (by unfold vp_in; decide) hdg (by rw [show rw7 v0 v1 v2 v3 v4 v5 v6 ((3 : Int32).toNatClampNeg) = v3 from congrArg (rw7 v0 v1 v2 v3 v4 v5 v6) (show (3 : Int32).toNatClampNeg = 3 by decide)]; exact kk)
theorem is7_3 {v0 v1 v2 v3 v4 v5 v6 x : Int32} (hx : p.tables.exec = Jvm.exec) (hb : c.code = cc) (hK : Kw G s) (hM : Wd G M s H locs) (ha : M a = some (r, .inl (G.2.1 0, 7, .inl (rw7 v0 v1 v2 v3 v4 v5 v6)))) (hdg : decode cc pc = .ok (.iastore, 1)) (kk : ∀ (H : Heap) (locs : List Loc), Wd G (hu M a r (.inl (G.2.1 0, 7, .inl (rw7 v0 v1 v2 x v4 v5 v6)))) s H locs → W p l e R s m args below meth c H locs cells slots Q (F0 m (pc + 1) ls rest)) : W p l e R s m args below meth c H locs cells slots Q (F0 m pc ls (.int x :: .int 3 :: .ref a :: rest)) :=
  g_iast hx hb hK hM ha (i := 3) (by unfold vp_in; decide) hdg (fun H locs hM => kk H locs (hM.eq (by rw [show (3 : Int32).toNatClampNeg = 3 by decide, ru7_3])))
theorem ia7_4 {v0 v1 v2 v3 v4 v5 v6 : Int32} (hx : p.tables.exec = Jvm.exec) (hb : c.code = cc) (hK : Kw G s) (hM : Wd G M s H locs) (ha : M a = some (r, .inl (G.2.1 0, 7, .inl (rw7 v0 v1 v2 v3 v4 v5 v6)))) (hdg : decode cc pc = .ok (.iaload, 1)) (kk : W p l e R s m args below meth c H locs cells slots Q (F0 m (pc + 1) ls (.int v4 :: rest))) : W p l e R s m args below meth c H locs cells slots Q (F0 m pc ls (.int 4 :: .ref a :: rest)) :=
  g_iald hx hb hK hM ha (i := 4) (by unfold vp_in; decide) hdg (by rw [show rw7 v0 v1 v2 v3 v4 v5 v6 ((4 : Int32).toNatClampNeg) = v4 from congrArg (rw7 v0 v1 v2 v3 v4 v5 v6) (show (4 : Int32).toNatClampNeg = 4 by decide)]; exact kk)
theorem is7_4 {v0 v1 v2 v3 v4 v5 v6 x : Int32} (hx : p.tables.exec = Jvm.exec) (hb : c.code = cc) (hK : Kw G s) (hM : Wd G M s H locs) (ha : M a = some (r, .inl (G.2.1 0, 7, .inl (rw7 v0 v1 v2 v3 v4 v5 v6)))) (hdg : decode cc pc = .ok (.iastore, 1)) (kk : ∀ (H : Heap) (locs : List Loc), Wd G (hu M a r (.inl (G.2.1 0, 7, .inl (rw7 v0 v1 v2 v3 x v5 v6)))) s H locs → W p l e R s m args below meth c H locs cells slots Q (F0 m (pc + 1) ls rest)) : W p l e R s m args below meth c H locs cells slots Q (F0 m pc ls (.int x :: .int 4 :: .ref a :: rest)) :=
  g_iast hx hb hK hM ha (i := 4) (by unfold vp_in; decide) hdg (fun H locs hM => kk H locs (hM.eq (by rw [show (4 : Int32).toNatClampNeg = 4 by decide, ru7_4])))
theorem ia7_5 {v0 v1 v2 v3 v4 v5 v6 : Int32} (hx : p.tables.exec = Jvm.exec) (hb : c.code = cc) (hK : Kw G s) (hM : Wd G M s H locs) (ha : M a = some (r, .inl (G.2.1 0, 7, .inl (rw7 v0 v1 v2 v3 v4 v5 v6)))) (hdg : decode cc pc = .ok (.iaload, 1)) (kk : W p l e R s m args below meth c H locs cells slots Q (F0 m (pc + 1) ls (.int v5 :: rest))) : W p l e R s m args below meth c H locs cells slots Q (F0 m pc ls (.int 5 :: .ref a :: rest)) :=
  g_iald hx hb hK hM ha (i := 5) (by unfold vp_in; decide) hdg (by rw [show rw7 v0 v1 v2 v3 v4 v5 v6 ((5 : Int32).toNatClampNeg) = v5 from congrArg (rw7 v0 v1 v2 v3 v4 v5 v6) (show (5 : Int32).toNatClampNeg = 5 by decide)]; exact kk)
theorem is7_5 {v0 v1 v2 v3 v4 v5 v6 x : Int32} (hx : p.tables.exec = Jvm.exec) (hb : c.code = cc) (hK : Kw G s) (hM : Wd G M s H locs) (ha : M a = some (r, .inl (G.2.1 0, 7, .inl (rw7 v0 v1 v2 v3 v4 v5 v6)))) (hdg : decode cc pc = .ok (.iastore, 1)) (kk : ∀ (H : Heap) (locs : List Loc), Wd G (hu M a r (.inl (G.2.1 0, 7, .inl (rw7 v0 v1 v2 v3 v4 x v6)))) s H locs → W p l e R s m args below meth c H locs cells slots Q (F0 m (pc + 1) ls rest)) : W p l e R s m args below meth c H locs cells slots Q (F0 m pc ls (.int x :: .int 5 :: .ref a :: rest)) :=
  g_iast hx hb hK hM ha (i := 5) (by unfold vp_in; decide) hdg (fun H locs hM => kk H locs (hM.eq (by rw [show (5 : Int32).toNatClampNeg = 5 by decide, ru7_5])))
theorem ia7_6 {v0 v1 v2 v3 v4 v5 v6 : Int32} (hx : p.tables.exec = Jvm.exec) (hb : c.code = cc) (hK : Kw G s) (hM : Wd G M s H locs) (ha : M a = some (r, .inl (G.2.1 0, 7, .inl (rw7 v0 v1 v2 v3 v4 v5 v6)))) (hdg : decode cc pc = .ok (.iaload, 1)) (kk : W p l e R s m args below meth c H locs cells slots Q (F0 m (pc + 1) ls (.int v6 :: rest))) : W p l e R s m args below meth c H locs cells slots Q (F0 m pc ls (.int 6 :: .ref a :: rest)) :=
  g_iald hx hb hK hM ha (i := 6) (by unfold vp_in; decide) hdg (by rw [show rw7 v0 v1 v2 v3 v4 v5 v6 ((6 : Int32).toNatClampNeg) = v6 from congrArg (rw7 v0 v1 v2 v3 v4 v5 v6) (show (6 : Int32).toNatClampNeg = 6 by decide)]; exact kk)
theorem is7_6 {v0 v1 v2 v3 v4 v5 v6 x : Int32} (hx : p.tables.exec = Jvm.exec) (hb : c.code = cc) (hK : Kw G s) (hM : Wd G M s H locs) (ha : M a = some (r, .inl (G.2.1 0, 7, .inl (rw7 v0 v1 v2 v3 v4 v5 v6)))) (hdg : decode cc pc = .ok (.iastore, 1)) (kk : ∀ (H : Heap) (locs : List Loc), Wd G (hu M a r (.inl (G.2.1 0, 7, .inl (rw7 v0 v1 v2 v3 v4 v5 x)))) s H locs → W p l e R s m args below meth c H locs cells slots Q (F0 m (pc + 1) ls rest)) : W p l e R s m args below meth c H locs cells slots Q (F0 m pc ls (.int x :: .int 6 :: .ref a :: rest)) :=
  g_iast hx hb hK hM ha (i := 6) (by unfold vp_in; decide) hdg (fun H locs hM => kk H locs (hM.eq (by rw [show (6 : Int32).toNatClampNeg = 6 by decide, ru7_6])))
theorem ia8_0 {v0 v1 v2 v3 v4 v5 v6 v7 : Int32} (hx : p.tables.exec = Jvm.exec) (hb : c.code = cc) (hK : Kw G s) (hM : Wd G M s H locs) (ha : M a = some (r, .inl (G.2.1 0, 8, .inl (rw8 v0 v1 v2 v3 v4 v5 v6 v7)))) (hdg : decode cc pc = .ok (.iaload, 1)) (kk : W p l e R s m args below meth c H locs cells slots Q (F0 m (pc + 1) ls (.int v0 :: rest))) : W p l e R s m args below meth c H locs cells slots Q (F0 m pc ls (.int 0 :: .ref a :: rest)) :=
  g_iald hx hb hK hM ha (i := 0) (by unfold vp_in; decide) hdg (by rw [show rw8 v0 v1 v2 v3 v4 v5 v6 v7 ((0 : Int32).toNatClampNeg) = v0 from congrArg (rw8 v0 v1 v2 v3 v4 v5 v6 v7) (show (0 : Int32).toNatClampNeg = 0 by decide)]; exact kk)
theorem is8_0 {v0 v1 v2 v3 v4 v5 v6 v7 x : Int32} (hx : p.tables.exec = Jvm.exec) (hb : c.code = cc) (hK : Kw G s) (hM : Wd G M s H locs) (ha : M a = some (r, .inl (G.2.1 0, 8, .inl (rw8 v0 v1 v2 v3 v4 v5 v6 v7)))) (hdg : decode cc pc = .ok (.iastore, 1)) (kk : ∀ (H : Heap) (locs : List Loc), Wd G (hu M a r (.inl (G.2.1 0, 8, .inl (rw8 x v1 v2 v3 v4 v5 v6 v7)))) s H locs → W p l e R s m args below meth c H locs cells slots Q (F0 m (pc + 1) ls rest)) : W p l e R s m args below meth c H locs cells slots Q (F0 m pc ls (.int x :: .int 0 :: .ref a :: rest)) :=
  g_iast hx hb hK hM ha (i := 0) (by unfold vp_in; decide) hdg (fun H locs hM => kk H locs (hM.eq (by rw [show (0 : Int32).toNatClampNeg = 0 by decide, ru8_0])))
theorem ia8_1 {v0 v1 v2 v3 v4 v5 v6 v7 : Int32} (hx : p.tables.exec = Jvm.exec) (hb : c.code = cc) (hK : Kw G s) (hM : Wd G M s H locs) (ha : M a = some (r, .inl (G.2.1 0, 8, .inl (rw8 v0 v1 v2 v3 v4 v5 v6 v7)))) (hdg : decode cc pc = .ok (.iaload, 1)) (kk : W p l e R s m args below meth c H locs cells slots Q (F0 m (pc + 1) ls (.int v1 :: rest))) : W p l e R s m args below meth c H locs cells slots Q (F0 m pc ls (.int 1 :: .ref a :: rest)) :=
  g_iald hx hb hK hM ha (i := 1) (by unfold vp_in; decide) hdg (by rw [show rw8 v0 v1 v2 v3 v4 v5 v6 v7 ((1 : Int32).toNatClampNeg) = v1 from congrArg (rw8 v0 v1 v2 v3 v4 v5 v6 v7) (show (1 : Int32).toNatClampNeg = 1 by decide)]; exact kk)
theorem is8_1 {v0 v1 v2 v3 v4 v5 v6 v7 x : Int32} (hx : p.tables.exec = Jvm.exec) (hb : c.code = cc) (hK : Kw G s) (hM : Wd G M s H locs) (ha : M a = some (r, .inl (G.2.1 0, 8, .inl (rw8 v0 v1 v2 v3 v4 v5 v6 v7)))) (hdg : decode cc pc = .ok (.iastore, 1)) (kk : ∀ (H : Heap) (locs : List Loc), Wd G (hu M a r (.inl (G.2.1 0, 8, .inl (rw8 v0 x v2 v3 v4 v5 v6 v7)))) s H locs → W p l e R s m args below meth c H locs cells slots Q (F0 m (pc + 1) ls rest)) : W p l e R s m args below meth c H locs cells slots Q (F0 m pc ls (.int x :: .int 1 :: .ref a :: rest)) :=
  g_iast hx hb hK hM ha (i := 1) (by unfold vp_in; decide) hdg (fun H locs hM => kk H locs (hM.eq (by rw [show (1 : Int32).toNatClampNeg = 1 by decide, ru8_1])))
theorem ia8_2 {v0 v1 v2 v3 v4 v5 v6 v7 : Int32} (hx : p.tables.exec = Jvm.exec) (hb : c.code = cc) (hK : Kw G s) (hM : Wd G M s H locs) (ha : M a = some (r, .inl (G.2.1 0, 8, .inl (rw8 v0 v1 v2 v3 v4 v5 v6 v7)))) (hdg : decode cc pc = .ok (.iaload, 1)) (kk : W p l e R s m args below meth c H locs cells slots Q (F0 m (pc + 1) ls (.int v2 :: rest))) : W p l e R s m args below meth c H locs cells slots Q (F0 m pc ls (.int 2 :: .ref a :: rest)) :=
  g_iald hx hb hK hM ha (i := 2) (by unfold vp_in; decide) hdg (by rw [show rw8 v0 v1 v2 v3 v4 v5 v6 v7 ((2 : Int32).toNatClampNeg) = v2 from congrArg (rw8 v0 v1 v2 v3 v4 v5 v6 v7) (show (2 : Int32).toNatClampNeg = 2 by decide)]; exact kk)
theorem is8_2 {v0 v1 v2 v3 v4 v5 v6 v7 x : Int32} (hx : p.tables.exec = Jvm.exec) (hb : c.code = cc) (hK : Kw G s) (hM : Wd G M s H locs) (ha : M a = some (r, .inl (G.2.1 0, 8, .inl (rw8 v0 v1 v2 v3 v4 v5 v6 v7)))) (hdg : decode cc pc = .ok (.iastore, 1)) (kk : ∀ (H : Heap) (locs : List Loc), Wd G (hu M a r (.inl (G.2.1 0, 8, .inl (rw8 v0 v1 x v3 v4 v5 v6 v7)))) s H locs → W p l e R s m args below meth c H locs cells slots Q (F0 m (pc + 1) ls rest)) : W p l e R s m args below meth c H locs cells slots Q (F0 m pc ls (.int x :: .int 2 :: .ref a :: rest)) :=
  g_iast hx hb hK hM ha (i := 2) (by unfold vp_in; decide) hdg (fun H locs hM => kk H locs (hM.eq (by rw [show (2 : Int32).toNatClampNeg = 2 by decide, ru8_2])))
theorem ia8_3 {v0 v1 v2 v3 v4 v5 v6 v7 : Int32} (hx : p.tables.exec = Jvm.exec) (hb : c.code = cc) (hK : Kw G s) (hM : Wd G M s H locs) (ha : M a = some (r, .inl (G.2.1 0, 8, .inl (rw8 v0 v1 v2 v3 v4 v5 v6 v7)))) (hdg : decode cc pc = .ok (.iaload, 1)) (kk : W p l e R s m args below meth c H locs cells slots Q (F0 m (pc + 1) ls (.int v3 :: rest))) : W p l e R s m args below meth c H locs cells slots Q (F0 m pc ls (.int 3 :: .ref a :: rest)) :=
  g_iald hx hb hK hM ha (i := 3) (by unfold vp_in; decide) hdg (by rw [show rw8 v0 v1 v2 v3 v4 v5 v6 v7 ((3 : Int32).toNatClampNeg) = v3 from congrArg (rw8 v0 v1 v2 v3 v4 v5 v6 v7) (show (3 : Int32).toNatClampNeg = 3 by decide)]; exact kk)
theorem is8_3 {v0 v1 v2 v3 v4 v5 v6 v7 x : Int32} (hx : p.tables.exec = Jvm.exec) (hb : c.code = cc) (hK : Kw G s) (hM : Wd G M s H locs) (ha : M a = some (r, .inl (G.2.1 0, 8, .inl (rw8 v0 v1 v2 v3 v4 v5 v6 v7)))) (hdg : decode cc pc = .ok (.iastore, 1)) (kk : ∀ (H : Heap) (locs : List Loc), Wd G (hu M a r (.inl (G.2.1 0, 8, .inl (rw8 v0 v1 v2 x v4 v5 v6 v7)))) s H locs → W p l e R s m args below meth c H locs cells slots Q (F0 m (pc + 1) ls rest)) : W p l e R s m args below meth c H locs cells slots Q (F0 m pc ls (.int x :: .int 3 :: .ref a :: rest)) :=
  g_iast hx hb hK hM ha (i := 3) (by unfold vp_in; decide) hdg (fun H locs hM => kk H locs (hM.eq (by rw [show (3 : Int32).toNatClampNeg = 3 by decide, ru8_3])))
theorem ia8_4 {v0 v1 v2 v3 v4 v5 v6 v7 : Int32} (hx : p.tables.exec = Jvm.exec) (hb : c.code = cc) (hK : Kw G s) (hM : Wd G M s H locs) (ha : M a = some (r, .inl (G.2.1 0, 8, .inl (rw8 v0 v1 v2 v3 v4 v5 v6 v7)))) (hdg : decode cc pc = .ok (.iaload, 1)) (kk : W p l e R s m args below meth c H locs cells slots Q (F0 m (pc + 1) ls (.int v4 :: rest))) : W p l e R s m args below meth c H locs cells slots Q (F0 m pc ls (.int 4 :: .ref a :: rest)) :=
  g_iald hx hb hK hM ha (i := 4) (by unfold vp_in; decide) hdg (by rw [show rw8 v0 v1 v2 v3 v4 v5 v6 v7 ((4 : Int32).toNatClampNeg) = v4 from congrArg (rw8 v0 v1 v2 v3 v4 v5 v6 v7) (show (4 : Int32).toNatClampNeg = 4 by decide)]; exact kk)
theorem is8_4 {v0 v1 v2 v3 v4 v5 v6 v7 x : Int32} (hx : p.tables.exec = Jvm.exec) (hb : c.code = cc) (hK : Kw G s) (hM : Wd G M s H locs) (ha : M a = some (r, .inl (G.2.1 0, 8, .inl (rw8 v0 v1 v2 v3 v4 v5 v6 v7)))) (hdg : decode cc pc = .ok (.iastore, 1)) (kk : ∀ (H : Heap) (locs : List Loc), Wd G (hu M a r (.inl (G.2.1 0, 8, .inl (rw8 v0 v1 v2 v3 x v5 v6 v7)))) s H locs → W p l e R s m args below meth c H locs cells slots Q (F0 m (pc + 1) ls rest)) : W p l e R s m args below meth c H locs cells slots Q (F0 m pc ls (.int x :: .int 4 :: .ref a :: rest)) :=
  g_iast hx hb hK hM ha (i := 4) (by unfold vp_in; decide) hdg (fun H locs hM => kk H locs (hM.eq (by rw [show (4 : Int32).toNatClampNeg = 4 by decide, ru8_4])))
theorem ia8_5 {v0 v1 v2 v3 v4 v5 v6 v7 : Int32} (hx : p.tables.exec = Jvm.exec) (hb : c.code = cc) (hK : Kw G s) (hM : Wd G M s H locs) (ha : M a = some (r, .inl (G.2.1 0, 8, .inl (rw8 v0 v1 v2 v3 v4 v5 v6 v7)))) (hdg : decode cc pc = .ok (.iaload, 1)) (kk : W p l e R s m args below meth c H locs cells slots Q (F0 m (pc + 1) ls (.int v5 :: rest))) : W p l e R s m args below meth c H locs cells slots Q (F0 m pc ls (.int 5 :: .ref a :: rest)) :=
  g_iald hx hb hK hM ha (i := 5) (by unfold vp_in; decide) hdg (by rw [show rw8 v0 v1 v2 v3 v4 v5 v6 v7 ((5 : Int32).toNatClampNeg) = v5 from congrArg (rw8 v0 v1 v2 v3 v4 v5 v6 v7) (show (5 : Int32).toNatClampNeg = 5 by decide)]; exact kk)
theorem is8_5 {v0 v1 v2 v3 v4 v5 v6 v7 x : Int32} (hx : p.tables.exec = Jvm.exec) (hb : c.code = cc) (hK : Kw G s) (hM : Wd G M s H locs) (ha : M a = some (r, .inl (G.2.1 0, 8, .inl (rw8 v0 v1 v2 v3 v4 v5 v6 v7)))) (hdg : decode cc pc = .ok (.iastore, 1)) (kk : ∀ (H : Heap) (locs : List Loc), Wd G (hu M a r (.inl (G.2.1 0, 8, .inl (rw8 v0 v1 v2 v3 v4 x v6 v7)))) s H locs → W p l e R s m args below meth c H locs cells slots Q (F0 m (pc + 1) ls rest)) : W p l e R s m args below meth c H locs cells slots Q (F0 m pc ls (.int x :: .int 5 :: .ref a :: rest)) :=
  g_iast hx hb hK hM ha (i := 5) (by unfold vp_in; decide) hdg (fun H locs hM => kk H locs (hM.eq (by rw [show (5 : Int32).toNatClampNeg = 5 by decide, ru8_5])))
theorem ia8_6 {v0 v1 v2 v3 v4 v5 v6 v7 : Int32} (hx : p.tables.exec = Jvm.exec) (hb : c.code = cc) (hK : Kw G s) (hM : Wd G M s H locs) (ha : M a = some (r, .inl (G.2.1 0, 8, .inl (rw8 v0 v1 v2 v3 v4 v5 v6 v7)))) (hdg : decode cc pc = .ok (.iaload, 1)) (kk : W p l e R s m args below meth c H locs cells slots Q (F0 m (pc + 1) ls (.int v6 :: rest))) : W p l e R s m args below meth c H locs cells slots Q (F0 m pc ls (.int 6 :: .ref a :: rest)) :=
  g_iald hx hb hK hM ha (i := 6) (by unfold vp_in; decide) hdg (by rw [show rw8 v0 v1 v2 v3 v4 v5 v6 v7 ((6 : Int32).toNatClampNeg) = v6 from congrArg (rw8 v0 v1 v2 v3 v4 v5 v6 v7) (show (6 : Int32).toNatClampNeg = 6 by decide)]; exact kk)
theorem is8_6 {v0 v1 v2 v3 v4 v5 v6 v7 x : Int32} (hx : p.tables.exec = Jvm.exec) (hb : c.code = cc) (hK : Kw G s) (hM : Wd G M s H locs) (ha : M a = some (r, .inl (G.2.1 0, 8, .inl (rw8 v0 v1 v2 v3 v4 v5 v6 v7)))) (hdg : decode cc pc = .ok (.iastore, 1)) (kk : ∀ (H : Heap) (locs : List Loc), Wd G (hu M a r (.inl (G.2.1 0, 8, .inl (rw8 v0 v1 v2 v3 v4 v5 x v7)))) s H locs → W p l e R s m args below meth c H locs cells slots Q (F0 m (pc + 1) ls rest)) : W p l e R s m args below meth c H locs cells slots Q (F0 m pc ls (.int x :: .int 6 :: .ref a :: rest)) :=
  g_iast hx hb hK hM ha (i := 6) (by unfold vp_in; decide) hdg (fun H locs hM => kk H locs (hM.eq (by rw [show (6 : Int32).toNatClampNeg = 6 by decide, ru8_6])))
theorem ia8_7 {v0 v1 v2 v3 v4 v5 v6 v7 : Int32} (hx : p.tables.exec = Jvm.exec) (hb : c.code = cc) (hK : Kw G s) (hM : Wd G M s H locs) (ha : M a = some (r, .inl (G.2.1 0, 8, .inl (rw8 v0 v1 v2 v3 v4 v5 v6 v7)))) (hdg : decode cc pc = .ok (.iaload, 1)) (kk : W p l e R s m args below meth c H locs cells slots Q (F0 m (pc + 1) ls (.int v7 :: rest))) : W p l e R s m args below meth c H locs cells slots Q (F0 m pc ls (.int 7 :: .ref a :: rest)) :=
  g_iald hx hb hK hM ha (i := 7) (by unfold vp_in; decide) hdg (by rw [show rw8 v0 v1 v2 v3 v4 v5 v6 v7 ((7 : Int32).toNatClampNeg) = v7 from congrArg (rw8 v0 v1 v2 v3 v4 v5 v6 v7) (show (7 : Int32).toNatClampNeg = 7 by decide)]; exact kk)
theorem is8_7 {v0 v1 v2 v3 v4 v5 v6 v7 x : Int32} (hx : p.tables.exec = Jvm.exec) (hb : c.code = cc) (hK : Kw G s) (hM : Wd G M s H locs) (ha : M a = some (r, .inl (G.2.1 0, 8, .inl (rw8 v0 v1 v2 v3 v4 v5 v6 v7)))) (hdg : decode cc pc = .ok (.iastore, 1)) (kk : ∀ (H : Heap) (locs : List Loc), Wd G (hu M a r (.inl (G.2.1 0, 8, .inl (rw8 v0 v1 v2 v3 v4 v5 v6 x)))) s H locs → W p l e R s m args below meth c H locs cells slots Q (F0 m (pc + 1) ls rest)) : W p l e R s m args below meth c H locs cells slots Q (F0 m pc ls (.int x :: .int 7 :: .ref a :: rest)) :=
  g_iast hx hb hK hM ha (i := 7) (by unfold vp_in; decide) hdg (fun H locs hM => kk H locs (hM.eq (by rw [show (7 : Int32).toNatClampNeg = 7 by decide, ru8_7])))
theorem ia10_0 {v0 v1 v2 v3 v4 v5 v6 v7 v8 v9 : Int32} (hx : p.tables.exec = Jvm.exec) (hb : c.code = cc) (hK : Kw G s) (hM : Wd G M s H locs) (ha : M a = some (r, .inl (G.2.1 0, 10, .inl (rw10 v0 v1 v2 v3 v4 v5 v6 v7 v8 v9)))) (hdg : decode cc pc = .ok (.iaload, 1)) (kk : W p l e R s m args below meth c H locs cells slots Q (F0 m (pc + 1) ls (.int v0 :: rest))) : W p l e R s m args below meth c H locs cells slots Q (F0 m pc ls (.int 0 :: .ref a :: rest)) :=
  g_iald hx hb hK hM ha (i := 0) (by unfold vp_in; decide) hdg (by rw [show rw10 v0 v1 v2 v3 v4 v5 v6 v7 v8 v9 ((0 : Int32).toNatClampNeg) = v0 from congrArg (rw10 v0 v1 v2 v3 v4 v5 v6 v7 v8 v9) (show (0 : Int32).toNatClampNeg = 0 by decide)]; exact kk)
theorem is10_0 {v0 v1 v2 v3 v4 v5 v6 v7 v8 v9 x : Int32} (hx : p.tables.exec = Jvm.exec) (hb : c.code = cc) (hK : Kw G s) (hM : Wd G M s H locs) (ha : M a = some (r, .inl (G.2.1 0, 10, .inl (rw10 v0 v1 v2 v3 v4 v5 v6 v7 v8 v9)))) (hdg : decode cc pc = .ok (.iastore, 1)) (kk : ∀ (H : Heap) (locs : List Loc), Wd G (hu M a r (.inl (G.2.1 0, 10, .inl (rw10 x v1 v2 v3 v4 v5 v6 v7 v8 v9)))) s H locs → W p l e R s m args below meth c H locs cells slots Q (F0 m (pc + 1) ls rest)) : W p l e R s m args below meth c H locs cells slots Q (F0 m pc ls (.int x :: .int 0 :: .ref a :: rest)) :=
  g_iast hx hb hK hM ha (i := 0) (by unfold vp_in; decide) hdg (fun H locs hM => kk H locs (hM.eq (by rw [show (0 : Int32).toNatClampNeg = 0 by decide, ru10_0])))
theorem ia10_1 {v0 v1 v2 v3 v4 v5 v6 v7 v8 v9 : Int32} (hx : p.tables.exec = Jvm.exec) (hb : c.code = cc) (hK : Kw G s) (hM : Wd G M s H locs) (ha : M a = some (r, .inl (G.2.1 0, 10, .inl (rw10 v0 v1 v2 v3 v4 v5 v6 v7 v8 v9)))) (hdg : decode cc pc = .ok (.iaload, 1)) (kk : W p l e R s m args below meth c H locs cells slots Q (F0 m (pc + 1) ls (.int v1 :: rest))) : W p l e R s m args below meth c H locs cells slots Q (F0 m pc ls (.int 1 :: .ref a :: rest)) :=
  g_iald hx hb hK hM ha (i := 1) (by unfold vp_in; decide) hdg (by rw [show rw10 v0 v1 v2 v3 v4 v5 v6 v7 v8 v9 ((1 : Int32).toNatClampNeg) = v1 from congrArg (rw10 v0 v1 v2 v3 v4 v5 v6 v7 v8 v9) (show (1 : Int32).toNatClampNeg = 1 by decide)]; exact kk)
theorem is10_1 {v0 v1 v2 v3 v4 v5 v6 v7 v8 v9 x : Int32} (hx : p.tables.exec = Jvm.exec) (hb : c.code = cc) (hK : Kw G s) (hM : Wd G M s H locs) (ha : M a = some (r, .inl (G.2.1 0, 10, .inl (rw10 v0 v1 v2 v3 v4 v5 v6 v7 v8 v9)))) (hdg : decode cc pc = .ok (.iastore, 1)) (kk : ∀ (H : Heap) (locs : List Loc), Wd G (hu M a r (.inl (G.2.1 0, 10, .inl (rw10 v0 x v2 v3 v4 v5 v6 v7 v8 v9)))) s H locs → W p l e R s m args below meth c H locs cells slots Q (F0 m (pc + 1) ls rest)) : W p l e R s m args below meth c H locs cells slots Q (F0 m pc ls (.int x :: .int 1 :: .ref a :: rest)) :=
  g_iast hx hb hK hM ha (i := 1) (by unfold vp_in; decide) hdg (fun H locs hM => kk H locs (hM.eq (by rw [show (1 : Int32).toNatClampNeg = 1 by decide, ru10_1])))
theorem ia10_2 {v0 v1 v2 v3 v4 v5 v6 v7 v8 v9 : Int32} (hx : p.tables.exec = Jvm.exec) (hb : c.code = cc) (hK : Kw G s) (hM : Wd G M s H locs) (ha : M a = some (r, .inl (G.2.1 0, 10, .inl (rw10 v0 v1 v2 v3 v4 v5 v6 v7 v8 v9)))) (hdg : decode cc pc = .ok (.iaload, 1)) (kk : W p l e R s m args below meth c H locs cells slots Q (F0 m (pc + 1) ls (.int v2 :: rest))) : W p l e R s m args below meth c H locs cells slots Q (F0 m pc ls (.int 2 :: .ref a :: rest)) :=
  g_iald hx hb hK hM ha (i := 2) (by unfold vp_in; decide) hdg (by rw [show rw10 v0 v1 v2 v3 v4 v5 v6 v7 v8 v9 ((2 : Int32).toNatClampNeg) = v2 from congrArg (rw10 v0 v1 v2 v3 v4 v5 v6 v7 v8 v9) (show (2 : Int32).toNatClampNeg = 2 by decide)]; exact kk)
theorem is10_2 {v0 v1 v2 v3 v4 v5 v6 v7 v8 v9 x : Int32} (hx : p.tables.exec = Jvm.exec) (hb : c.code = cc) (hK : Kw G s) (hM : Wd G M s H locs) (ha : M a = some (r, .inl (G.2.1 0, 10, .inl (rw10 v0 v1 v2 v3 v4 v5 v6 v7 v8 v9)))) (hdg : decode cc pc = .ok (.iastore, 1)) (kk : ∀ (H : Heap) (locs : List Loc), Wd G (hu M a r (.inl (G.2.1 0, 10, .inl (rw10 v0 v1 x v3 v4 v5 v6 v7 v8 v9)))) s H locs → W p l e R s m args below meth c H locs cells slots Q (F0 m (pc + 1) ls rest)) : W p l e R s m args below meth c H locs cells slots Q (F0 m pc ls (.int x :: .int 2 :: .ref a :: rest)) :=
  g_iast hx hb hK hM ha (i := 2) (by unfold vp_in; decide) hdg (fun H locs hM => kk H locs (hM.eq (by rw [show (2 : Int32).toNatClampNeg = 2 by decide, ru10_2])))
theorem ia10_3 {v0 v1 v2 v3 v4 v5 v6 v7 v8 v9 : Int32} (hx : p.tables.exec = Jvm.exec) (hb : c.code = cc) (hK : Kw G s) (hM : Wd G M s H locs) (ha : M a = some (r, .inl (G.2.1 0, 10, .inl (rw10 v0 v1 v2 v3 v4 v5 v6 v7 v8 v9)))) (hdg : decode cc pc = .ok (.iaload, 1)) (kk : W p l e R s m args below meth c H locs cells slots Q (F0 m (pc + 1) ls (.int v3 :: rest))) : W p l e R s m args below meth c H locs cells slots Q (F0 m pc ls (.int 3 :: .ref a :: rest)) :=
  g_iald hx hb hK hM ha (i := 3) (by unfold vp_in; decide) hdg (by rw [show rw10 v0 v1 v2 v3 v4 v5 v6 v7 v8 v9 ((3 : Int32).toNatClampNeg) = v3 from congrArg (rw10 v0 v1 v2 v3 v4 v5 v6 v7 v8 v9) (show (3 : Int32).toNatClampNeg = 3 by decide)]; exact kk)
theorem is10_3 {v0 v1 v2 v3 v4 v5 v6 v7 v8 v9 x : Int32} (hx : p.tables.exec = Jvm.exec) (hb : c.code = cc) (hK : Kw G s) (hM : Wd G M s H locs) (ha : M a = some (r, .inl (G.2.1 0, 10, .inl (rw10 v0 v1 v2 v3 v4 v5 v6 v7 v8 v9)))) (hdg : decode cc pc = .ok (.iastore, 1)) (kk : ∀ (H : Heap) (locs : List Loc), Wd G (hu M a r (.inl (G.2.1 0, 10, .inl (rw10 v0 v1 v2 x v4 v5 v6 v7 v8 v9)))) s H locs → W p l e R s m args below meth c H locs cells slots Q (F0 m (pc + 1) ls rest)) : W p l e R s m args below meth c H locs cells slots Q (F0 m pc ls (.int x :: .int 3 :: .ref a :: rest)) :=
  g_iast hx hb hK hM ha (i := 3) (by unfold vp_in; decide) hdg (fun H locs hM => kk H locs (hM.eq (by rw [show (3 : Int32).toNatClampNeg = 3 by decide, ru10_3])))
theorem ia10_4 {v0 v1 v2 v3 v4 v5 v6 v7 v8 v9 : Int32} (hx : p.tables.exec = Jvm.exec) (hb : c.code = cc) (hK : Kw G s) (hM : Wd G M s H locs) (ha : M a = some (r, .inl (G.2.1 0, 10, .inl (rw10 v0 v1 v2 v3 v4 v5 v6 v7 v8 v9)))) (hdg : decode cc pc = .ok (.iaload, 1)) (kk : W p l e R s m args below meth c H locs cells slots Q (F0 m (pc + 1) ls (.int v4 :: rest))) : W p l e R s m args below meth c H locs cells slots Q (F0 m pc ls (.int 4 :: .ref a :: rest)) :=
  g_iald hx hb hK hM ha (i := 4) (by unfold vp_in; decide) hdg (by rw [show rw10 v0 v1 v2 v3 v4 v5 v6 v7 v8 v9 ((4 : Int32).toNatClampNeg) = v4 from congrArg (rw10 v0 v1 v2 v3 v4 v5 v6 v7 v8 v9) (show (4 : Int32).toNatClampNeg = 4 by decide)]; exact kk)
theorem is10_4 {v0 v1 v2 v3 v4 v5 v6 v7 v8 v9 x : Int32} (hx : p.tables.exec = Jvm.exec) (hb : c.code = cc) (hK : Kw G s) (hM : Wd G M s H locs) (ha : M a = some (r, .inl (G.2.1 0, 10, .inl (rw10 v0 v1 v2 v3 v4 v5 v6 v7 v8 v9)))) (hdg : decode cc pc = .ok (.iastore, 1)) (kk : ∀ (H : Heap) (locs : List Loc), Wd G (hu M a r (.inl (G.2.1 0, 10, .inl (rw10 v0 v1 v2 v3 x v5 v6 v7 v8 v9)))) s H locs → W p l e R s m args below meth c H locs cells slots Q (F0 m (pc + 1) ls rest)) : W p l e R s m args below meth c H locs cells slots Q (F0 m pc ls (.int x :: .int 4 :: .ref a :: rest)) :=
  g_iast hx hb hK hM ha (i := 4) (by unfold vp_in; decide) hdg (fun H locs hM => kk H locs (hM.eq (by rw [show (4 : Int32).toNatClampNeg = 4 by decide, ru10_4])))
theorem ia10_5 {v0 v1 v2 v3 v4 v5 v6 v7 v8 v9 : Int32} (hx : p.tables.exec = Jvm.exec) (hb : c.code = cc) (hK : Kw G s) (hM : Wd G M s H locs) (ha : M a = some (r, .inl (G.2.1 0, 10, .inl (rw10 v0 v1 v2 v3 v4 v5 v6 v7 v8 v9)))) (hdg : decode cc pc = .ok (.iaload, 1)) (kk : W p l e R s m args below meth c H locs cells slots Q (F0 m (pc + 1) ls (.int v5 :: rest))) : W p l e R s m args below meth c H locs cells slots Q (F0 m pc ls (.int 5 :: .ref a :: rest)) :=
  g_iald hx hb hK hM ha (i := 5) (by unfold vp_in; decide) hdg (by rw [show rw10 v0 v1 v2 v3 v4 v5 v6 v7 v8 v9 ((5 : Int32).toNatClampNeg) = v5 from congrArg (rw10 v0 v1 v2 v3 v4 v5 v6 v7 v8 v9) (show (5 : Int32).toNatClampNeg = 5 by decide)]; exact kk)
theorem is10_5 {v0 v1 v2 v3 v4 v5 v6 v7 v8 v9 x : Int32} (hx : p.tables.exec = Jvm.exec) (hb : c.code = cc) (hK : Kw G s) (hM : Wd G M s H locs) (ha : M a = some (r, .inl (G.2.1 0, 10, .inl (rw10 v0 v1 v2 v3 v4 v5 v6 v7 v8 v9)))) (hdg : decode cc pc = .ok (.iastore, 1)) (kk : ∀ (H : Heap) (locs : List Loc), Wd G (hu M a r (.inl (G.2.1 0, 10, .inl (rw10 v0 v1 v2 v3 v4 x v6 v7 v8 v9)))) s H locs → W p l e R s m args below meth c H locs cells slots Q (F0 m (pc + 1) ls rest)) : W p l e R s m args below meth c H locs cells slots Q (F0 m pc ls (.int x :: .int 5 :: .ref a :: rest)) :=
  g_iast hx hb hK hM ha (i := 5) (by unfold vp_in; decide) hdg (fun H locs hM => kk H locs (hM.eq (by rw [show (5 : Int32).toNatClampNeg = 5 by decide, ru10_5])))
theorem ia10_6 {v0 v1 v2 v3 v4 v5 v6 v7 v8 v9 : Int32} (hx : p.tables.exec = Jvm.exec) (hb : c.code = cc) (hK : Kw G s) (hM : Wd G M s H locs) (ha : M a = some (r, .inl (G.2.1 0, 10, .inl (rw10 v0 v1 v2 v3 v4 v5 v6 v7 v8 v9)))) (hdg : decode cc pc = .ok (.iaload, 1)) (kk : W p l e R s m args below meth c H locs cells slots Q (F0 m (pc + 1) ls (.int v6 :: rest))) : W p l e R s m args below meth c H locs cells slots Q (F0 m pc ls (.int 6 :: .ref a :: rest)) :=
  g_iald hx hb hK hM ha (i := 6) (by unfold vp_in; decide) hdg (by rw [show rw10 v0 v1 v2 v3 v4 v5 v6 v7 v8 v9 ((6 : Int32).toNatClampNeg) = v6 from congrArg (rw10 v0 v1 v2 v3 v4 v5 v6 v7 v8 v9) (show (6 : Int32).toNatClampNeg = 6 by decide)]; exact kk)
theorem is10_6 {v0 v1 v2 v3 v4 v5 v6 v7 v8 v9 x : Int32} (hx : p.tables.exec = Jvm.exec) (hb : c.code = cc) (hK : Kw G s) (hM : Wd G M s H locs) (ha : M a = some (r, .inl (G.2.1 0, 10, .inl (rw10 v0 v1 v2 v3 v4 v5 v6 v7 v8 v9)))) (hdg : decode cc pc = .ok (.iastore, 1)) (kk : ∀ (H : Heap) (locs : List Loc), Wd G (hu M a r (.inl (G.2.1 0, 10, .inl (rw10 v0 v1 v2 v3 v4 v5 x v7 v8 v9)))) s H locs → W p l e R s m args below meth c H locs cells slots Q (F0 m (pc + 1) ls rest)) : W p l e R s m args below meth c H locs cells slots Q (F0 m pc ls (.int x :: .int 6 :: .ref a :: rest)) :=
  g_iast hx hb hK hM ha (i := 6) (by unfold vp_in; decide) hdg (fun H locs hM => kk H locs (hM.eq (by rw [show (6 : Int32).toNatClampNeg = 6 by decide, ru10_6])))
theorem ia10_7 {v0 v1 v2 v3 v4 v5 v6 v7 v8 v9 : Int32} (hx : p.tables.exec = Jvm.exec) (hb : c.code = cc) (hK : Kw G s) (hM : Wd G M s H locs) (ha : M a = some (r, .inl (G.2.1 0, 10, .inl (rw10 v0 v1 v2 v3 v4 v5 v6 v7 v8 v9)))) (hdg : decode cc pc = .ok (.iaload, 1)) (kk : W p l e R s m args below meth c H locs cells slots Q (F0 m (pc + 1) ls (.int v7 :: rest))) : W p l e R s m args below meth c H locs cells slots Q (F0 m pc ls (.int 7 :: .ref a :: rest)) :=
  g_iald hx hb hK hM ha (i := 7) (by unfold vp_in; decide) hdg (by rw [show rw10 v0 v1 v2 v3 v4 v5 v6 v7 v8 v9 ((7 : Int32).toNatClampNeg) = v7 from congrArg (rw10 v0 v1 v2 v3 v4 v5 v6 v7 v8 v9) (show (7 : Int32).toNatClampNeg = 7 by decide)]; exact kk)
theorem is10_7 {v0 v1 v2 v3 v4 v5 v6 v7 v8 v9 x : Int32} (hx : p.tables.exec = Jvm.exec) (hb : c.code = cc) (hK : Kw G s) (hM : Wd G M s H locs) (ha : M a = some (r, .inl (G.2.1 0, 10, .inl (rw10 v0 v1 v2 v3 v4 v5 v6 v7 v8 v9)))) (hdg : decode cc pc = .ok (.iastore, 1)) (kk : ∀ (H : Heap) (locs : List Loc), Wd G (hu M a r (.inl (G.2.1 0, 10, .inl (rw10 v0 v1 v2 v3 v4 v5 v6 x v8 v9)))) s H locs → W p l e R s m args below meth c H locs cells slots Q (F0 m (pc + 1) ls rest)) : W p l e R s m args below meth c H locs cells slots Q (F0 m pc ls (.int x :: .int 7 :: .ref a :: rest)) :=
  g_iast hx hb hK hM ha (i := 7) (by unfold vp_in; decide) hdg (fun H locs hM => kk H locs (hM.eq (by rw [show (7 : Int32).toNatClampNeg = 7 by decide, ru10_7])))
theorem ia10_8 {v0 v1 v2 v3 v4 v5 v6 v7 v8 v9 : Int32} (hx : p.tables.exec = Jvm.exec) (hb : c.code = cc) (hK : Kw G s) (hM : Wd G M s H locs) (ha : M a = some (r, .inl (G.2.1 0, 10, .inl (rw10 v0 v1 v2 v3 v4 v5 v6 v7 v8 v9)))) (hdg : decode cc pc = .ok (.iaload, 1)) (kk : W p l e R s m args below meth c H locs cells slots Q (F0 m (pc + 1) ls (.int v8 :: rest))) : W p l e R s m args below meth c H locs cells slots Q (F0 m pc ls (.int 8 :: .ref a :: rest)) :=
  g_iald hx hb hK hM ha (i := 8) (by unfold vp_in; decide) hdg (by rw [show rw10 v0 v1 v2 v3 v4 v5 v6 v7 v8 v9 ((8 : Int32).toNatClampNeg) = v8 from congrArg (rw10 v0 v1 v2 v3 v4 v5 v6 v7 v8 v9) (show (8 : Int32).toNatClampNeg = 8 by decide)]; exact kk)
theorem is10_8 {v0 v1 v2 v3 v4 v5 v6 v7 v8 v9 x : Int32} (hx : p.tables.exec = Jvm.exec) (hb : c.code = cc) (hK : Kw G s) (hM : Wd G M s H locs) (ha : M a = some (r, .inl (G.2.1 0, 10, .inl (rw10 v0 v1 v2 v3 v4 v5 v6 v7 v8 v9)))) (hdg : decode cc pc = .ok (.iastore, 1)) (kk : ∀ (H : Heap) (locs : List Loc), Wd G (hu M a r (.inl (G.2.1 0, 10, .inl (rw10 v0 v1 v2 v3 v4 v5 v6 v7 x v9)))) s H locs → W p l e R s m args below meth c H locs cells slots Q (F0 m (pc + 1) ls rest)) : W p l e R s m args below meth c H locs cells slots Q (F0 m pc ls (.int x :: .int 8 :: .ref a :: rest)) :=
  g_iast hx hb hK hM ha (i := 8) (by unfold vp_in; decide) hdg (fun H locs hM => kk H locs (hM.eq (by rw [show (8 : Int32).toNatClampNeg = 8 by decide, ru10_8])))
theorem ia10_9 {v0 v1 v2 v3 v4 v5 v6 v7 v8 v9 : Int32} (hx : p.tables.exec = Jvm.exec) (hb : c.code = cc) (hK : Kw G s) (hM : Wd G M s H locs) (ha : M a = some (r, .inl (G.2.1 0, 10, .inl (rw10 v0 v1 v2 v3 v4 v5 v6 v7 v8 v9)))) (hdg : decode cc pc = .ok (.iaload, 1)) (kk : W p l e R s m args below meth c H locs cells slots Q (F0 m (pc + 1) ls (.int v9 :: rest))) : W p l e R s m args below meth c H locs cells slots Q (F0 m pc ls (.int 9 :: .ref a :: rest)) :=
  g_iald hx hb hK hM ha (i := 9) (by unfold vp_in; decide) hdg (by rw [show rw10 v0 v1 v2 v3 v4 v5 v6 v7 v8 v9 ((9 : Int32).toNatClampNeg) = v9 from congrArg (rw10 v0 v1 v2 v3 v4 v5 v6 v7 v8 v9) (show (9 : Int32).toNatClampNeg = 9 by decide)]; exact kk)
theorem is10_9 {v0 v1 v2 v3 v4 v5 v6 v7 v8 v9 x : Int32} (hx : p.tables.exec = Jvm.exec) (hb : c.code = cc) (hK : Kw G s) (hM : Wd G M s H locs) (ha : M a = some (r, .inl (G.2.1 0, 10, .inl (rw10 v0 v1 v2 v3 v4 v5 v6 v7 v8 v9)))) (hdg : decode cc pc = .ok (.iastore, 1)) (kk : ∀ (H : Heap) (locs : List Loc), Wd G (hu M a r (.inl (G.2.1 0, 10, .inl (rw10 v0 v1 v2 v3 v4 v5 v6 v7 v8 x)))) s H locs → W p l e R s m args below meth c H locs cells slots Q (F0 m (pc + 1) ls rest)) : W p l e R s m args below meth c H locs cells slots Q (F0 m pc ls (.int x :: .int 9 :: .ref a :: rest)) :=
  g_iast hx hb hK hM ha (i := 9) (by unfold vp_in; decide) hdg (fun H locs hM => kk H locs (hM.eq (by rw [show (9 : Int32).toNatClampNeg = 9 by decide, ru10_9])))
theorem ia11_0 {v0 v1 v2 v3 v4 v5 v6 v7 v8 v9 v10 : Int32} (hx : p.tables.exec = Jvm.exec) (hb : c.code = cc) (hK : Kw G s) (hM : Wd G M s H locs) (ha : M a = some (r, .inl (G.2.1 0, 11, .inl (rw11 v0 v1 v2 v3 v4 v5 v6 v7 v8 v9 v10)))) (hdg : decode cc pc = .ok (.iaload, 1)) (kk : W p l e R s m args below meth c H locs cells slots Q (F0 m (pc + 1) ls (.int v0 :: rest))) : W p l e R s m args below meth c H locs cells slots Q (F0 m pc ls (.int 0 :: .ref a :: rest)) :=
  g_iald hx hb hK hM ha (i := 0) (by unfold vp_in; decide) hdg (by rw [show rw11 v0 v1 v2 v3 v4 v5 v6 v7 v8 v9 v10 ((0 : Int32).toNatClampNeg) = v0 from congrArg (rw11 v0 v1 v2 v3 v4 v5 v6 v7 v8 v9 v10) (show (0 : Int32).toNatClampNeg = 0 by decide)]; exact kk)
theorem is11_0 {v0 v1 v2 v3 v4 v5 v6 v7 v8 v9 v10 x : Int32} (hx : p.tables.exec = Jvm.exec) (hb : c.code = cc) (hK : Kw G s) (hM : Wd G M s H locs) (ha : M a = some (r, .inl (G.2.1 0, 11, .inl (rw11 v0 v1 v2 v3 v4 v5 v6 v7 v8 v9 v10)))) (hdg : decode cc pc = .ok (.iastore, 1)) (kk : ∀ (H : Heap) (locs : List Loc), Wd G (hu M a r (.inl (G.2.1 0, 11, .inl (rw11 x v1 v2 v3 v4 v5 v6 v7 v8 v9 v10)))) s H locs → W p l e R s m args below meth c H locs cells slots Q (F0 m (pc + 1) ls rest)) : W p l e R s m args below meth c H locs cells slots Q (F0 m pc ls (.int x :: .int 0 :: .ref a :: rest)) :=
  g_iast hx hb hK hM ha (i := 0) (by unfold vp_in; decide) hdg (fun H locs hM => kk H locs (hM.eq (by rw [show (0 : Int32).toNatClampNeg = 0 by decide, ru11_0])))
theorem ia11_1 {v0 v1 v2 v3 v4 v5 v6 v7 v8 v9 v10 : Int32} (hx : p.tables.exec = Jvm.exec) (hb : c.code = cc) (hK : Kw G s) (hM : Wd G M s H locs) (ha : M a = some (r, .inl (G.2.1 0, 11, .inl (rw11 v0 v1 v2 v3 v4 v5 v6 v7 v8 v9 v10)))) (hdg : decode cc pc = .ok (.iaload, 1)) (kk : W p l e R s m args below meth c H locs cells slots Q (F0 m (pc + 1) ls (.int v1 :: rest))) : W p l e R s m args below meth c H locs cells slots Q (F0 m pc ls (.int 1 :: .ref a :: rest)) :=
  g_iald hx hb hK hM ha (i := 1) (by unfold vp_in; decide) hdg (by rw [show rw11 v0 v1 v2 v3 v4 v5 v6 v7 v8 v9 v10 ((1 : Int32).toNatClampNeg) = v1 from congrArg (rw11 v0 v1 v2 v3 v4 v5 v6 v7 v8 v9 v10) (show (1 : Int32).toNatClampNeg = 1 by decide)]; exact kk)
theorem is11_1 {v0 v1 v2 v3 v4 v5 v6 v7 v8 v9 v10 x : Int32} (hx : p.tables.exec = Jvm.exec) (hb : c.code = cc) (hK : Kw G s) (hM : Wd G M s H locs) (ha : M a = some (r, .inl (G.2.1 0, 11, .inl (rw11 v0 v1 v2 v3 v4 v5 v6 v7 v8 v9 v10)))) (hdg : decode cc pc = .ok (.iastore, 1)) (kk : ∀ (H : Heap) (locs : List Loc), Wd G (hu M a r (.inl (G.2.1 0, 11, .inl (rw11 v0 x v2 v3 v4 v5 v6 v7 v8 v9 v10)))) s H locs → W p l e R s m args below meth c H locs cells slots Q (F0 m (pc + 1) ls rest)) : W p l e R s m args below meth c H locs cells slots Q (F0 m pc ls (.int x :: .int 1 :: .ref a :: rest)) :=
  g_iast hx hb hK hM ha (i := 1) (by unfold vp_in; decide) hdg (fun H locs hM => kk H locs (hM.eq (by rw [show (1 : Int32).toNatClampNeg = 1 by decide, ru11_1])))
theorem ia11_2 {v0 v1 v2 v3 v4 v5 v6 v7 v8 v9 v10 : Int32} (hx : p.tables.exec = Jvm.exec) (hb : c.code = cc) (hK : Kw G s) (hM : Wd G M s H locs) (ha : M a = some (r, .inl (G.2.1 0, 11, .inl (rw11 v0 v1 v2 v3 v4 v5 v6 v7 v8 v9 v10)))) (hdg : decode cc pc = .ok (.iaload, 1)) (kk : W p l e R s m args below meth c H locs cells slots Q (F0 m (pc + 1) ls (.int v2 :: rest))) : W p l e R s m args below meth c H locs cells slots Q (F0 m pc ls (.int 2 :: .ref a :: rest)) :=
  g_iald hx hb hK hM ha (i := 2) (by unfold vp_in; decide) hdg (by rw [show rw11 v0 v1 v2 v3 v4 v5 v6 v7 v8 v9 v10 ((2 : Int32).toNatClampNeg) = v2 from congrArg (rw11 v0 v1 v2 v3 v4 v5 v6 v7 v8 v9 v10) (show (2 : Int32).toNatClampNeg = 2 by decide)]; exact kk)
theorem is11_2 {v0 v1 v2 v3 v4 v5 v6 v7 v8 v9 v10 x : Int32} (hx : p.tables.exec = Jvm.exec) (hb : c.code = cc) (hK : Kw G s) (hM : Wd G M s H locs) (ha : M a = some (r, .inl (G.2.1 0, 11, .inl (rw11 v0 v1 v2 v3 v4 v5 v6 v7 v8 v9 v10)))) (hdg : decode cc pc = .ok (.iastore, 1)) (kk : ∀ (H : Heap) (locs : List Loc), Wd G (hu M a r (.inl (G.2.1 0, 11, .inl (rw11 v0 v1 x v3 v4 v5 v6 v7 v8 v9 v10)))) s H locs → W p l e R s m args below meth c H locs cells slots Q (F0 m (pc + 1) ls rest)) : W p l e R s m args below meth c H locs cells slots Q (F0 m pc ls (.int x :: .int 2 :: .ref a :: rest)) :=
  g_iast hx hb hK hM ha (i := 2) (by unfold vp_in; decide) hdg (fun H locs hM => kk H locs (hM.eq (by rw [show (2 : Int32).toNatClampNeg = 2 by decide, ru11_2])))
theorem ia11_3 {v0 v1 v2 v3 v4 v5 v6 v7 v8 v9 v10 : Int32} (hx : p.tables.exec = Jvm.exec) (hb : c.code = cc) (hK : Kw G s) (hM : Wd G M s H locs) (ha : M a = some (r, .inl (G.2.1 0, 11, .inl (rw11 v0 v1 v2 v3 v4 v5 v6 v7 v8 v9 v10)))) (hdg : decode cc pc = .ok (.iaload, 1)) (kk : W p l e R s m args below meth c H locs cells slots Q (F0 m (pc + 1) ls (.int v3 :: rest))) : W p l e R s m args below meth c H locs cells slots Q (F0 m pc ls (.int 3 :: .ref a :: rest)) :=
  g_iald hx hb hK hM ha (i := 3) (by unfold vp_in; decide) hdg (by rw [show rw11 v0 v1 v2 v3 v4 v5 v6 v7 v8 v9 v10 ((3 : Int32).toNatClampNeg) = v3 from congrArg (rw11 v0 v1 v2 v3 v4 v5 v6 v7 v8 v9 v10) (show (3 : Int32).toNatClampNeg = 3 by decide)]; exact kk)
theorem is11_3 {v0 v1 v2 v3 v4 v5 v6 v7 v8 v9 v10 x : Int32} (hx : p.tables.exec = Jvm.exec) (hb : c.code = cc) (hK : Kw G s) (hM : Wd G M s H locs) (ha : M a = some (r, .inl (G.2.1 0, 11, .inl (rw11 v0 v1 v2 v3 v4 v5 v6 v7 v8 v9 v10)))) (hdg : decode cc pc = .ok (.iastore, 1)) (kk : ∀ (H : Heap) (locs : List Loc), Wd G (hu M a r (.inl (G.2.1 0, 11, .inl (rw11 v0 v1 v2 x v4 v5 v6 v7 v8 v9 v10)))) s H locs → W p l e R s m args below meth c H locs cells slots Q (F0 m (pc + 1) ls rest)) : W p l e R s m args below meth c H locs cells slots Q (F0 m pc ls (.int x :: .int 3 :: .ref a :: rest)) :=
  g_iast hx hb hK hM ha (i := 3) (by unfold vp_in; decide) hdg (fun H locs hM => kk H locs (hM.eq (by rw [show (3 : Int32).toNatClampNeg = 3 by decide, ru11_3])))
theorem ia11_4 {v0 v1 v2 v3 v4 v5 v6 v7 v8 v9 v10 : Int32} (hx : p.tables.exec = Jvm.exec) (hb : c.code = cc) (hK : Kw G s) (hM : Wd G M s H locs) (ha : M a = some (r, .inl (G.2.1 0, 11, .inl (rw11 v0 v1 v2 v3 v4 v5 v6 v7 v8 v9 v10)))) (hdg : decode cc pc = .ok (.iaload, 1)) (kk : W p l e R s m args below meth c H locs cells slots Q (F0 m (pc + 1) ls (.int v4 :: rest))) : W p l e R s m args below meth c H locs cells slots Q (F0 m pc ls (.int 4 :: .ref a :: rest)) :=
  g_iald hx hb hK hM ha (i := 4) (by unfold vp_in; decide) hdg (by rw [show rw11 v0 v1 v2 v3 v4 v5 v6 v7 v8 v9 v10 ((4 : Int32).toNatClampNeg) = v4 from congrArg (rw11 v0 v1 v2 v3 v4 v5 v6 v7 v8 v9 v10) (show (4 : Int32).toNatClampNeg = 4 by decide)]; exact kk)
theorem is11_4 {v0 v1 v2 v3 v4 v5 v6 v7 v8 v9 v10 x : Int32} (hx : p.tables.exec = Jvm.exec) (hb : c.code = cc) (hK : Kw G s) (hM : Wd G M s H locs) (ha : M a = some (r, .inl (G.2.1 0, 11, .inl (rw11 v0 v1 v2 v3 v4 v5 v6 v7 v8 v9 v10)))) (hdg : decode cc pc = .ok (.iastore, 1)) (kk : ∀ (H : Heap) (locs : List Loc), Wd G (hu M a r (.inl (G.2.1 0, 11, .inl (rw11 v0 v1 v2 v3 x v5 v6 v7 v8 v9 v10)))) s H locs → W p l e R s m args below meth c H locs cells slots Q (F0 m (pc + 1) ls rest)) : W p l e R s m args below meth c H locs cells slots Q (F0 m pc ls (.int x :: .int 4 :: .ref a :: rest)) :=
  g_iast hx hb hK hM ha (i := 4) (by unfold vp_in; decide) hdg (fun H locs hM => kk H locs (hM.eq (by rw [show (4 : Int32).toNatClampNeg = 4 by decide, ru11_4])))
theorem ia11_5 {v0 v1 v2 v3 v4 v5 v6 v7 v8 v9 v10 : Int32} (hx : p.tables.exec = Jvm.exec) (hb : c.code = cc) (hK : Kw G s) (hM : Wd G M s H locs) (ha : M a = some (r, .inl (G.2.1 0, 11, .inl (rw11 v0 v1 v2 v3 v4 v5 v6 v7 v8 v9 v10)))) (hdg : decode cc pc = .ok (.iaload, 1)) (kk : W p l e R s m args below meth c H locs cells slots Q (F0 m (pc + 1) ls (.int v5 :: rest))) : W p l e R s m args below meth c H locs cells slots Q (F0 m pc ls (.int 5 :: .ref a :: rest)) :=
  g_iald hx hb hK hM ha (i := 5) (by unfold vp_in; decide) hdg (by rw [show rw11 v0 v1 v2 v3 v4 v5 v6 v7 v8 v9 v10 ((5 : Int32).toNatClampNeg) = v5 from congrArg (rw11 v0 v1 v2 v3 v4 v5 v6 v7 v8 v9 v10) (show (5 : Int32).toNatClampNeg = 5 by decide)]; exact kk)
theorem is11_5 {v0 v1 v2 v3 v4 v5 v6 v7 v8 v9 v10 x : Int32} (hx : p.tables.exec = Jvm.exec) (hb : c.code = cc) (hK : Kw G s) (hM : Wd G M s H locs) (ha : M a = some (r, .inl (G.2.1 0, 11, .inl (rw11 v0 v1 v2 v3 v4 v5 v6 v7 v8 v9 v10)))) (hdg : decode cc pc = .ok (.iastore, 1)) (kk : ∀ (H : Heap) (locs : List Loc), Wd G (hu M a r (.inl (G.2.1 0, 11, .inl (rw11 v0 v1 v2 v3 v4 x v6 v7 v8 v9 v10)))) s H locs → W p l e R s m args below meth c H locs cells slots Q (F0 m (pc + 1) ls rest)) : W p l e R s m args below meth c H locs cells slots Q (F0 m pc ls (.int x :: .int 5 :: .ref a :: rest)) :=
  g_iast hx hb hK hM ha (i := 5) (by unfold vp_in; decide) hdg (fun H locs hM => kk H locs (hM.eq (by rw [show (5 : Int32).toNatClampNeg = 5 by decide, ru11_5])))
theorem ia11_6 {v0 v1 v2 v3 v4 v5 v6 v7 v8 v9 v10 : Int32} (hx : p.tables.exec = Jvm.exec) (hb : c.code = cc) (hK : Kw G s) (hM : Wd G M s H locs) (ha : M a = some (r, .inl (G.2.1 0, 11, .inl (rw11 v0 v1 v2 v3 v4 v5 v6 v7 v8 v9 v10)))) (hdg : decode cc pc = .ok (.iaload, 1)) (kk : W p l e R s m args below meth c H locs cells slots Q (F0 m (pc + 1) ls (.int v6 :: rest))) : W p l e R s m args below meth c H locs cells slots Q (F0 m pc ls (.int 6 :: .ref a :: rest)) :=
  g_iald hx hb hK hM ha (i := 6) (by unfold vp_in; decide) hdg (by rw [show rw11 v0 v1 v2 v3 v4 v5 v6 v7 v8 v9 v10 ((6 : Int32).toNatClampNeg) = v6 from congrArg (rw11 v0 v1 v2 v3 v4 v5 v6 v7 v8 v9 v10) (show (6 : Int32).toNatClampNeg = 6 by decide)]; exact kk)
theorem is11_6 {v0 v1 v2 v3 v4 v5 v6 v7 v8 v9 v10 x : Int32} (hx : p.tables.exec = Jvm.exec) (hb : c.code = cc) (hK : Kw G s) (hM : Wd G M s H locs) (ha : M a = some (r, .inl (G.2.1 0, 11, .inl (rw11 v0 v1 v2 v3 v4 v5 v6 v7 v8 v9 v10)))) (hdg : decode cc pc = .ok (.iastore, 1)) (kk : ∀ (H : Heap) (locs : List Loc), Wd G (hu M a r (.inl (G.2.1 0, 11, .inl (rw11 v0 v1 v2 v3 v4 v5 x v7 v8 v9 v10)))) s H locs → W p l e R s m args below meth c H locs cells slots Q (F0 m (pc + 1) ls rest)) : W p l e R s m args below meth c H locs cells slots Q (F0 m pc ls (.int x :: .int 6 :: .ref a :: rest)) :=
  g_iast hx hb hK hM ha (i := 6) (by unfold vp_in; decide) hdg (fun H locs hM => kk H locs (hM.eq (by rw [show (6 : Int32).toNatClampNeg = 6 by decide, ru11_6])))
theorem ia11_7 {v0 v1 v2 v3 v4 v5 v6 v7 v8 v9 v10 : Int32} (hx : p.tables.exec = Jvm.exec) (hb : c.code = cc) (hK : Kw G s) (hM : Wd G M s H locs) (ha : M a = some (r, .inl (G.2.1 0, 11, .inl (rw11 v0 v1 v2 v3 v4 v5 v6 v7 v8 v9 v10)))) (hdg : decode cc pc = .ok (.iaload, 1)) (kk : W p l e R s m args below meth c H locs cells slots Q (F0 m (pc + 1) ls (.int v7 :: rest))) : W p l e R s m args below meth c H locs cells slots Q (F0 m pc ls (.int 7 :: .ref a :: rest)) :=
  g_iald hx hb hK hM ha (i := 7) (by unfold vp_in; decide) hdg (by rw [show rw11 v0 v1 v2 v3 v4 v5 v6 v7 v8 v9 v10 ((7 : Int32).toNatClampNeg) = v7 from congrArg (rw11 v0 v1 v2 v3 v4 v5 v6 v7 v8 v9 v10) (show (7 : Int32).toNatClampNeg = 7 by decide)]; exact kk)
theorem is11_7 {v0 v1 v2 v3 v4 v5 v6 v7 v8 v9 v10 x : Int32} (hx : p.tables.exec = Jvm.exec) (hb : c.code = cc) (hK : Kw G s) (hM : Wd G M s H locs) (ha : M a = some (r, .inl (G.2.1 0, 11, .inl (rw11 v0 v1 v2 v3 v4 v5 v6 v7 v8 v9 v10)))) (hdg : decode cc pc = .ok (.iastore, 1)) (kk : ∀ (H : Heap) (locs : List Loc), Wd G (hu M a r (.inl (G.2.1 0, 11, .inl (rw11 v0 v1 v2 v3 v4 v5 v6 x v8 v9 v10)))) s H locs → W p l e R s m args below meth c H locs cells slots Q (F0 m (pc + 1) ls rest)) : W p l e R s m args below meth c H locs cells slots Q (F0 m pc ls (.int x :: .int 7 :: .ref a :: rest)) :=
  g_iast hx hb hK hM ha (i := 7) (by unfold vp_in; decide) hdg (fun H locs hM => kk H locs (hM.eq (by rw [show (7 : Int32).toNatClampNeg = 7 by decide, ru11_7])))
theorem ia11_8 {v0 v1 v2 v3 v4 v5 v6 v7 v8 v9 v10 : Int32} (hx : p.tables.exec = Jvm.exec) (hb : c.code = cc) (hK : Kw G s) (hM : Wd G M s H locs) (ha : M a = some (r, .inl (G.2.1 0, 11, .inl (rw11 v0 v1 v2 v3 v4 v5 v6 v7 v8 v9 v10)))) (hdg : decode cc pc = .ok (.iaload, 1)) (kk : W p l e R s m args below meth c H locs cells slots Q (F0 m (pc + 1) ls (.int v8 :: rest))) : W p l e R s m args below meth c H locs cells slots Q (F0 m pc ls (.int 8 :: .ref a :: rest)) :=
  g_iald hx hb hK hM ha (i := 8) (by unfold vp_in; decide) hdg (by rw [show rw11 v0 v1 v2 v3 v4 v5 v6 v7 v8 v9 v10 ((8 : Int32).toNatClampNeg) = v8 from congrArg (rw11 v0 v1 v2 v3 v4 v5 v6 v7 v8 v9 v10) (show (8 : Int32).toNatClampNeg = 8 by decide)]; exact kk)
theorem is11_8 {v0 v1 v2 v3 v4 v5 v6 v7 v8 v9 v10 x : Int32} (hx : p.tables.exec = Jvm.exec) (hb : c.code = cc) (hK : Kw G s) (hM : Wd G M s H locs) (ha : M a = some (r, .inl (G.2.1 0, 11, .inl (rw11 v0 v1 v2 v3 v4 v5 v6 v7 v8 v9 v10)))) (hdg : decode cc pc = .ok (.iastore, 1)) (kk : ∀ (H : Heap) (locs : List Loc), Wd G (hu M a r (.inl (G.2.1 0, 11, .inl (rw11 v0 v1 v2 v3 v4 v5 v6 v7 x v9 v10)))) s H locs → W p l e R s m args below meth c H locs cells slots Q (F0 m (pc + 1) ls rest)) : W p l e R s m args below meth c H locs cells slots Q (F0 m pc ls (.int x :: .int 8 :: .ref a :: rest)) :=
  g_iast hx hb hK hM ha (i := 8) (by unfold vp_in; decide) hdg (fun H locs hM => kk H locs (hM.eq (by rw [show (8 : Int32).toNatClampNeg = 8 by decide, ru11_8])))
theorem ia11_9 {v0 v1 v2 v3 v4 v5 v6 v7 v8 v9 v10 : Int32} (hx : p.tables.exec = Jvm.exec) (hb : c.code = cc) (hK : Kw G s) (hM : Wd G M s H locs) (ha : M a = some (r, .inl (G.2.1 0, 11, .inl (rw11 v0 v1 v2 v3 v4 v5 v6 v7 v8 v9 v10)))) (hdg : decode cc pc = .ok (.iaload, 1)) (kk : W p l e R s m args below meth c H locs cells slots Q (F0 m (pc + 1) ls (.int v9 :: rest))) : W p l e R s m args below meth c H locs cells slots Q (F0 m pc ls (.int 9 :: .ref a :: rest)) :=
  g_iald hx hb hK hM ha (i := 9) (by unfold vp_in; decide) hdg (by rw [show rw11 v0 v1 v2 v3 v4 v5 v6 v7 v8 v9 v10 ((9 : Int32).toNatClampNeg) = v9 from congrArg (rw11 v0 v1 v2 v3 v4 v5 v6 v7 v8 v9 v10) (show (9 : Int32).toNatClampNeg = 9 by decide)]; exact kk)
theorem is11_9 {v0 v1 v2 v3 v4 v5 v6 v7 v8 v9 v10 x : Int32} (hx : p.tables.exec = Jvm.exec) (hb : c.code = cc) (hK : Kw G s) (hM : Wd G M s H locs) (ha : M a = some (r, .inl (G.2.1 0, 11, .inl (rw11 v0 v1 v2 v3 v4 v5 v6 v7 v8 v9 v10)))) (hdg : decode cc pc = .ok (.iastore, 1)) (kk : ∀ (H : Heap) (locs : List Loc), Wd G (hu M a r (.inl (G.2.1 0, 11, .inl (rw11 v0 v1 v2 v3 v4 v5 v6 v7 v8 x v10)))) s H locs → W p l e R s m args below meth c H locs cells slots Q (F0 m (pc + 1) ls rest)) : W p l e R s m args below meth c H locs cells slots Q (F0 m pc ls (.int x :: .int 9 :: .ref a :: rest)) :=
  g_iast hx hb hK hM ha (i := 9) (by unfold vp_in; decide) hdg (fun H locs hM => kk H locs (hM.eq (by rw [show (9 : Int32).toNatClampNeg = 9 by decide, ru11_9])))
theorem ia11_10 {v0 v1 v2 v3 v4 v5 v6 v7 v8 v9 v10 : Int32} (hx : p.tables.exec = Jvm.exec) (hb : c.code = cc) (hK : Kw G s) (hM : Wd G M s H locs) (ha : M a = some (r, .inl (G.2.1 0, 11, .inl (rw11 v0 v1 v2 v3 v4 v5 v6 v7 v8 v9 v10)))) (hdg : decode cc pc = .ok (.iaload, 1)) (kk : W p l e R s m args below meth c H locs cells slots Q (F0 m (pc + 1) ls (.int v10 :: rest))) : W p l e R s m args below meth c H locs cells slots Q (F0 m pc ls (.int 10 :: .ref a :: rest)) :=
  g_iald hx hb hK hM ha (i := 10) (by unfold vp_in; decide) hdg (by rw [show rw11 v0 v1 v2 v3 v4 v5 v6 v7 v8 v9 v10 ((10 : Int32).toNatClampNeg) = v10 from congrArg (rw11 v0 v1 v2 v3 v4 v5 v6 v7 v8 v9 v10) (show (10 : Int32).toNatClampNeg = 10 by decide)]; exact kk)
theorem is11_10 {v0 v1 v2 v3 v4 v5 v6 v7 v8 v9 v10 x : Int32} (hx : p.tables.exec = Jvm.exec) (hb : c.code = cc) (hK : Kw G s) (hM : Wd G M s H locs) (ha : M a = some (r, .inl (G.2.1 0, 11, .inl (rw11 v0 v1 v2 v3 v4 v5 v6 v7 v8 v9 v10)))) (hdg : decode cc pc = .ok (.iastore, 1)) (kk : ∀ (H : Heap) (locs : List Loc), Wd G (hu M a r (.inl (G.2.1 0, 11, .inl (rw11 v0 v1 v2 v3 v4 v5 v6 v7 v8 v9 x)))) s H locs → W p l e R s m args below meth c H locs cells slots Q (F0 m (pc + 1) ls rest)) : W p l e R s m args below meth c H locs cells slots Q (F0 m pc ls (.int x :: .int 10 :: .ref a :: rest)) :=
  g_iast hx hb hK hM ha (i := 10) (by unfold vp_in; decide) hdg (fun H locs hM => kk H locs (hM.eq (by rw [show (10 : Int32).toNatClampNeg = 10 by decide, ru11_10])))
theorem ia13_0 {v0 v1 v2 v3 v4 v5 v6 v7 v8 v9 v10 v11 v12 : Int32} (hx : p.tables.exec = Jvm.exec) (hb : c.code = cc) (hK : Kw G s) (hM : Wd G M s H locs) (ha : M a = some (r, .inl (G.2.1 0, 13, .inl (rw13 v0 v1 v2 v3 v4 v5 v6 v7 v8 v9 v10 v11 v12)))) (hdg : decode cc pc = .ok (.iaload, 1)) (kk : W p l e R s m args below meth c H locs cells slots Q (F0 m (pc + 1) ls (.int v0 :: rest))) : W p l e R s m args below meth c H locs cells slots Q (F0 m pc ls (.int 0 :: .ref a :: rest)) :=
  g_iald hx hb hK hM ha (i := 0) (by unfold vp_in; decide) hdg (by rw [show rw13 v0 v1 v2 v3 v4 v5 v6 v7 v8 v9 v10 v11 v12 ((0 : Int32).toNatClampNeg) = v0 from congrArg (rw13 v0 v1 v2 v3 v4 v5 v6 v7 v8 v9 v10 v11 v12) (show (0 : Int32).toNatClampNeg = 0 by decide)]; exact kk)
theorem is13_0 {v0 v1 v2 v3 v4 v5 v6 v7 v8 v9 v10 v11 v12 x : Int32} (hx : p.tables.exec = Jvm.exec) (hb : c.code = cc) (hK : Kw G s) (hM : Wd G M s H locs) (ha : M a = some (r, .inl (G.2.1 0, 13, .inl (rw13 v0 v1 v2 v3 v4 v5 v6 v7 v8 v9 v10 v11 v12)))) (hdg : decode cc pc = .ok (.iastore, 1)) (kk : ∀ (H : Heap) (locs : List Loc), Wd G (hu M a r (.inl (G.2.1 0, 13, .inl (rw13 x v1 v2 v3 v4 v5 v6 v7 v8 v9 v10 v11 v12)))) s H locs → W p l e R s m args below meth c H locs cells slots Q (F0 m (pc + 1) ls rest)) : W p l e R s m args below meth c H locs cells slots Q (F0 m pc ls (.int x :: .int 0 :: .ref a :: rest)) :=
  g_iast hx hb hK hM ha (i := 0) (by unfold vp_in; decide) hdg (fun H locs hM => kk H locs (hM.eq (by rw [show (0 : Int32).toNatClampNeg = 0 by decide, ru13_0])))
theorem ia13_1 {v0 v1 v2 v3 v4 v5 v6 v7 v8 v9 v10 v11 v12 : Int32} (hx : p.tables.exec = Jvm.exec) (hb : c.code = cc) (hK : Kw G s) (hM : Wd G M s H locs) (ha : M a = some (r, .inl (G.2.1 0, 13, .inl (rw13 v0 v1 v2 v3 v4 v5 v6 v7 v8 v9 v10 v11 v12)))) (hdg : decode cc pc = .ok (.iaload, 1)) (kk : W p l e R s m args below meth c H locs cells slots Q (F0 m (pc + 1) ls (.int v1 :: rest))) : W p l e R s m args below meth c H locs cells slots Q (F0 m pc ls (.int 1 :: .ref a :: rest)) :=
  g_iald hx hb hK hM ha (i := 1) (by unfold vp_in; decide) hdg (by rw [show rw13 v0 v1 v2 v3 v4 v5 v6 v7 v8 v9 v10 v11 v12 ((1 : Int32).toNatClampNeg) = v1 from congrArg (rw13 v0 v1 v2 v3 v4 v5 v6 v7 v8 v9 v10 v11 v12) (show (1 : Int32).toNatClampNeg = 1 by decide)]; exact kk)
theorem is13_1 {v0 v1 v2 v3 v4 v5 v6 v7 v8 v9 v10 v11 v12 x : Int32} (hx : p.tables.exec = Jvm.exec) (hb : c.code = cc) (hK : Kw G s) (hM : Wd G M s H locs) (ha : M a = some (r, .inl (G.2.1 0, 13, .inl (rw13 v0 v1 v2 v3 v4 v5 v6 v7 v8 v9 v10 v11 v12)))) (hdg : decode cc pc = .ok (.iastore, 1)) (kk : ∀ (H : Heap) (locs : List Loc), Wd G (hu M a r (.inl (G.2.1 0, 13, .inl (rw13 v0 x v2 v3 v4 v5 v6 v7 v8 v9 v10 v11 v12)))) s H locs → W p l e R s m args below meth c H locs cells slots Q (F0 m (pc + 1) ls rest)) : W p l e R s m args below meth c H locs cells slots Q (F0 m pc ls (.int x :: .int 1 :: .ref a :: rest)) :=
  g_iast hx hb hK hM ha (i := 1) (by unfold vp_in; decide) hdg (fun H locs hM => kk H locs (hM.eq (by rw [show (1 : Int32).toNatClampNeg = 1 by decide, ru13_1])))
theorem ia13_2 {v0 v1 v2 v3 v4 v5 v6 v7 v8 v9 v10 v11 v12 : Int32} (hx : p.tables.exec = Jvm.exec) (hb : c.code = cc) (hK : Kw G s) (hM : Wd G M s H locs) (ha : M a = some (r, .inl (G.2.1 0, 13, .inl (rw13 v0 v1 v2 v3 v4 v5 v6 v7 v8 v9 v10 v11 v12)))) (hdg : decode cc pc = .ok (.iaload, 1)) (kk : W p l e R s m args below meth c H locs cells slots Q (F0 m (pc + 1) ls (.int v2 :: rest))) : W p l e R s m args below meth c H locs cells slots Q (F0 m pc ls (.int 2 :: .ref a :: rest)) :=
  g_iald hx hb hK hM ha (i := 2) (by unfold vp_in; decide) hdg (by rw [show rw13 v0 v1 v2 v3 v4 v5 v6 v7 v8 v9 v10 v11 v12 ((2 : Int32).toNatClampNeg) = v2 from congrArg (rw13 v0 v1 v2 v3 v4 v5 v6 v7 v8 v9 v10 v11 v12) (show (2 : Int32).toNatClampNeg = 2 by decide)]; exact kk)
theorem is13_2 {v0 v1 v2 v3 v4 v5 v6 v7 v8 v9 v10 v11 v12 x : Int32} (hx : p.tables.exec = Jvm.exec) (hb : c.code = cc) (hK : Kw G s) (hM : Wd G M s H locs) (ha : M a = some (r, .inl (G.2.1 0, 13, .inl (rw13 v0 v1 v2 v3 v4 v5 v6 v7 v8 v9 v10 v11 v12)))) (hdg : decode cc pc = .ok (.iastore, 1)) (kk : ∀ (H : Heap) (locs : List Loc), Wd G (hu M a r (.inl (G.2.1 0, 13, .inl (rw13 v0 v1 x v3 v4 v5 v6 v7 v8 v9 v10 v11 v12)))) s H locs → W p l e R s m args below meth c H locs cells slots Q (F0 m (pc + 1) ls rest)) : W p l e R s m args below meth c H locs cells slots Q (F0 m pc ls (.int x :: .int 2 :: .ref a :: rest)) :=
  g_iast hx hb hK hM ha (i := 2) (by unfold vp_in; decide) hdg (fun H locs hM => kk H locs (hM.eq (by rw [show (2 : Int32).toNatClampNeg = 2 by decide, ru13_2])))
theorem ia13_3 {v0 v1 v2 v3 v4 v5 v6 v7 v8 v9 v10 v11 v12 : Int32} (hx : p.tables.exec = Jvm.exec) (hb : c.code = cc) (hK : Kw G s) (hM : Wd G M s H locs) (ha : M a = some (r, .inl (G.2.1 0, 13, .inl (rw13 v0 v1 v2 v3 v4 v5 v6 v7 v8 v9 v10 v11 v12)))) (hdg : decode cc pc = .ok (.iaload, 1)) (kk : W p l e R s m args below meth c H locs cells slots Q (F0 m (pc + 1) ls (.int v3 :: rest))) : W p l e R s m args below meth c H locs cells slots Q (F0 m pc ls (.int 3 :: .ref a :: rest)) :=
  g_iald hx hb hK hM ha (i := 3) (by unfold vp_in; decide) hdg (by rw [show rw13 v0 v1 v2 v3 v4 v5 v6 v7 v8 v9 v10 v11 v12 ((3 : Int32).toNatClampNeg) = v3 from congrArg (rw13 v0 v1 v2 v3 v4 v5 v6 v7 v8 v9 v10 v11 v12) (show (3 : Int32).toNatClampNeg = 3 by decide)]; exact kk)
theorem is13_3 {v0 v1 v2 v3 v4 v5 v6 v7 v8 v9 v10 v11 v12 x : Int32} (hx : p.tables.exec = Jvm.exec) (hb : c.code = cc) (hK : Kw G s) (hM : Wd G M s H locs) (ha : M a = some (r, .inl (G.2.1 0, 13, .inl (rw13 v0 v1 v2 v3 v4 v5 v6 v7 v8 v9 v10 v11 v12)))) (hdg : decode cc pc = .ok (.iastore, 1)) (kk : ∀ (H : Heap) (locs : List Loc), Wd G (hu M a r (.inl (G.2.1 0, 13, .inl (rw13 v0 v1 v2 x v4 v5 v6 v7 v8 v9 v10 v11 v12)))) s H locs → W p l e R s m args below meth c H locs cells slots Q (F0 m (pc + 1) ls rest)) : W p l e R s m args below meth c H locs cells slots Q (F0 m pc ls (.int x :: .int 3 :: .ref a :: rest)) :=
  g_iast hx hb hK hM ha (i := 3) (by unfold vp_in; decide) hdg (fun H locs hM => kk H locs (hM.eq (by rw [show (3 : Int32).toNatClampNeg = 3 by decide, ru13_3])))
theorem ia13_4 {v0 v1 v2 v3 v4 v5 v6 v7 v8 v9 v10 v11 v12 : Int32} (hx : p.tables.exec = Jvm.exec) (hb : c.code = cc) (hK : Kw G s) (hM : Wd G M s H locs) (ha : M a = some (r, .inl (G.2.1 0, 13, .inl (rw13 v0 v1 v2 v3 v4 v5 v6 v7 v8 v9 v10 v11 v12)))) (hdg : decode cc pc = .ok (.iaload, 1)) (kk : W p l e R s m args below meth c H locs cells slots Q (F0 m (pc + 1) ls (.int v4 :: rest))) : W p l e R s m args below meth c H locs cells slots Q (F0 m pc ls (.int 4 :: .ref a :: rest)) :=
  g_iald hx hb hK hM ha (i := 4) (by unfold vp_in; decide) hdg (by rw [show rw13 v0 v1 v2 v3 v4 v5 v6 v7 v8 v9 v10 v11 v12 ((4 : Int32).toNatClampNeg) = v4 from congrArg (rw13 v0 v1 v2 v3 v4 v5 v6 v7 v8 v9 v10 v11 v12) (show (4 : Int32).toNatClampNeg = 4 by decide)]; exact kk)
theorem is13_4 {v0 v1 v2 v3 v4 v5 v6 v7 v8 v9 v10 v11 v12 x : Int32} (hx : p.tables.exec = Jvm.exec) (hb : c.code = cc) (hK : Kw G s) (hM : Wd G M s H locs) (ha : M a = some (r, .inl (G.2.1 0, 13, .inl (rw13 v0 v1 v2 v3 v4 v5 v6 v7 v8 v9 v10 v11 v12)))) (hdg : decode cc pc = .ok (.iastore, 1)) (kk : ∀ (H : Heap) (locs : List Loc), Wd G (hu M a r (.inl (G.2.1 0, 13, .inl (rw13 v0 v1 v2 v3 x v5 v6 v7 v8 v9 v10 v11 v12)))) s H locs → W p l e R s m args below meth c H locs cells slots Q (F0 m (pc + 1) ls rest)) : W p l e R s m args below meth c H locs cells slots Q (F0 m pc ls (.int x :: .int 4 :: .ref a :: rest)) :=
  g_iast hx hb hK hM ha (i := 4) (by unfold vp_in; decide) hdg (fun H locs hM => kk H locs (hM.eq (by rw [show (4 : Int32).toNatClampNeg = 4 by decide, ru13_4])))
theorem ia13_5 {v0 v1 v2 v3 v4 v5 v6 v7 v8 v9 v10 v11 v12 : Int32} (hx : p.tables.exec = Jvm.exec) (hb : c.code = cc) (hK : Kw G s) (hM : Wd G M s H locs) (ha : M a = some (r, .inl (G.2.1 0, 13, .inl (rw13 v0 v1 v2 v3 v4 v5 v6 v7 v8 v9 v10 v11 v12)))) (hdg : decode cc pc = .ok (.iaload, 1)) (kk : W p l e R s m args below meth c H locs cells slots Q (F0 m (pc + 1) ls (.int v5 :: rest))) : W p l e R s m args below meth c H locs cells slots Q (F0 m pc ls (.int 5 :: .ref a :: rest)) :=
  g_iald hx hb hK hM ha (i := 5) (by unfold vp_in; decide) hdg (by rw [show rw13 v0 v1 v2 v3 v4 v5 v6 v7 v8 v9 v10 v11 v12 ((5 : Int32).toNatClampNeg) = v5 from congrArg (rw13 v0 v1 v2 v3 v4 v5 v6 v7 v8 v9 v10 v11 v12) (show (5 : Int32).toNatClampNeg = 5 by decide)]; exact kk)
theorem is13_5 {v0 v1 v2 v3 v4 v5 v6 v7 v8 v9 v10 v11 v12 x : Int32} (hx : p.tables.exec = Jvm.exec) (hb : c.code = cc) (hK : Kw G s) (hM : Wd G M s H locs) (ha : M a = some (r, .inl (G.2.1 0, 13, .inl (rw13 v0 v1 v2 v3 v4 v5 v6 v7 v8 v9 v10 v11 v12)))) (hdg : decode cc pc = .ok (.iastore, 1)) (kk : ∀ (H : Heap) (locs : List Loc), Wd G (hu M a r (.inl (G.2.1 0, 13, .inl (rw13 v0 v1 v2 v3 v4 x v6 v7 v8 v9 v10 v11 v12)))) s H locs → W p l e R s m args below meth c H locs cells slots Q (F0 m (pc + 1) ls rest)) : W p l e R s m args below meth c H locs cells slots Q (F0 m pc ls (.int x :: .int 5 :: .ref a :: rest)) :=
  g_iast hx hb hK hM ha (i := 5) (by unfold vp_in; decide) hdg (fun H locs hM => kk H locs (hM.eq (by rw [show (5 : Int32).toNatClampNeg = 5 by decide, ru13_5])))
theorem ia13_6 {v0 v1 v2 v3 v4 v5 v6 v7 v8 v9 v10 v11 v12 : Int32} (hx : p.tables.exec = Jvm.exec) (hb : c.code = cc) (hK : Kw G s) (hM : Wd G M s H locs) (ha : M a = some (r, .inl (G.2.1 0, 13, .inl (rw13 v0 v1 v2 v3 v4 v5 v6 v7 v8 v9 v10 v11 v12)))) (hdg : decode cc pc = .ok (.iaload, 1)) (kk : W p l e R s m args below meth c H locs cells slots Q (F0 m (pc + 1) ls (.int v6 :: rest))) : W p l e R s m args below meth c H locs cells slots Q (F0 m pc ls (.int 6 :: .ref a :: rest)) :=
  g_iald hx hb hK hM ha (i := 6) (by unfold vp_in; decide) hdg (by rw [show rw13 v0 v1 v2 v3 v4 v5 v6 v7 v8 v9 v10 v11 v12 ((6 : Int32).toNatClampNeg) = v6 from congrArg (rw13 v0 v1 v2 v3 v4 v5 v6 v7 v8 v9 v10 v11 v12) (show (6 : Int32).toNatClampNeg = 6 by decide)]; exact kk)
theorem is13_6 {v0 v1 v2 v3 v4 v5 v6 v7 v8 v9 v10 v11 v12 x : Int32} (hx : p.tables.exec = Jvm.exec) (hb : c.code = cc) (hK : Kw G s) (hM : Wd G M s H locs) (ha : M a = some (r, .inl (G.2.1 0, 13, .inl (rw13 v0 v1 v2 v3 v4 v5 v6 v7 v8 v9 v10 v11 v12)))) (hdg : decode cc pc = .ok (.iastore, 1)) (kk : ∀ (H : Heap) (locs : List Loc), Wd G (hu M a r (.inl (G.2.1 0, 13, .inl (rw13 v0 v1 v2 v3 v4 v5 x v7 v8 v9 v10 v11 v12)))) s H locs → W p l e R s m args below meth c H locs cells slots Q (F0 m (pc + 1) ls rest)) : W p l e R s m args below meth c H locs cells slots Q (F0 m pc ls (.int x :: .int 6 :: .ref a :: rest)) :=
  g_iast hx hb hK hM ha (i := 6) (by unfold vp_in; decide) hdg (fun H locs hM => kk H locs (hM.eq (by rw [show (6 : Int32).toNatClampNeg = 6 by decide, ru13_6])))
theorem ia13_7 {v0 v1 v2 v3 v4 v5 v6 v7 v8 v9 v10 v11 v12 : Int32} (hx : p.tables.exec = Jvm.exec) (hb : c.code = cc) (hK : Kw G s) (hM : Wd G M s H locs) (ha : M a = some (r, .inl (G.2.1 0, 13, .inl (rw13 v0 v1 v2 v3 v4 v5 v6 v7 v8 v9 v10 v11 v12)))) (hdg : decode cc pc = .ok (.iaload, 1)) (kk : W p l e R s m args below meth c H locs cells slots Q (F0 m (pc + 1) ls (.int v7 :: rest))) : W p l e R s m args below meth c H locs cells slots Q (F0 m pc ls (.int 7 :: .ref a :: rest)) :=
  g_iald hx hb hK hM ha (i := 7) (by unfold vp_in; decide) hdg (by rw [show rw13 v0 v1 v2 v3 v4 v5 v6 v7 v8 v9 v10 v11 v12 ((7 : Int32).toNatClampNeg) = v7 from congrArg (rw13 v0 v1 v2 v3 v4 v5 v6 v7 v8 v9 v10 v11 v12) (show (7 : Int32).toNatClampNeg = 7 by decide)]; exact kk)
theorem is13_7 {v0 v1 v2 v3 v4 v5 v6 v7 v8 v9 v10 v11 v12 x : Int32} (hx : p.tables.exec = Jvm.exec) (hb : c.code = cc) (hK : Kw G s) (hM : Wd G M s H locs) (ha : M a = some (r, .inl (G.2.1 0, 13, .inl (rw13 v0 v1 v2 v3 v4 v5 v6 v7 v8 v9 v10 v11 v12)))) (hdg : decode cc pc = .ok (.iastore, 1)) (kk : ∀ (H : Heap) (locs : List Loc), Wd G (hu M a r (.inl (G.2.1 0, 13, .inl (rw13 v0 v1 v2 v3 v4 v5 v6 x v8 v9 v10 v11 v12)))) s H locs → W p l e R s m args below meth c H locs cells slots Q (F0 m (pc + 1) ls rest)) : W p l e R s m args below meth c H locs cells slots Q (F0 m pc ls (.int x :: .int 7 :: .ref a :: rest)) :=
  g_iast hx hb hK hM ha (i := 7) (by unfold vp_in; decide) hdg (fun H locs hM => kk H locs (hM.eq (by rw [show (7 : Int32).toNatClampNeg = 7 by decide, ru13_7])))
theorem ia13_8 {v0 v1 v2 v3 v4 v5 v6 v7 v8 v9 v10 v11 v12 : Int32} (hx : p.tables.exec = Jvm.exec) (hb : c.code = cc) (hK : Kw G s) (hM : Wd G M s H locs) (ha : M a = some (r, .inl (G.2.1 0, 13, .inl (rw13 v0 v1 v2 v3 v4 v5 v6 v7 v8 v9 v10 v11 v12)))) (hdg : decode cc pc = .ok (.iaload, 1)) (kk : W p l e R s m args below meth c H locs cells slots Q (F0 m (pc + 1) ls (.int v8 :: rest))) : W p l e R s m args below meth c H locs cells slots Q (F0 m pc ls (.int 8 :: .ref a :: rest)) :=
  g_iald hx hb hK hM ha (i := 8) (by unfold vp_in; decide) hdg (by rw [show rw13 v0 v1 v2 v3 v4 v5 v6 v7 v8 v9 v10 v11 v12 ((8 : Int32).toNatClampNeg) = v8 from congrArg (rw13 v0 v1 v2 v3 v4 v5 v6 v7 v8 v9 v10 v11 v12) (show (8 : Int32).toNatClampNeg = 8 by decide)]; exact kk)
theorem is13_8 {v0 v1 v2 v3 v4 v5 v6 v7 v8 v9 v10 v11 v12 x : Int32} (hx : p.tables.exec = Jvm.exec) (hb : c.code = cc) (hK : Kw G s) (hM : Wd G M s H locs) (ha : M a = some (r, .inl (G.2.1 0, 13, .inl (rw13 v0 v1 v2 v3 v4 v5 v6 v7 v8 v9 v10 v11 v12)))) (hdg : decode cc pc = .ok (.iastore, 1)) (kk : ∀ (H : Heap) (locs : List Loc), Wd G (hu M a r (.inl (G.2.1 0, 13, .inl (rw13 v0 v1 v2 v3 v4 v5 v6 v7 x v9 v10 v11 v12)))) s H locs → W p l e R s m args below meth c H locs cells slots Q (F0 m (pc + 1) ls rest)) : W p l e R s m args below meth c H locs cells slots Q (F0 m pc ls (.int x :: .int 8 :: .ref a :: rest)) :=
  g_iast hx hb hK hM ha (i := 8) (by unfold vp_in; decide) hdg (fun H locs hM => kk H locs (hM.eq (by rw [show (8 : Int32).toNatClampNeg = 8 by decide, ru13_8])))
theorem ia13_9 {v0 v1 v2 v3 v4 v5 v6 v7 v8 v9 v10 v11 v12 : Int32} (hx : p.tables.exec = Jvm.exec) (hb : c.code = cc) (hK : Kw G s) (hM : Wd G M s H locs) (ha : M a = some (r, .inl (G.2.1 0, 13, .inl (rw13 v0 v1 v2 v3 v4 v5 v6 v7 v8 v9 v10 v11 v12)))) (hdg : decode cc pc = .ok (.iaload, 1)) (kk : W p l e R s m args below meth c H locs cells slots Q (F0 m (pc + 1) ls (.int v9 :: rest))) : W p l e R s m args below meth c H locs cells slots Q (F0 m pc ls (.int 9 :: .ref a :: rest)) :=
  g_iald hx hb hK hM ha (i := 9) (by unfold vp_in; decide) hdg (by rw [show rw13 v0 v1 v2 v3 v4 v5 v6 v7 v8 v9 v10 v11 v12 ((9 : Int32).toNatClampNeg) = v9 from congrArg (rw13 v0 v1 v2 v3 v4 v5 v6 v7 v8 v9 v10 v11 v12) (show (9 : Int32).toNatClampNeg = 9 by decide)]; exact kk)
theorem is13_9 {v0 v1 v2 v3 v4 v5 v6 v7 v8 v9 v10 v11 v12 x : Int32} (hx : p.tables.exec = Jvm.exec) (hb : c.code = cc) (hK : Kw G s) (hM : Wd G M s H locs) (ha : M a = some (r, .inl (G.2.1 0, 13, .inl (rw13 v0 v1 v2 v3 v4 v5 v6 v7 v8 v9 v10 v11 v12)))) (hdg : decode cc pc = .ok (.iastore, 1)) (kk : ∀ (H : Heap) (locs : List Loc), Wd G (hu M a r (.inl (G.2.1 0, 13, .inl (rw13 v0 v1 v2 v3 v4 v5 v6 v7 v8 x v10 v11 v12)))) s H locs → W p l e R s m args below meth c H locs cells slots Q (F0 m (pc + 1) ls rest)) : W p l e R s m args below meth c H locs cells slots Q (F0 m pc ls (.int x :: .int 9 :: .ref a :: rest)) :=
  g_iast hx hb hK hM ha (i := 9) (by unfold vp_in; decide) hdg (fun H locs hM => kk H locs (hM.eq (by rw [show (9 : Int32).toNatClampNeg = 9 by decide, ru13_9])))
theorem ia13_10 {v0 v1 v2 v3 v4 v5 v6 v7 v8 v9 v10 v11 v12 : Int32} (hx : p.tables.exec = Jvm.exec) (hb : c.code = cc) (hK : Kw G s) (hM : Wd G M s H locs) (ha : M a = some (r, .inl (G.2.1 0, 13, .inl (rw13 v0 v1 v2 v3 v4 v5 v6 v7 v8 v9 v10 v11 v12)))) (hdg : decode cc pc = .ok (.iaload, 1)) (kk : W p l e R s m args below meth c H locs cells slots Q (F0 m (pc + 1) ls (.int v10 :: rest))) : W p l e R s m args below meth c H locs cells slots Q (F0 m pc ls (.int 10 :: .ref a :: rest)) :=
  g_iald hx hb hK hM ha (i := 10) (by unfold vp_in; decide) hdg (by rw [show rw13 v0 v1 v2 v3 v4 v5 v6 v7 v8 v9 v10 v11 v12 ((10 : Int32).toNatClampNeg) = v10 from congrArg (rw13 v0 v1 v2 v3 v4 v5 v6 v7 v8 v9 v10 v11 v12) (show (10 : Int32).toNatClampNeg = 10 by decide)]; exact kk)
theorem is13_10 {v0 v1 v2 v3 v4 v5 v6 v7 v8 v9 v10 v11 v12 x : Int32} (hx : p.tables.exec = Jvm.exec) (hb : c.code = cc) (hK : Kw G s) (hM : Wd G M s H locs) (ha : M a = some (r, .inl (G.2.1 0, 13, .inl (rw13 v0 v1 v2 v3 v4 v5 v6 v7 v8 v9 v10 v11 v12)))) (hdg : decode cc pc = .ok (.iastore, 1)) (kk : ∀ (H : Heap) (locs : List Loc), Wd G (hu M a r (.inl (G.2.1 0, 13, .inl (rw13 v0 v1 v2 v3 v4 v5 v6 v7 v8 v9 x v11 v12)))) s H locs → W p l e R s m args below meth c H locs cells slots Q (F0 m (pc + 1) ls rest)) : W p l e R s m args below meth c H locs cells slots Q (F0 m pc ls (.int x :: .int 10 :: .ref a :: rest)) :=
  g_iast hx hb hK hM ha (i := 10) (by unfold vp_in; decide) hdg (fun H locs hM => kk H locs (hM.eq (by rw [show (10 : Int32).toNatClampNeg = 10 by decide, ru13_10])))
theorem ia13_11 {v0 v1 v2 v3 v4 v5 v6 v7 v8 v9 v10 v11 v12 : Int32} (hx : p.tables.exec = Jvm.exec) (hb : c.code = cc) (hK : Kw G s) (hM : Wd G M s H locs) (ha : M a = some (r, .inl (G.2.1 0, 13, .inl (rw13 v0 v1 v2 v3 v4 v5 v6 v7 v8 v9 v10 v11 v12)))) (hdg : decode cc pc = .ok (.iaload, 1)) (kk : W p l e R s m args below meth c H locs cells slots Q (F0 m (pc + 1) ls (.int v11 :: rest))) : W p l e R s m args below meth c H locs cells slots Q (F0 m pc ls (.int 11 :: .ref a :: rest)) :=
  g_iald hx hb hK hM ha (i := 11) (by unfold vp_in; decide) hdg (by rw [show rw13 v0 v1 v2 v3 v4 v5 v6 v7 v8 v9 v10 v11 v12 ((11 : Int32).toNatClampNeg) = v11 from congrArg (rw13 v0 v1 v2 v3 v4 v5 v6 v7 v8 v9 v10 v11 v12) (show (11 : Int32).toNatClampNeg = 11 by decide)]; exact kk)
theorem is13_11 {v0 v1 v2 v3 v4 v5 v6 v7 v8 v9 v10 v11 v12 x : Int32} (hx : p.tables.exec = Jvm.exec) (hb : c.code = cc) (hK : Kw G s) (hM : Wd G M s H locs) (ha : M a = some (r, .inl (G.2.1 0, 13, .inl (rw13 v0 v1 v2 v3 v4 v5 v6 v7 v8 v9 v10 v11 v12)))) (hdg : decode cc pc = .ok (.iastore, 1)) (kk : ∀ (H : Heap) (locs : List Loc), Wd G (hu M a r (.inl (G.2.1 0, 13, .inl (rw13 v0 v1 v2 v3 v4 v5 v6 v7 v8 v9 v10 x v12)))) s H locs → W p l e R s m args below meth c H locs cells slots Q (F0 m (pc + 1) ls rest)) : W p l e R s m args below meth c H locs cells slots Q (F0 m pc ls (.int x :: .int 11 :: .ref a :: rest)) :=
  g_iast hx hb hK hM ha (i := 11) (by unfold vp_in; decide) hdg (fun H locs hM => kk H locs (hM.eq (by rw [show (11 : Int32).toNatClampNeg = 11 by decide, ru13_11])))
theorem ia13_12 {v0 v1 v2 v3 v4 v5 v6 v7 v8 v9 v10 v11 v12 : Int32} (hx : p.tables.exec = Jvm.exec) (hb : c.code = cc) (hK : Kw G s) (hM : Wd G M s H locs) (ha : M a = some (r, .inl (G.2.1 0, 13, .inl (rw13 v0 v1 v2 v3 v4 v5 v6 v7 v8 v9 v10 v11 v12)))) (hdg : decode cc pc = .ok (.iaload, 1)) (kk : W p l e R s m args below meth c H locs cells slots Q (F0 m (pc + 1) ls (.int v12 :: rest))) : W p l e R s m args below meth c H locs cells slots Q (F0 m pc ls (.int 12 :: .ref a :: rest)) :=
  g_iald hx hb hK hM ha (i := 12) (by unfold vp_in; decide) hdg (by rw [show rw13 v0 v1 v2 v3 v4 v5 v6 v7 v8 v9 v10 v11 v12 ((12 : Int32).toNatClampNeg) = v12 from congrArg (rw13 v0 v1 v2 v3 v4 v5 v6 v7 v8 v9 v10 v11 v12) (show (12 : Int32).toNatClampNeg = 12 by decide)]; exact kk)
theorem is13_12 {v0 v1 v2 v3 v4 v5 v6 v7 v8 v9 v10 v11 v12 x : Int32} (hx : p.tables.exec = Jvm.exec) (hb : c.code = cc) (hK : Kw G s) (hM : Wd G M s H locs) (ha : M a = some (r, .inl (G.2.1 0, 13, .inl (rw13 v0 v1 v2 v3 v4 v5 v6 v7 v8 v9 v10 v11 v12)))) (hdg : decode cc pc = .ok (.iastore, 1)) (kk : ∀ (H : Heap) (locs : List Loc), Wd G (hu M a r (.inl (G.2.1 0, 13, .inl (rw13 v0 v1 v2 v3 v4 v5 v6 v7 v8 v9 v10 v11 x)))) s H locs → W p l e R s m args below meth c H locs cells slots Q (F0 m (pc + 1) ls rest)) : W p l e R s m args below meth c H locs cells slots Q (F0 m pc ls (.int x :: .int 12 :: .ref a :: rest)) :=
  g_iast hx hb hK hM ha (i := 12) (by unfold vp_in; decide) hdg (fun H locs hM => kk H locs (hM.eq (by rw [show (12 : Int32).toNatClampNeg = 12 by decide, ru13_12])))
end GF
end

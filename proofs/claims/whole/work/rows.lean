section
-- ===== PART A: goes FIRST, ahead of the names: the tables' words, and 'selects' of the private methods out of them =====
/-- a private method of a class that the tables say can be made, by its rows of tables_1 -/
def lw_okq (q : MethodName × Nat) : Prop := (q.1.cls ≠ "java/lang/invoke/MethodHandle" ∧ q.1.cls ≠ "java/lang/invoke/VarHandle") ∧ Cond.instantiable q.1.cls q.2 ∈ tables_1 ∧ Cond.privateMethod q.1 ∈ tables_1 ∧ Cond.instanceMethod q.1 ∈ tables_1
theorem lw_p0 : lw_okq (⟨"java/lang/Throwable", "fillInStackTrace", "(I)Ljava/lang/Throwable;"⟩, 6) := ⟨⟨by decide +kernel, by decide +kernel⟩, List.mem_of_getElem? (i := 258) (by decide +kernel), List.mem_of_getElem? (i := 256) (by decide +kernel), List.mem_of_getElem? (i := 257) (by decide +kernel)⟩
theorem lw_p1 : lw_okq (⟨"WheatRun$Field", "ripen", "(I)V"⟩, 13) := ⟨⟨by decide +kernel, by decide +kernel⟩, List.mem_of_getElem? (i := 102) (by decide +kernel), List.mem_of_getElem? (i := 371) (by decide +kernel), List.mem_of_getElem? (i := 372) (by decide +kernel)⟩
theorem lw_p2 : lw_okq (⟨"WheatRun$Field", "soakOrDry", "(II)V"⟩, 13) := ⟨⟨by decide +kernel, by decide +kernel⟩, List.mem_of_getElem? (i := 102) (by decide +kernel), List.mem_of_getElem? (i := 378) (by decide +kernel), List.mem_of_getElem? (i := 379) (by decide +kernel)⟩
theorem lw_p3 : lw_okq (⟨"WheatRun$Field", "shatter", "(II)V"⟩, 13) := ⟨⟨by decide +kernel, by decide +kernel⟩, List.mem_of_getElem? (i := 102) (by decide +kernel), List.mem_of_getElem? (i := 385) (by decide +kernel), List.mem_of_getElem? (i := 386) (by decide +kernel)⟩
theorem lw_p4 : lw_okq (⟨"WheatRun", "bushelsIfSent", "(IIIII)I"⟩, 3) := ⟨⟨by decide +kernel, by decide +kernel⟩, List.mem_of_getElem? (i := 26) (by decide +kernel), List.mem_of_getElem? (i := 415) (by decide +kernel), List.mem_of_getElem? (i := 416) (by decide +kernel)⟩
theorem lw_p5 : lw_okq (⟨"WheatRun$Land", "addRowsAs", "(LWheatRun$Land;)V"⟩, 9) := ⟨⟨by decide +kernel, by decide +kernel⟩, List.mem_of_getElem? (i := 34) (by decide +kernel), List.mem_of_getElem? (i := 423) (by decide +kernel), List.mem_of_getElem? (i := 424) (by decide +kernel)⟩
theorem lw_p6 : lw_okq (⟨"java/util/ArrayList", "add", "(Ljava/lang/Object;[Ljava/lang/Object;I)V"⟩, 3) := ⟨⟨by decide +kernel, by decide +kernel⟩, List.mem_of_getElem? (i := 40) (by decide +kernel), List.mem_of_getElem? (i := 432) (by decide +kernel), List.mem_of_getElem? (i := 433) (by decide +kernel)⟩
theorem lw_p7 : lw_okq (⟨"java/util/ArrayList", "grow", "()[Ljava/lang/Object;"⟩, 3) := ⟨⟨by decide +kernel, by decide +kernel⟩, List.mem_of_getElem? (i := 40) (by decide +kernel), List.mem_of_getElem? (i := 436) (by decide +kernel), List.mem_of_getElem? (i := 437) (by decide +kernel)⟩
theorem lw_p8 : lw_okq (⟨"java/util/ArrayList", "grow", "(I)[Ljava/lang/Object;"⟩, 3) := ⟨⟨by decide +kernel, by decide +kernel⟩, List.mem_of_getElem? (i := 40) (by decide +kernel), List.mem_of_getElem? (i := 440) (by decide +kernel), List.mem_of_getElem? (i := 441) (by decide +kernel)⟩
theorem lw_p9 : lw_okq (⟨"WheatRun$Combine", "acresAtOnce", "(LWheatRun$Field;)I"⟩, 12) := ⟨⟨by decide +kernel, by decide +kernel⟩, List.mem_of_getElem? (i := 483) (by decide +kernel), List.mem_of_getElem? (i := 660) (by decide +kernel), List.mem_of_getElem? (i := 661) (by decide +kernel)⟩
theorem lw_p10 : lw_okq (⟨"WheatRun$Combine", "holdsAnother", "()Z"⟩, 12) := ⟨⟨by decide +kernel, by decide +kernel⟩, List.mem_of_getElem? (i := 483) (by decide +kernel), List.mem_of_getElem? (i := 668) (by decide +kernel), List.mem_of_getElem? (i := 669) (by decide +kernel)⟩
theorem lw_p11 : lw_okq (⟨"WheatRun$Combine", "harvest", "(LWheatRun$Field;I)V"⟩, 12) := ⟨⟨by decide +kernel, by decide +kernel⟩, List.mem_of_getElem? (i := 483) (by decide +kernel), List.mem_of_getElem? (i := 672) (by decide +kernel), List.mem_of_getElem? (i := 673) (by decide +kernel)⟩
theorem lw_p12 : lw_okq (⟨"WheatRun$Combine", "metered", "(I)I"⟩, 12) := ⟨⟨by decide +kernel, by decide +kernel⟩, List.mem_of_getElem? (i := 483) (by decide +kernel), List.mem_of_getElem? (i := 676) (by decide +kernel), List.mem_of_getElem? (i := 677) (by decide +kernel)⟩
theorem lw_p13 : lw_okq (⟨"WheatRun$Land", "passTruckHour", "(LWheatRun$Truck;)V"⟩, 9) := ⟨⟨by decide +kernel, by decide +kernel⟩, List.mem_of_getElem? (i := 34) (by decide +kernel), List.mem_of_getElem? (i := 681) (by decide +kernel), List.mem_of_getElem? (i := 682) (by decide +kernel)⟩
theorem lw_p14 : lw_okq (⟨"WheatRun$Land", "unload", "(LWheatRun$Truck;LWheatRun$Elevator;)V"⟩, 9) := ⟨⟨by decide +kernel, by decide +kernel⟩, List.mem_of_getElem? (i := 34) (by decide +kernel), List.mem_of_getElem? (i := 712) (by decide +kernel), List.mem_of_getElem? (i := 713) (by decide +kernel)⟩
theorem lw_p15 : lw_okq (⟨"WheatRun$Elevator", "isOpen", "(I)Z"⟩, 6) := ⟨⟨by decide +kernel, by decide +kernel⟩, List.mem_of_getElem? (i := 602) (by decide +kernel), List.mem_of_getElem? (i := 720) (by decide +kernel), List.mem_of_getElem? (i := 721) (by decide +kernel)⟩
def lw_privs_1 : List (MethodName × Nat) := [(⟨"java/lang/Throwable", "fillInStackTrace", "(I)Ljava/lang/Throwable;"⟩, 6), (⟨"WheatRun$Field", "ripen", "(I)V"⟩, 13), (⟨"WheatRun$Field", "soakOrDry", "(II)V"⟩, 13), (⟨"WheatRun$Field", "shatter", "(II)V"⟩, 13), (⟨"WheatRun", "bushelsIfSent", "(IIIII)I"⟩, 3), (⟨"WheatRun$Land", "addRowsAs", "(LWheatRun$Land;)V"⟩, 9), (⟨"java/util/ArrayList", "add", "(Ljava/lang/Object;[Ljava/lang/Object;I)V"⟩, 3), (⟨"java/util/ArrayList", "grow", "()[Ljava/lang/Object;"⟩, 3), (⟨"java/util/ArrayList", "grow", "(I)[Ljava/lang/Object;"⟩, 3), (⟨"WheatRun$Combine", "acresAtOnce", "(LWheatRun$Field;)I"⟩, 12), (⟨"WheatRun$Combine", "holdsAnother", "()Z"⟩, 12), (⟨"WheatRun$Combine", "harvest", "(LWheatRun$Field;I)V"⟩, 12), (⟨"WheatRun$Combine", "metered", "(I)I"⟩, 12), (⟨"WheatRun$Land", "passTruckHour", "(LWheatRun$Truck;)V"⟩, 9), (⟨"WheatRun$Land", "unload", "(LWheatRun$Truck;LWheatRun$Elevator;)V"⟩, 9), (⟨"WheatRun$Elevator", "isOpen", "(I)Z"⟩, 6)]
theorem lw_r1 : ∀ q ∈ lw_privs_1, lw_okq q := List.forall_mem_cons.mpr ⟨lw_p0, List.forall_mem_cons.mpr ⟨lw_p1, List.forall_mem_cons.mpr ⟨lw_p2, List.forall_mem_cons.mpr ⟨lw_p3, List.forall_mem_cons.mpr ⟨lw_p4, List.forall_mem_cons.mpr ⟨lw_p5, List.forall_mem_cons.mpr ⟨lw_p6, List.forall_mem_cons.mpr ⟨lw_p7, List.forall_mem_cons.mpr ⟨lw_p8, List.forall_mem_cons.mpr ⟨lw_p9, List.forall_mem_cons.mpr ⟨lw_p10, List.forall_mem_cons.mpr ⟨lw_p11, List.forall_mem_cons.mpr ⟨lw_p12, List.forall_mem_cons.mpr ⟨lw_p13, List.forall_mem_cons.mpr ⟨lw_p14, List.forall_mem_cons.mpr ⟨lw_p15, fun _ h => absurd h List.not_mem_nil⟩⟩⟩⟩⟩⟩⟩⟩⟩⟩⟩⟩⟩⟩⟩⟩
theorem lw_p16 : lw_okq (⟨"WheatRun$Land", "writeTicket", "(LWheatRun$Truck;LWheatRun$Elevator;)V"⟩, 9) := ⟨⟨by decide +kernel, by decide +kernel⟩, List.mem_of_getElem? (i := 34) (by decide +kernel), List.mem_of_getElem? (i := 724) (by decide +kernel), List.mem_of_getElem? (i := 725) (by decide +kernel)⟩
theorem lw_p17 : lw_okq (⟨"WheatRunModel", "no", "(I)I"⟩, 6) := ⟨⟨by decide +kernel, by decide +kernel⟩, List.mem_of_getElem? (i := 968) (by decide +kernel), List.mem_of_getElem? (i := 1056) (by decide +kernel), List.mem_of_getElem? (i := 1057) (by decide +kernel)⟩
theorem lw_p18 : lw_okq (⟨"WheatRunModel", "isField", "(I)Z"⟩, 6) := ⟨⟨by decide +kernel, by decide +kernel⟩, List.mem_of_getElem? (i := 968) (by decide +kernel), List.mem_of_getElem? (i := 1068) (by decide +kernel), List.mem_of_getElem? (i := 1069) (by decide +kernel)⟩
theorem lw_p19 : lw_okq (⟨"WheatRunModel", "isCombine", "(I)Z"⟩, 6) := ⟨⟨by decide +kernel, by decide +kernel⟩, List.mem_of_getElem? (i := 968) (by decide +kernel), List.mem_of_getElem? (i := 1092) (by decide +kernel), List.mem_of_getElem? (i := 1093) (by decide +kernel)⟩
theorem lw_p20 : lw_okq (⟨"WheatRunModel", "isTruck", "(I)Z"⟩, 6) := ⟨⟨by decide +kernel, by decide +kernel⟩, List.mem_of_getElem? (i := 968) (by decide +kernel), List.mem_of_getElem? (i := 1104) (by decide +kernel), List.mem_of_getElem? (i := 1105) (by decide +kernel)⟩
theorem lw_p21 : lw_okq (⟨"WheatRunModel", "send", "(IIII)I"⟩, 6) := ⟨⟨by decide +kernel, by decide +kernel⟩, List.mem_of_getElem? (i := 968) (by decide +kernel), List.mem_of_getElem? (i := 1108) (by decide +kernel), List.mem_of_getElem? (i := 1109) (by decide +kernel)⟩
theorem lw_p22 : lw_okq (⟨"WheatRunModel", "isElevator", "(I)Z"⟩, 6) := ⟨⟨by decide +kernel, by decide +kernel⟩, List.mem_of_getElem? (i := 968) (by decide +kernel), List.mem_of_getElem? (i := 1117) (by decide +kernel), List.mem_of_getElem? (i := 1118) (by decide +kernel)⟩
theorem lw_p23 : lw_okq (⟨"WheatRunModel$Land", "work", "(I[II)V"⟩, 10) := ⟨⟨by decide +kernel, by decide +kernel⟩, List.mem_of_getElem? (i := 974) (by decide +kernel), List.mem_of_getElem? (i := 1162) (by decide +kernel), List.mem_of_getElem? (i := 1163) (by decide +kernel)⟩
theorem lw_p24 : lw_okq (⟨"WheatRunModel$Land", "drive", "([I)V"⟩, 10) := ⟨⟨by decide +kernel, by decide +kernel⟩, List.mem_of_getElem? (i := 974) (by decide +kernel), List.mem_of_getElem? (i := 1174) (by decide +kernel), List.mem_of_getElem? (i := 1175) (by decide +kernel)⟩
theorem lw_p25 : lw_okq (⟨"WheatRunModel$Land", "sell", "([I[I)V"⟩, 10) := ⟨⟨by decide +kernel, by decide +kernel⟩, List.mem_of_getElem? (i := 974) (by decide +kernel), List.mem_of_getElem? (i := 1182) (by decide +kernel), List.mem_of_getElem? (i := 1183) (by decide +kernel)⟩
theorem lw_p26 : lw_okq (⟨"WheatRunModel$Land", "isOpen", "([I)Z"⟩, 10) := ⟨⟨by decide +kernel, by decide +kernel⟩, List.mem_of_getElem? (i := 974) (by decide +kernel), List.mem_of_getElem? (i := 1186) (by decide +kernel), List.mem_of_getElem? (i := 1187) (by decide +kernel)⟩
theorem lw_p27 : lw_okq (⟨"WheatRunModel", "pay", "([I)V"⟩, 6) := ⟨⟨by decide +kernel, by decide +kernel⟩, List.mem_of_getElem? (i := 968) (by decide +kernel), List.mem_of_getElem? (i := 1205) (by decide +kernel), List.mem_of_getElem? (i := 1206) (by decide +kernel)⟩
theorem lw_p28 : lw_okq (⟨"WheatRunModel", "fieldNow", "(II)I"⟩, 6) := ⟨⟨by decide +kernel, by decide +kernel⟩, List.mem_of_getElem? (i := 968) (by decide +kernel), List.mem_of_getElem? (i := 1213) (by decide +kernel), List.mem_of_getElem? (i := 1214) (by decide +kernel)⟩
theorem lw_p29 : lw_okq (⟨"WheatRunModel", "combineNow", "(II)I"⟩, 6) := ⟨⟨by decide +kernel, by decide +kernel⟩, List.mem_of_getElem? (i := 968) (by decide +kernel), List.mem_of_getElem? (i := 1225) (by decide +kernel), List.mem_of_getElem? (i := 1226) (by decide +kernel)⟩
theorem lw_p30 : lw_okq (⟨"WheatRunModel", "truckNow", "(II)I"⟩, 6) := ⟨⟨by decide +kernel, by decide +kernel⟩, List.mem_of_getElem? (i := 968) (by decide +kernel), List.mem_of_getElem? (i := 1233) (by decide +kernel), List.mem_of_getElem? (i := 1234) (by decide +kernel)⟩
theorem lw_p31 : lw_okq (⟨"WheatRunModel", "manyNow", "(I)I"⟩, 6) := ⟨⟨by decide +kernel, by decide +kernel⟩, List.mem_of_getElem? (i := 968) (by decide +kernel), List.mem_of_getElem? (i := 1249) (by decide +kernel), List.mem_of_getElem? (i := 1250) (by decide +kernel)⟩
def lw_privs_2 : List (MethodName × Nat) := [(⟨"WheatRun$Land", "writeTicket", "(LWheatRun$Truck;LWheatRun$Elevator;)V"⟩, 9), (⟨"WheatRunModel", "no", "(I)I"⟩, 6), (⟨"WheatRunModel", "isField", "(I)Z"⟩, 6), (⟨"WheatRunModel", "isCombine", "(I)Z"⟩, 6), (⟨"WheatRunModel", "isTruck", "(I)Z"⟩, 6), (⟨"WheatRunModel", "send", "(IIII)I"⟩, 6), (⟨"WheatRunModel", "isElevator", "(I)Z"⟩, 6), (⟨"WheatRunModel$Land", "work", "(I[II)V"⟩, 10), (⟨"WheatRunModel$Land", "drive", "([I)V"⟩, 10), (⟨"WheatRunModel$Land", "sell", "([I[I)V"⟩, 10), (⟨"WheatRunModel$Land", "isOpen", "([I)Z"⟩, 10), (⟨"WheatRunModel", "pay", "([I)V"⟩, 6), (⟨"WheatRunModel", "fieldNow", "(II)I"⟩, 6), (⟨"WheatRunModel", "combineNow", "(II)I"⟩, 6), (⟨"WheatRunModel", "truckNow", "(II)I"⟩, 6), (⟨"WheatRunModel", "manyNow", "(I)I"⟩, 6)]
theorem lw_r2 : ∀ q ∈ lw_privs_2, lw_okq q := List.forall_mem_cons.mpr ⟨lw_p16, List.forall_mem_cons.mpr ⟨lw_p17, List.forall_mem_cons.mpr ⟨lw_p18, List.forall_mem_cons.mpr ⟨lw_p19, List.forall_mem_cons.mpr ⟨lw_p20, List.forall_mem_cons.mpr ⟨lw_p21, List.forall_mem_cons.mpr ⟨lw_p22, List.forall_mem_cons.mpr ⟨lw_p23, List.forall_mem_cons.mpr ⟨lw_p24, List.forall_mem_cons.mpr ⟨lw_p25, List.forall_mem_cons.mpr ⟨lw_p26, List.forall_mem_cons.mpr ⟨lw_p27, List.forall_mem_cons.mpr ⟨lw_p28, List.forall_mem_cons.mpr ⟨lw_p29, List.forall_mem_cons.mpr ⟨lw_p30, List.forall_mem_cons.mpr ⟨lw_p31, fun _ h => absurd h List.not_mem_nil⟩⟩⟩⟩⟩⟩⟩⟩⟩⟩⟩⟩⟩⟩⟩⟩
theorem lw_p32 : lw_okq (⟨"WheatRunModel", "readyNow", "(III)I"⟩, 6) := ⟨⟨by decide +kernel, by decide +kernel⟩, List.mem_of_getElem? (i := 968) (by decide +kernel), List.mem_of_getElem? (i := 1261) (by decide +kernel), List.mem_of_getElem? (i := 1262) (by decide +kernel)⟩
theorem lw_p33 : lw_okq (⟨"WheatRunModel", "nextNow", "(IIII)I"⟩, 6) := ⟨⟨by decide +kernel, by decide +kernel⟩, List.mem_of_getElem? (i := 968) (by decide +kernel), List.mem_of_getElem? (i := 1270) (by decide +kernel), List.mem_of_getElem? (i := 1271) (by decide +kernel)⟩
theorem lw_p34 : lw_okq (⟨"WheatRunModel", "waitingNow", "(IIIII)I"⟩, 6) := ⟨⟨by decide +kernel, by decide +kernel⟩, List.mem_of_getElem? (i := 968) (by decide +kernel), List.mem_of_getElem? (i := 1285) (by decide +kernel), List.mem_of_getElem? (i := 1286) (by decide +kernel)⟩
def lw_privs_3 : List (MethodName × Nat) := [(⟨"WheatRunModel", "readyNow", "(III)I"⟩, 6), (⟨"WheatRunModel", "nextNow", "(IIII)I"⟩, 6), (⟨"WheatRunModel", "waitingNow", "(IIIII)I"⟩, 6)]
theorem lw_r3 : ∀ q ∈ lw_privs_3, lw_okq q := List.forall_mem_cons.mpr ⟨lw_p32, List.forall_mem_cons.mpr ⟨lw_p33, List.forall_mem_cons.mpr ⟨lw_p34, fun _ h => absurd h List.not_mem_nil⟩⟩⟩
def lw_privs : List (MethodName × Nat) := lw_privs_1 ++ (lw_privs_2 ++ (lw_privs_3))
def lw_tbl : List Cond := k2_sels lw_privs ++ tables_1
theorem lw_privs_ok : ∀ q ∈ lw_privs, lw_okq q := by
  show ∀ q ∈ lw_privs_1 ++ (lw_privs_2 ++ (lw_privs_3)), lw_okq q
  exact List.forall_mem_append.mpr ⟨lw_r1, List.forall_mem_append.mpr ⟨lw_r2, lw_r3⟩⟩
/-- the streams that the claim lets the run draw from -/
abbrev lw_cs : List Choice := [Jvm.Choice.named "NaN.bits"]
theorem lw_bits : nanBits ∈ lw_cs := by first | decide | exact List.mem_cons_self | simp [lw_cs, nanBits]
-- ===== end of PART A; then your names; then what follows =====
/-! ===== BEGIN words of one list among another's, by their places ===== -/
theorem goodIn_r {big : List Cond} (ws : List Cond) (ps : List Nat) (hp : ws = ps.filterMap (fun i => big[i]?)) (h : ws.all goodWord = true) : GoodIn big ws := by
  intro w hw
  have h1 := List.all_eq_true.mp h w hw
  rw [hp] at hw
  obtain ⟨i, -, hi⟩ := List.mem_filterMap.mp hw
  have hm : w ∈ big := by first | exact List.mem_of_getElem? hi | exact List.getElem?_mem hi
  exact ⟨hm, good_of_word h1⟩
theorem goodIn_app {big a b : List Cond} (ha : GoodIn big a) (hb : GoodIn big b) : GoodIn big (a ++ b) := fun w h => (List.mem_append.mp h).elim (ha w) (hb w)
theorem goodIn_ca {big a b : List Cond} {c : Cond} (ha : GoodIn big (c :: a)) (hb : GoodIn big b) : GoodIn big (c :: (a ++ b)) := fun w h => (List.mem_cons.mp h).elim (fun e => ha w (List.mem_cons.mpr (Or.inl e))) (fun h => (List.mem_append.mp h).elim (fun h => ha w (List.mem_cons.mpr (Or.inr h))) (hb w))
theorem goodIn_sub {big ws : List Cond} (hm : ∀ w ∈ ws, w ∈ big) (h : ws.all goodWord = true) : GoodIn big ws := fun w hw => ⟨hm w hw, good_of_word (List.all_eq_true.mp h w hw)⟩
/-! ===== END ===== -/

/-! ===== BEGIN exceptions that leave a method, and their catching by the caller (launches without stack traces) ===== -/
section VXA
/-! The laws vx_back, vx_callV, vx_callS, vx_callSW, vx_throw0, vx_throwS follow proofs of the library, with one case more: JvmDerived/Free/Laws.lean (Back.of_free), Shelf42/LK1.lean (callV, callS), Shelf/KitTraced.lean (throwNew0V, throwNewS). -/
/-- where a method has thrown q: the class by its name, the cell, what was written, the world -/
def vx_T (XC : String → State → State → Prop) (st : State) (q : Addr) (t : State) (mc ms : Nat) (free : Addr → Prop) : Prop :=
  ∃ (E : String) (ce : Cell) (L : List Loc), XC E st t ∧ t.heap[q]? = some ce ∧ ce.vm = .none ∧ st.vm.findClass E = some ce.cls ∧ st.WarmedH t.vm ∧ st.sameButNew ({ t with vm := st.vm } : State) L mc ms ∧ ∀ z ∈ L, free z.base
def vx_Q (Qc : Array Value → State → Outcome → State → Prop) (XC : String → State → State → Prop) (mc ms : Nat) (free : Addr → Prop) : Array Value → State → Outcome → State → Prop := fun a st o t =>
  (Qc a st o t ∧ ∃ L, FrameEnd st o t L mc ms ∧ ∀ q ∈ L, free q.base) ∨ ∃ q, o = .threw q ∧ vx_T XC st q t mc ms free
/-- a callee that returns or throws -/
def vx_Met (l : Launch) (y : MethodName) (ws : List Cond) (rm : Room) (Pc : Array Value → State → Prop) (Qc : Array Value → State → Outcome → State → Prop) (XC : String → State → State → Prop) (mc ms : Nat) (free : Addr → Prop) : Prop :=
  MetFree l y (headSpec ws rm) Pc (fun _ _ _ _ _ => True) (vx_Q Qc XC mc ms free)
def vx_Post (XC : String → State → State → Prop) (mc ms : Nat) (free : Addr → Prop) : Pt → Array Value → Addr → Pt → Prop := fun A a q B =>
  ∃ (g : JFrame) (mk : MethodId) (t : State) (L : List Loc) (E : String) (ce : Cell), B.U.heap = t.heap ∧ B.U.vm = t.vm ∧ XC E (A.U.calling g mk a) t ∧ t.heap[q]? = some ce ∧ ce.vm = .none ∧ A.U.vm.findClass E = some ce.cls ∧ B.locs = A.locs ++ L ∧ (∀ z ∈ L, free z.base) ∧ B.cells = A.cells + mc ∧ B.slots = A.slots + ms
def vx_Back (l : Launch) (R : Room) (p : Program) (e : Env) (below : List Frame) (s : State) (sargs : Array Value) (y : MethodName) (len W9 : Nat)
    (Pre : Pt → Array Value → Prop) (Post : Pt → Array Value → Option Value → Pt → Prop) (PostX : Pt → Array Value → Addr → Pt → Prop) : Prop :=
  ∀ (m : MethodId) (meth : Method) (c : Code) (A : Pt) (g : JFrame) (ig : Instr) (mk : MethodId) (a : Array Value),
    Stand p l e R s m sargs below meth c A.U A.locs A.cells A.slots → g.method = m → g.locals.size = c.maxLocals → decode c.code g.pc = .ok (ig, len) →
    2 * g.monitorRoom + (g.stack.map fun v => v.category).sum ≤ W9 → A.U.methodNamed? y = some mk → Pre A a →
    (∃ (v : Option Value) (B : Pt), Stand p l e R s m sargs below meth c B.U B.locs B.cells B.slots ∧ Post A a v B ∧
      Steps p.tables e below (doInvoke e (A.U.setTop g) [] mk a).1 (B.U.setTop { g with pc := g.pc + len, stack := v.toList ++ g.stack })) ∨
    (∃ (q : Addr) (B : Pt), Stand p l e R s m sargs below meth c B.U B.locs B.cells B.slots ∧ PostX A a q B ∧
      Steps p.tables e below (doInvoke e (A.U.setTop g) [] mk a).1 ((B.U.setTop g).pushFrame (.throwing q)))
section Payer
variable {l : Launch} {R : Room} {p : Program} {e : Env} {below : List Frame} {s : State} {sargs : Array Value} {y : MethodName} {len W9 : Nat}
theorem vx_back {ws : List Cond} {rm : Room} {Pc : Array Value → State → Prop} {Qc : Array Value → State → Outcome → State → Prop} {XC : String → State → State → Prop} {mc ms : Nat} {free : Addr → Prop} {bytes : ByteArray} {maxL : Nat} {ret : Option FieldType}
    (hM : vx_Met l y ws rm Pc Qc XC mc ms free) (hblind : FrameBlind Pc) (hrc : rm.cells = mc) (hrs : rm.slots = ms)
    (hframes : rm.frames + 1 ≤ R.frames) (hlocals : W9 + (maxL + 11) + rm.locals ≤ R.locals)
    (hws : ∀ w ∈ ws, ∀ a' U, s.WarmedH U.vm → w.before a' U = true) (hcode : Cond.code y bytes maxL ret ∈ ws) (hinit : ∀ a' U, s.WarmedH U.vm → (Cond.initialized y.cls).before a' U = true) :
    vx_Back l R p e below s sargs y len W9 (PreOf R mc ms Pc) (PostOf Qc mc ms free) (vx_Post XC mc ms free) := by
  intro m meth c A g ig mk a X hg hsize hdg hW hn hp
  have h1 : (headSpec ws rm).pre.before a A.U = true := atoms_intro fun w hw => hws w hw _ _ X.warmed
  have h2 : (Cond.code y bytes maxL ret).before a A.U = true := hws _ hcode _ _ X.warmed
  have h3 : (Cond.initialized y.cls).before a A.U = true := hinit _ _ X.warmed
  have h4 : A.cells + (headSpec ws rm).room.cells ≤ R.cells := by rw [show (headSpec ws rm).room.cells = mc from hrc]; exact hp.1
  have h5 : A.slots + (headSpec ws rm).room.slots ≤ R.slots := by rw [show (headSpec ws rm).room.slots = ms from hrs]; exact hp.2.1
  have hPc : Pc a (A.U.calling g mk a) := hblind _ _ _ _ hp.2.2
  obtain ⟨U, Ls, c0, s0⟩ := A
  dsimp only [Pt.U, Pt.locs, Pt.cells, Pt.slots] at h1 h2 h3 h4 h5 X hn hPc ⊢
  obtain ⟨methY, cY, hmY, hcY, -, hlY, -, -, -, -⟩ := Cond.code_spec hn h2
  obtain ⟨kY, hkY, -⟩ := className_of_methodNamed hn
  have hinitY : kY.init = .initialized := Cond.initialized_spec (findClass_of_methodNamed hn) hkY h3
  have h : At U g.method c below := by rw [hg]; exact X.here
  have hlocals9 : W9 + (maxL + 11) + (headSpec ws rm).room.locals ≤ R.locals := hlocals
  have happ : (headSpec ws rm).appliesLoose y e.platform (U.calling g mk a) = true :=
    Spec.appliesLoose_calling (g := g) h hdg hn hkY hinitY
      (X.room_calling (g := g) (R' := (headSpec ws rm).room) hsize hmY hcY hframes (by rw [hlY]; omega) h4 h5) h1
  obtain ⟨mid, hmid⟩ := h.above
  have hfr : (U.setTop g).frames = (.java g :: mid) ++ below := by rw [State.frames_setTop' g h.top, hmid]; rfl
  obtain ⟨o, s₂, hsteps, -, hend, hq⟩ := Steps.callFree hM p X.admits X.cas X.clock (acts := []) hfr happ hPc trivial
  have hq' : vx_Q Qc XC mc ms free a (U.calling g mk a) o s₂ := hq
  rw [State.frames_setTop' g h.top] at hend
  obtain ⟨g₀, hg0⟩ := Option.isSome_iff_exists.mp h.top
  obtain ⟨r, hr⟩ := State.topJava?_eq_some.mp hg0
  have hr' : (({ U with heap := s₂.heap, slotsUsed := s₂.slotsUsed } : State).setVm s₂.vm).frames = .java g₀ :: r := hr
  rcases hq' with ⟨hqc, L, hfe, hL⟩ | ⟨q, rfl, E, ce, L, hx, hce, hcv, hcl, hW₂, hsm, hL⟩
  · obtain ⟨⟨v, rfl⟩, hW₂, e2, q2, q3, q4, q5, q6⟩ := id hfe
    have e3 : s₂ = ({ (U.calling g mk a).setFrames s₂.frames with heap := s₂.heap, slotsUsed := s₂.slotsUsed } : State).setVm s₂.vm := by
      have : s₂ = ({ s₂ with vm := (U.calling g mk a).vm } : State).setVm s₂.vm := rfl
      rw [e2] at this
      exact this
    obtain ⟨c₂, i₂, len₂, hc₂, hd₂, hf₂⟩ := hend
    have hW' : U.WarmedH s₂.vm := hW₂
    have hcc : c₂ = c := by
      have h1 : s₂.code? g.method = U.code? g.method := by
        rw [State.code?_eq, State.code?_eq, hW'.alike.method?]
      exact Option.some.inj (hc₂.symm.trans (h1.trans h.code))
    subst hcc
    have hlen : len₂ = len := by rw [hdg] at hd₂; cases hd₂; rfl
    subst hlen
    have hs₂ : s₂ = (({ U with heap := s₂.heap, slotsUsed := s₂.slotsUsed } : State).setVm s₂.vm).setTop { g with pc := g.pc + len₂, stack := v.toList ++ g.stack } := by
      refine e3.trans ?_
      rw [hf₂, State.calling_eq h.top, State.setFrames_setFrames, State.setTop_of_frames _ hr', hr]
      rfl
    have hsame : U.sameButNew ({ U with heap := s₂.heap, slotsUsed := s₂.slotsUsed } : State) L mc ms := by
      refine ⟨?_, q2, q3, q4, q5, q6⟩
      obtain ⟨t, ht, -⟩ := State.frames_cons hr
      show ({ U with heap := s₂.heap, slotsUsed := s₂.slotsUsed } : State) = { U.setFrames U.frames with heap := s₂.heap, slotsUsed := s₂.slotsUsed }
      rw [State.setFrames_self ht]
    subst hg
    refine Or.inl ⟨v, ⟨(({ U with heap := s₂.heap, slotsUsed := s₂.slotsUsed } : State).setVm s₂.vm), Ls ++ L, c0 + mc, s0 + ms⟩,
      ⟨X.admits, X.cas, X.clock, X.frames, X.room, X.hears, X.method, X.code, (X.here.setHeapUsed s₂.heap s₂.slotsUsed).setVm hW'.alike, X.tail, State.WarmedH.trans X.warmed hW', X.limits, X.bytes, X.same.trans (hsame.setVm s.vm)⟩,
      ⟨g, mk, s₂, L, rfl, rfl, hqc, rfl, hL, rfl, rfl⟩, ?_⟩
    show Steps p.tables e below _ ((({ U with heap := s₂.heap, slotsUsed := s₂.slotsUsed } : State).setVm s₂.vm).setTop { g with pc := g.pc + len₂, stack := v.toList ++ g.stack })
    rw [← hs₂]
    exact hsteps
  · obtain ⟨e2, q2, q3, q4, q5, q6⟩ := id hsm
    have e3 : s₂ = ({ (U.calling g mk a).setFrames s₂.frames with heap := s₂.heap, slotsUsed := s₂.slotsUsed } : State).setVm s₂.vm := by
      have : s₂ = ({ s₂ with vm := (U.calling g mk a).vm } : State).setVm s₂.vm := rfl
      rw [e2] at this
      exact this
    have hf₂ : s₂.frames = .throwing q :: .java g :: U.frames.tail := hend
    have hW' : U.WarmedH s₂.vm := hW₂
    have hs₂ : s₂ = ((({ U with heap := s₂.heap, slotsUsed := s₂.slotsUsed } : State).setVm s₂.vm).setTop g).pushFrame (.throwing q) := by
      refine e3.trans ?_
      rw [hf₂, State.calling_eq h.top, State.setFrames_setFrames, State.pushFrame, State.frames_setTop _ hr', State.setTop_of_frames _ hr', State.setFrames_setFrames, hr]
      rfl
    have hsame : U.sameButNew ({ U with heap := s₂.heap, slotsUsed := s₂.slotsUsed } : State) L mc ms := by
      refine ⟨?_, q2, q3, q4, q5, q6⟩
      obtain ⟨t, ht, -⟩ := State.frames_cons hr
      show ({ U with heap := s₂.heap, slotsUsed := s₂.slotsUsed } : State) = { U.setFrames U.frames with heap := s₂.heap, slotsUsed := s₂.slotsUsed }
      rw [State.setFrames_self ht]
    subst hg
    refine Or.inr ⟨q, ⟨(({ U with heap := s₂.heap, slotsUsed := s₂.slotsUsed } : State).setVm s₂.vm), Ls ++ L, c0 + mc, s0 + ms⟩,
      ⟨X.admits, X.cas, X.clock, X.frames, X.room, X.hears, X.method, X.code, (X.here.setHeapUsed s₂.heap s₂.slotsUsed).setVm hW'.alike, X.tail, State.WarmedH.trans X.warmed hW', X.limits, X.bytes, X.same.trans (hsame.setVm s.vm)⟩,
      ⟨g, mk, s₂, L, E, ce, rfl, rfl, hx, hce, hcv, hcl, rfl, hL, rfl, rfl⟩, ?_⟩
    show Steps p.tables e below _ (((({ U with heap := s₂.heap, slotsUsed := s₂.slotsUsed } : State).setVm s₂.vm).setTop g).pushFrame (.throwing q))
    rw [← hs₂]
    exact hsteps
end Payer
section Calls
variable {p : Program} {l : Launch} {e : Env} {R : Room} {s : State} {m : MethodId} {args : Array Value} {below : List Frame} {meth : Method} {c : Code} {T : State} {locs : List Loc} {cells slots : Nat}
theorem vx_callV (X : Stand p l e R s m args below meth c T locs cells slots) (hexec : p.tables.exec = Jvm.exec) {own C : String} {index : Nat} {y : MethodName} {bytes : ByteArray} {maxL : Nat} {ret : Option FieldType}
    (hown : s.vm.findClass own = some m.cls) (hlink : (Cond.methodLink own index y).before args s = true) (hinst : (Cond.instanceMethod y).before args s = true) (hsel : (Cond.selects C y y).before args s = true)
    (hcode : (Cond.code y bytes maxL ret).before args s = true) (hy : y.cls ≠ "java/lang/invoke/MethodHandle" ∧ y.cls ≠ "java/lang/invoke/VarHandle")
    {W9 : Nat} {Pre : Pt → Array Value → Prop} {Post : Pt → Array Value → Option Value → Pt → Prop} {PostX : Pt → Array Value → Addr → Pt → Prop} (hK : vx_Back l R p e below s args y 3 W9 Pre Post PostX)
    {b : Addr} {cellB : Cell} (hcell : T.heap[b]? = some cellB) (hobj : cellB.vm.isStatics = false) (hcls : s.vm.findClass C = some cellB.cls)
    {g : JFrame} (hg : g.method = m) (hsize : g.locals.size = c.maxLocals) {argsL rest : List Value} (hlen : ∀ sig, parseMethodDescriptor y.desc = some sig → argsL.length = sig.parameters.length)
    (hstack : g.stack = argsL.reverse ++ .ref b :: rest) (hW : 2 * g.monitorRoom + (rest.map fun v => v.category).sum ≤ W9) (hdg : decode c.code g.pc = .ok (.invokevirtual index, 3))
    (hpre : ∀ vm₁, s.WarmedH vm₁ → Pre ⟨T.setVm vm₁, locs, cells, slots⟩ (Value.ref b :: argsL).toArray) :
    (∃ (v : Option Value) (vm₁ : Vm) (B : Pt), s.WarmedH vm₁ ∧ Stand p l e R s m args below meth c B.U B.locs B.cells B.slots ∧ Post ⟨T.setVm vm₁, locs, cells, slots⟩ (Value.ref b :: argsL).toArray v B ∧
      ∀ target, Steps p.tables e below (B.U.setTop { g with pc := g.pc + 3, stack := v.toList ++ rest }) target → Steps p.tables e below (T.setTop g) target) ∨
    (∃ (q : Addr) (vm₁ : Vm) (B : Pt), s.WarmedH vm₁ ∧ Stand p l e R s m args below meth c B.U B.locs B.cells B.slots ∧ PostX ⟨T.setVm vm₁, locs, cells, slots⟩ (Value.ref b :: argsL).toArray q B ∧
      Steps p.tables e below (T.setTop g) ((B.U.setTop { g with stack := rest }).pushFrame (.throwing q))) := by
  obtain ⟨mk, methM, hnamed, hmethM, hstM, habM⟩ := Cond.instanceMethod_spec hinst
  obtain ⟨methM', cM, hmethM', -, -, -, -, -, -, hsigM⟩ := Cond.code_spec hnamed hcode
  cases hmethM.symm.trans hmethM'
  obtain ⟨c2, r2, m2, q1, q2, q3, q4, kP, hkP, hkPi⟩ := Cond.selects_spec hsel
  cases hcls.symm.trans q1
  cases (State.methodFound?_of_named hnamed hy).symm.trans q2
  cases hnamed.symm.trans q3
  have hselP : selectMethod e.platform s.vm cellB.cls mk = .method mk := by rw [Launch.admits_selectMethod X.admits]; exact q4
  obtain ⟨vm₁, X₁, hstep₁⟩ := X.invokevirtual hexec hown hlink hnamed hmethM hstM hkP hkPi hy (a := b) (cell := cellB) hcell
    (fun z h => by rw [h] at hobj; cases hobj) hselP hmethM habM hkP hkPi (g := g) hg (argsL := argsL) (rest := rest) (hlen _ hsigM) hstack hdg
  rcases hK m meth c ⟨T.setVm vm₁, locs, cells, slots⟩ { g with stack := rest } (.invokevirtual index) mk (Value.ref b :: argsL).toArray X₁ hg hsize hdg hW (X₁.named hnamed) (hpre vm₁ X₁.warmed) with ⟨v, B, X', hpost, hsteps⟩ | ⟨q, B, X', hpost, hsteps⟩
  · exact Or.inl ⟨v, vm₁, B, X₁.warmed, X', hpost, fun target h => hstep₁ _ fun acts => by rw [doInvoke_state]; exact hsteps.trans h⟩
  · exact Or.inr ⟨q, vm₁, B, X₁.warmed, X', hpost, hstep₁ _ fun acts => by rw [doInvoke_state]; exact hsteps⟩
theorem vx_callS (X : Stand p l e R s m args below meth c T locs cells slots) (hexec : p.tables.exec = Jvm.exec) {own : String} {index : Nat} {y : MethodName} {bytes : ByteArray} {maxL : Nat} {ret : Option FieldType}
    (hown : s.vm.findClass own = some m.cls) (hlink : (Cond.methodLink own index y).before args s = true) (hstat : (Cond.static y).before args s = true) (hinit : (Cond.initialized y.cls).before args s = true)
    (hcode : (Cond.code y bytes maxL ret).before args s = true) (hy : y.cls ≠ "java/lang/invoke/MethodHandle" ∧ y.cls ≠ "java/lang/invoke/VarHandle")
    {W9 : Nat} {Pre : Pt → Array Value → Prop} {Post : Pt → Array Value → Option Value → Pt → Prop} {PostX : Pt → Array Value → Addr → Pt → Prop} (hK : vx_Back l R p e below s args y 3 W9 Pre Post PostX)
    {g : JFrame} (hg : g.method = m) (hsize : g.locals.size = c.maxLocals) {argsL rest : List Value} (hlen : ∀ sig, parseMethodDescriptor y.desc = some sig → argsL.length = sig.parameters.length)
    (hstack : g.stack = argsL.reverse ++ rest) (hW : 2 * g.monitorRoom + (rest.map fun v => v.category).sum ≤ W9) (hdg : decode c.code g.pc = .ok (.invokestatic index, 3))
    (hpre : ∀ vm₁, s.WarmedH vm₁ → Pre ⟨T.setVm vm₁, locs, cells, slots⟩ argsL.toArray) :
    (∃ (v : Option Value) (vm₁ : Vm) (B : Pt), s.WarmedH vm₁ ∧ Stand p l e R s m args below meth c B.U B.locs B.cells B.slots ∧ Post ⟨T.setVm vm₁, locs, cells, slots⟩ argsL.toArray v B ∧
      ∀ target, Steps p.tables e below (B.U.setTop { g with pc := g.pc + 3, stack := v.toList ++ rest }) target → Steps p.tables e below (T.setTop g) target) ∨
    (∃ (q : Addr) (vm₁ : Vm) (B : Pt), s.WarmedH vm₁ ∧ Stand p l e R s m args below meth c B.U B.locs B.cells B.slots ∧ PostX ⟨T.setVm vm₁, locs, cells, slots⟩ argsL.toArray q B ∧
      Steps p.tables e below (T.setTop g) ((B.U.setTop { g with stack := rest }).pushFrame (.throwing q))) := by
  obtain ⟨mk, hnamed⟩ := Cond.code_named hcode
  obtain ⟨methM, cM, hmethM, -, -, -, -, -, -, hsigM⟩ := Cond.code_spec hnamed hcode
  have hstatic : methM.isStatic = true := Cond.static_spec hnamed hmethM hstat
  obtain ⟨kP, hkP, -⟩ := className_of_methodNamed hnamed
  have hinitP : kP.init = .initialized := Cond.initialized_spec (findClass_of_methodNamed hnamed) hkP hinit
  obtain ⟨vm₁, X₁, hstep₁⟩ := X.invokestatic hexec hown hlink hnamed hmethM hstatic hkP hinitP hy (g := g) hg (argsL := argsL) (rest := rest) (hlen _ hsigM) hstack hdg
  rcases hK m meth c ⟨T.setVm vm₁, locs, cells, slots⟩ { g with stack := rest } (.invokestatic index) mk argsL.toArray X₁ hg hsize hdg hW (X₁.named hnamed) (hpre vm₁ X₁.warmed) with ⟨v, B, X', hpost, hsteps⟩ | ⟨q, B, X', hpost, hsteps⟩
  · exact Or.inl ⟨v, vm₁, B, X₁.warmed, X', hpost, fun target h => hstep₁ _ fun acts => by rw [doInvoke_state]; exact hsteps.trans h⟩
  · exact Or.inr ⟨q, vm₁, B, X₁.warmed, X', hpost, hstep₁ _ fun acts => by rw [doInvoke_state]; exact hsteps⟩
end Calls
theorem vx_cls {s : State} {T : State} {vm₁ : Vm} {E : String} {k : ClassId} (hW : s.WarmedH vm₁) (h : (T.setVm vm₁).vm.findClass E = some k) : s.vm.findClass E = some k := by
  have h1 : vm₁.findClass E = some k := h
  rw [hW.alike.findClass] at h1
  exact h1
/-- the method's frame g, with q thrown over it -/
def vx_W (p : Program) (l : Launch) (e : Env) (R : Room) (s : State) (m : MethodId) (args : Array Value) (below : List Frame) (meth : Method) (c : Code) (H : Heap) (locs : List Loc) (cells slots : Nat) (Q : State → Prop) (g : JFrame) (q : Addr) : Prop :=
  ∀ T : State, T.heap = H → Stand p l e R s m args below meth c T locs cells slots → ∃ t, Steps p.tables e below ((T.setTop g).pushFrame (.throwing q)) t ∧ Q t
def vx_Run (p : Program) (l : Launch) (e : Env) (R : Room) (s : State) (m : MethodId) (args : Array Value) (below : List Frame) (meth : Method) (c : Code) (H : Heap) (locs : List Loc) (cells slots mc ms : Nat) (g : JFrame) (rest : List Value) (Qa : State → Outcome → State → Prop) (XC : String → State → State → Prop) (free : Addr → Prop) : Prop :=
  ∀ T : State, T.heap = H → Stand p l e R s m args below meth c T locs cells slots →
    (∃ (v : Option Value) (st₀ t T' : State) (L : List Loc), st₀.heap = H ∧ Stand p l e R s m args below meth c T' (locs ++ L) (cells + mc) (slots + ms) ∧ (∀ q ∈ L, free q.base) ∧ T'.heap = t.heap ∧ T'.vm = t.vm ∧ Qa st₀ (.returned v) t ∧
      Goes p e below T g T' { g with pc := g.pc + 3, stack := v.toList ++ rest }) ∨
    (∃ (q : Addr) (st₀ t T' : State) (L : List Loc) (E : String) (ce : Cell), st₀.heap = H ∧ Stand p l e R s m args below meth c T' (locs ++ L) (cells + mc) (slots + ms) ∧ (∀ z ∈ L, free z.base) ∧ T'.heap = t.heap ∧ T'.vm = t.vm ∧ XC E st₀ t ∧ t.heap[q]? = some ce ∧ ce.vm = .none ∧ s.vm.findClass E = some ce.cls ∧
      Steps p.tables e below (T.setTop g) ((T'.setTop { g with stack := rest }).pushFrame (.throwing q)))
def vx_X {S : Type} (px : S → Prop) (B : String → S → State → Prop) (A : Nat → Prop) : String → State → State → Prop := fun E st t => ∃ u : S, px u ∧ B E u t ∧ va_F A st t
section Runs
variable {p : Program} {l : Launch} {e : Env} {R : Room} {s : State} {m : MethodId} {args : Array Value} {below : List Frame} {meth : Method} {c : Code} {H : Heap} {locs : List Loc} {cells slots : Nat}
variable {y : MethodName} {bytes cc : ByteArray} {maxL nL mc ms n index : Nat} {ret : Option FieldType} {ws : List Cond} {rm : Room} {Pc : Array Value → State → Prop} {Qc : Array Value → State → Outcome → State → Prop} {XC : String → State → State → Prop} {free : Addr → Prop} {Ts : List Cond} {own C : String} {b : Addr} {As rest : List Value} {g : JFrame}
theorem vx_callBack (cb : CallB R s args own index y bytes maxL ret ws rm mc ms n) (hM : vx_Met l y ws rm Pc Qc XC mc ms free) (hbl : FrameBlind Pc) : vx_Back l R p e below s args y 3 8 (PreOf R mc ms Pc) (PostOf Qc mc ms free) (vx_Post XC mc ms free) := by
  obtain ⟨hrc, hrs, hfr, hlo, hws, hcw, -, hini, -⟩ := cb
  exact vx_back (bytes := bytes) (maxL := maxL) (ret := ret) hM hbl hrc hrs hfr hlo hws hcw (fun a' U hW => word_at hW (Or.inl (by first | rfl | simp [Cond.onTables, Cond.keeps, Cond.steady])) hini)
theorem vx_runV (S : CallFix p m c cc nL s args Ts own) (hM : vx_Met l y ws rm Pc Qc XC mc ms free) (cw : CallW R s args own C index y bytes maxL ret ws rm mc ms n) (hp : PreV s H C b Pc As)
    (hg : g.method = m) (hn : As.length = n) (hsize : g.locals.size = nL) (hstack : g.stack = As.reverse ++ .ref b :: rest) (hW : 2 * g.monitorRoom + (rest.map fun v => v.category).sum ≤ 8) (hdg : decode cc g.pc = .ok (.invokevirtual index, 3)) (hf : cells + mc ≤ R.cells ∧ slots + ms ≤ R.slots) :
    vx_Run p l e R s m args below meth c H locs cells slots mc ms g rest (Qc (Value.ref b :: As).toArray) XC free := by
  have hK : vx_Back l R p e below s args y 3 8 (PreOf R mc ms Pc) (PostOf Qc mc ms free) (vx_Post XC mc ms free) := vx_callBack cw.1 hM hp.1
  obtain ⟨⟨-, -, -, -, -, -, hcode, -, hy, hlen, hl⟩, hin, hse⟩ := cw
  obtain ⟨hx, hb, hml, ho, -⟩ := S
  obtain ⟨-, ⟨cellB, hcB, hoB, hclB⟩, hPc⟩ := hp
  intro T hT X
  rcases vx_callV X hx (C := C) (bytes := bytes) (maxL := maxL) (ret := ret) ho hl hin hse hcode hy hK (by rw [hT]; exact hcB) hoB hclB hg (hsize.trans hml.symm) (argsL := As) (rest := rest) (fun sig h => hn.trans (hlen sig h)) hstack hW (by rw [hb]; exact hdg)
    (fun vm₁ hW₁ => ⟨hf.1, hf.2, hPc (T.setVm vm₁) hT hW₁⟩) with ⟨v, vm₁, ⟨U', l2, c2, s2⟩, hW₁, X', ⟨g', mk, t, L, e1, e2, hq, h1, hL, h2, h3⟩, st⟩ | ⟨q, vm₁, ⟨U', l2, c2, s2⟩, hW₁, X', ⟨g', mk, t, L, E, ce, e1, e2, hq, hce, hcv, hcl, h1, hL, h2, h3⟩, st⟩
  · dsimp only [Pt.U, Pt.locs, Pt.cells, Pt.slots] at X' e1 e2 h1 h2 h3 st
    subst h1; subst h2; subst h3
    exact Or.inl ⟨v, (T.setVm vm₁).calling g' mk (Value.ref b :: As).toArray, t, U', L, hT, X', hL, e1, e2, hq, st⟩
  · dsimp only [Pt.U, Pt.locs, Pt.cells, Pt.slots] at X' e1 e2 h1 h2 h3 st hcl
    subst h1; subst h2; subst h3
    exact Or.inr ⟨q, (T.setVm vm₁).calling g' mk (Value.ref b :: As).toArray, t, U', L, E, ce, hT, X', hL, e1, e2, hq, hce, hcv, vx_cls hW₁ hcl, st⟩
theorem vx_runS (S : CallFix p m c cc nL s args Ts own) (hM : vx_Met l y ws rm Pc Qc XC mc ms free) (cw : CallB R s args own index y bytes maxL ret ws rm mc ms n ∧ (Cond.static y).before args s = true) (hp : PreS s H Pc As)
    (hg : g.method = m) (hn : As.length = n) (hsize : g.locals.size = nL) (hstack : g.stack = As.reverse ++ rest) (hW : 2 * g.monitorRoom + (rest.map fun v => v.category).sum ≤ 8) (hdg : decode cc g.pc = .ok (.invokestatic index, 3)) (hf : cells + mc ≤ R.cells ∧ slots + ms ≤ R.slots) :
    vx_Run p l e R s m args below meth c H locs cells slots mc ms g rest (Qc As.toArray) XC free := by
  have hK : vx_Back l R p e below s args y 3 8 (PreOf R mc ms Pc) (PostOf Qc mc ms free) (vx_Post XC mc ms free) := vx_callBack cw.1 hM hp.1
  obtain ⟨⟨-, -, -, -, -, -, hcode, hini, hy, hlen, hl⟩, hstt⟩ := cw
  obtain ⟨hx, hb, hml, ho, -⟩ := S
  intro T hT X
  rcases vx_callS X hx (bytes := bytes) (maxL := maxL) (ret := ret) ho hl hstt hini hcode hy hK hg (hsize.trans hml.symm) (argsL := As) (rest := rest) (fun sig h => hn.trans (hlen sig h)) hstack hW (by rw [hb]; exact hdg)
    (fun vm₁ hW₁ => ⟨hf.1, hf.2, hp.2 (T.setVm vm₁) hT hW₁⟩) with ⟨v, vm₁, ⟨U', l2, c2, s2⟩, hW₁, X', ⟨g', mk, t, L, e1, e2, hq, h1, hL, h2, h3⟩, st⟩ | ⟨q, vm₁, ⟨U', l2, c2, s2⟩, hW₁, X', ⟨g', mk, t, L, E, ce, e1, e2, hq, hce, hcv, hcl, h1, hL, h2, h3⟩, st⟩
  · dsimp only [Pt.U, Pt.locs, Pt.cells, Pt.slots] at X' e1 e2 h1 h2 h3 st
    subst h1; subst h2; subst h3
    exact Or.inl ⟨v, (T.setVm vm₁).calling g' mk As.toArray, t, U', L, hT, X', hL, e1, e2, hq, st⟩
  · dsimp only [Pt.U, Pt.locs, Pt.cells, Pt.slots] at X' e1 e2 h1 h2 h3 st hcl
    subst h1; subst h2; subst h3
    exact Or.inr ⟨q, (T.setVm vm₁).calling g' mk As.toArray, t, U', L, E, ce, hT, X', hL, e1, e2, hq, hce, hcv, vx_cls hW₁ hcl, st⟩
end Runs
section Rows
variable {p : Program} {l : Launch} {e : Env} {R : Room} {s : State} {m : MethodId} {args : Array Value} {below : List Frame} {meth : Method} {c : Code} {H : Heap} {locs : List Loc} {cells slots : Nat} {Q : State → Prop}
variable {mc ms : Nat} {free : Addr → Prop} {A0 A1 : Nat → Prop} {H0 : Heap} {a : Array Value} {pc : Nat} {ls : Array Slot} {st0 rest : List Value}
theorem vx_keep {st₀ t T' : State} {L : List Loc} (h0 : st₀.heap = H) (e1 : T'.heap = t.heap) (hS : va_S A0 H0 H locs) (hA : ∀ q, q < H.size → A1 q → A0 q) (hf : ∀ q, free q → A0 q) (hL : ∀ q ∈ L, free q.base) (hF : va_F A1 st₀ t) :
    H.size ≤ T'.heap.size ∧ (∀ q : Nat, q < H.size → ¬ A1 q → T'.heap[q]? = H[q]?) ∧ va_S A0 H0 T'.heap (locs ++ L) := by
  obtain ⟨hz, hk⟩ := hF
  rw [h0] at hz hk
  exact ⟨by rw [e1]; exact hz, fun q h1 h2 => by rw [e1]; exact hk q h1 h2,
    ⟨Nat.le_trans hS.1 (by rw [e1]; exact hz), fun q h1 h2 => by rw [e1, hk q (Nat.lt_of_lt_of_le h1 hS.1) (fun z => h2 (hA q (Nat.lt_of_lt_of_le h1 hS.1) z))]; exact hS.2.1 q h1 h2, fun q hq => by
      rcases List.mem_append.mp hq with h | h
      · exact hS.2.2 q h
      · exact hf _ (hL q h)⟩⟩
theorem vx_calli {S SX : Type} {post : Int32 → S → Prop} {px : SX → Prop} {B : S → State → Prop} {BX : String → SX → State → Prop} {AX : Nat → Prop} (hr : vx_Run p l e R s m args below meth c H locs cells slots mc ms (F0 m pc ls st0) rest (va_Qi post B A1 a) (vx_X px BX AX) free) (hS : va_S A0 H0 H locs) (hA : ∀ q, q < H.size → A1 q → A0 q) (hf : ∀ q, free q → A0 q) (hAX : ∀ q, q < H.size → AX q → A0 q)
    (kx : ∀ (E : String) (ce : Cell) (q9 : Addr) (u : SX) (t : State) (H1 : Heap) (locs1 : List Loc), t.heap = H1 → s.vm.Alike t.vm → px u → BX E u t → H.size ≤ H1.size → (∀ q : Nat, q < H.size → ¬ AX q → H1[q]? = H[q]?) → va_S A0 H0 H1 locs1 → H1[q9]? = some ce → ce.vm = .none → s.vm.findClass E = some ce.cls → vx_W p l e R s m args below meth c H1 locs1 (cells + mc) (slots + ms) Q (F0 m pc ls rest) q9)
    (kk : ∀ (r : Int32) (u : S) (t : State) (H1 : Heap) (locs1 : List Loc), t.heap = H1 → s.vm.Alike t.vm → post r u → B u t → H.size ≤ H1.size → (∀ q : Nat, q < H.size → ¬ A1 q → H1[q]? = H[q]?) → va_S A0 H0 H1 locs1 → W p l e R s m args below meth c H1 locs1 (cells + mc) (slots + ms) Q (F0 m (pc + 3) ls (.int r :: rest))) : W p l e R s m args below meth c H locs cells slots Q (F0 m pc ls st0) := by
  intro T hT X
  rcases hr T hT X with ⟨v, st₀, t, T', L, h0, X', hL, e1, e2, ⟨⟨r, u, hv, hp, hb⟩, hF⟩, st⟩ | ⟨q, st₀, t, T', L, E, ce, h0, X', hL, e1, e2, ⟨u, hp, hb, hF⟩, hce, hcv, hcl, st⟩
  · cases hv
    obtain ⟨k1, k2, k3⟩ := vx_keep h0 e1 hS hA hf hL hF
    obtain ⟨t2, a1, b1⟩ := kk r u t T'.heap (locs ++ L) e1.symm (by rw [← e2]; exact X'.warmed.alike) hp hb k1 k2 k3 T' rfl X'
    exact ⟨t2, st t2 a1, b1⟩
  · obtain ⟨k1, k2, k3⟩ := vx_keep h0 e1 hS hAX hf hL hF
    obtain ⟨t2, a1, b1⟩ := kx E ce q u t T'.heap (locs ++ L) e1.symm (by rw [← e2]; exact X'.warmed.alike) hp hb k1 k2 k3 (by rw [e1]; exact hce) hcv hcl T' rfl X'
    exact ⟨t2, st.trans a1, b1⟩
theorem vx_calll {S SX : Type} {post : Int64 → S → Prop} {px : SX → Prop} {B : S → State → Prop} {BX : String → SX → State → Prop} {AX : Nat → Prop} (hr : vx_Run p l e R s m args below meth c H locs cells slots mc ms (F0 m pc ls st0) rest (va_Ql post B A1 a) (vx_X px BX AX) free) (hS : va_S A0 H0 H locs) (hA : ∀ q, q < H.size → A1 q → A0 q) (hf : ∀ q, free q → A0 q) (hAX : ∀ q, q < H.size → AX q → A0 q)
    (kx : ∀ (E : String) (ce : Cell) (q9 : Addr) (u : SX) (t : State) (H1 : Heap) (locs1 : List Loc), t.heap = H1 → s.vm.Alike t.vm → px u → BX E u t → H.size ≤ H1.size → (∀ q : Nat, q < H.size → ¬ AX q → H1[q]? = H[q]?) → va_S A0 H0 H1 locs1 → H1[q9]? = some ce → ce.vm = .none → s.vm.findClass E = some ce.cls → vx_W p l e R s m args below meth c H1 locs1 (cells + mc) (slots + ms) Q (F0 m pc ls rest) q9)
    (kk : ∀ (r : Int64) (u : S) (t : State) (H1 : Heap) (locs1 : List Loc), t.heap = H1 → s.vm.Alike t.vm → post r u → B u t → H.size ≤ H1.size → (∀ q : Nat, q < H.size → ¬ A1 q → H1[q]? = H[q]?) → va_S A0 H0 H1 locs1 → W p l e R s m args below meth c H1 locs1 (cells + mc) (slots + ms) Q (F0 m (pc + 3) ls (.long r :: rest))) : W p l e R s m args below meth c H locs cells slots Q (F0 m pc ls st0) := by
  intro T hT X
  rcases hr T hT X with ⟨v, st₀, t, T', L, h0, X', hL, e1, e2, ⟨⟨r, u, hv, hp, hb⟩, hF⟩, st⟩ | ⟨q, st₀, t, T', L, E, ce, h0, X', hL, e1, e2, ⟨u, hp, hb, hF⟩, hce, hcv, hcl, st⟩
  · cases hv
    obtain ⟨k1, k2, k3⟩ := vx_keep h0 e1 hS hA hf hL hF
    obtain ⟨t2, a1, b1⟩ := kk r u t T'.heap (locs ++ L) e1.symm (by rw [← e2]; exact X'.warmed.alike) hp hb k1 k2 k3 T' rfl X'
    exact ⟨t2, st t2 a1, b1⟩
  · obtain ⟨k1, k2, k3⟩ := vx_keep h0 e1 hS hAX hf hL hF
    obtain ⟨t2, a1, b1⟩ := kx E ce q u t T'.heap (locs ++ L) e1.symm (by rw [← e2]; exact X'.warmed.alike) hp hb k1 k2 k3 (by rw [e1]; exact hce) hcv hcl T' rfl X'
    exact ⟨t2, st.trans a1, b1⟩
theorem vx_callf {S SX : Type} {post : UInt32 → S → Prop} {px : SX → Prop} {B : S → State → Prop} {BX : String → SX → State → Prop} {AX : Nat → Prop} (hr : vx_Run p l e R s m args below meth c H locs cells slots mc ms (F0 m pc ls st0) rest (va_Qf post B A1 a) (vx_X px BX AX) free) (hS : va_S A0 H0 H locs) (hA : ∀ q, q < H.size → A1 q → A0 q) (hf : ∀ q, free q → A0 q) (hAX : ∀ q, q < H.size → AX q → A0 q)
    (kx : ∀ (E : String) (ce : Cell) (q9 : Addr) (u : SX) (t : State) (H1 : Heap) (locs1 : List Loc), t.heap = H1 → s.vm.Alike t.vm → px u → BX E u t → H.size ≤ H1.size → (∀ q : Nat, q < H.size → ¬ AX q → H1[q]? = H[q]?) → va_S A0 H0 H1 locs1 → H1[q9]? = some ce → ce.vm = .none → s.vm.findClass E = some ce.cls → vx_W p l e R s m args below meth c H1 locs1 (cells + mc) (slots + ms) Q (F0 m pc ls rest) q9)
    (kk : ∀ (r : UInt32) (u : S) (t : State) (H1 : Heap) (locs1 : List Loc), t.heap = H1 → s.vm.Alike t.vm → post r u → B u t → H.size ≤ H1.size → (∀ q : Nat, q < H.size → ¬ A1 q → H1[q]? = H[q]?) → va_S A0 H0 H1 locs1 → W p l e R s m args below meth c H1 locs1 (cells + mc) (slots + ms) Q (F0 m (pc + 3) ls (.float r :: rest))) : W p l e R s m args below meth c H locs cells slots Q (F0 m pc ls st0) := by
  intro T hT X
  rcases hr T hT X with ⟨v, st₀, t, T', L, h0, X', hL, e1, e2, ⟨⟨r, u, hv, hp, hb⟩, hF⟩, st⟩ | ⟨q, st₀, t, T', L, E, ce, h0, X', hL, e1, e2, ⟨u, hp, hb, hF⟩, hce, hcv, hcl, st⟩
  · cases hv
    obtain ⟨k1, k2, k3⟩ := vx_keep h0 e1 hS hA hf hL hF
    obtain ⟨t2, a1, b1⟩ := kk r u t T'.heap (locs ++ L) e1.symm (by rw [← e2]; exact X'.warmed.alike) hp hb k1 k2 k3 T' rfl X'
    exact ⟨t2, st t2 a1, b1⟩
  · obtain ⟨k1, k2, k3⟩ := vx_keep h0 e1 hS hAX hf hL hF
    obtain ⟨t2, a1, b1⟩ := kx E ce q u t T'.heap (locs ++ L) e1.symm (by rw [← e2]; exact X'.warmed.alike) hp hb k1 k2 k3 (by rw [e1]; exact hce) hcv hcl T' rfl X'
    exact ⟨t2, st.trans a1, b1⟩
theorem vx_calld {S SX : Type} {post : UInt64 → S → Prop} {px : SX → Prop} {B : S → State → Prop} {BX : String → SX → State → Prop} {AX : Nat → Prop} (hr : vx_Run p l e R s m args below meth c H locs cells slots mc ms (F0 m pc ls st0) rest (va_Qd post B A1 a) (vx_X px BX AX) free) (hS : va_S A0 H0 H locs) (hA : ∀ q, q < H.size → A1 q → A0 q) (hf : ∀ q, free q → A0 q) (hAX : ∀ q, q < H.size → AX q → A0 q)
    (kx : ∀ (E : String) (ce : Cell) (q9 : Addr) (u : SX) (t : State) (H1 : Heap) (locs1 : List Loc), t.heap = H1 → s.vm.Alike t.vm → px u → BX E u t → H.size ≤ H1.size → (∀ q : Nat, q < H.size → ¬ AX q → H1[q]? = H[q]?) → va_S A0 H0 H1 locs1 → H1[q9]? = some ce → ce.vm = .none → s.vm.findClass E = some ce.cls → vx_W p l e R s m args below meth c H1 locs1 (cells + mc) (slots + ms) Q (F0 m pc ls rest) q9)
    (kk : ∀ (r : UInt64) (u : S) (t : State) (H1 : Heap) (locs1 : List Loc), t.heap = H1 → s.vm.Alike t.vm → post r u → B u t → H.size ≤ H1.size → (∀ q : Nat, q < H.size → ¬ A1 q → H1[q]? = H[q]?) → va_S A0 H0 H1 locs1 → W p l e R s m args below meth c H1 locs1 (cells + mc) (slots + ms) Q (F0 m (pc + 3) ls (.double r :: rest))) : W p l e R s m args below meth c H locs cells slots Q (F0 m pc ls st0) := by
  intro T hT X
  rcases hr T hT X with ⟨v, st₀, t, T', L, h0, X', hL, e1, e2, ⟨⟨r, u, hv, hp, hb⟩, hF⟩, st⟩ | ⟨q, st₀, t, T', L, E, ce, h0, X', hL, e1, e2, ⟨u, hp, hb, hF⟩, hce, hcv, hcl, st⟩
  · cases hv
    obtain ⟨k1, k2, k3⟩ := vx_keep h0 e1 hS hA hf hL hF
    obtain ⟨t2, a1, b1⟩ := kk r u t T'.heap (locs ++ L) e1.symm (by rw [← e2]; exact X'.warmed.alike) hp hb k1 k2 k3 T' rfl X'
    exact ⟨t2, st t2 a1, b1⟩
  · obtain ⟨k1, k2, k3⟩ := vx_keep h0 e1 hS hAX hf hL hF
    obtain ⟨t2, a1, b1⟩ := kx E ce q u t T'.heap (locs ++ L) e1.symm (by rw [← e2]; exact X'.warmed.alike) hp hb k1 k2 k3 (by rw [e1]; exact hce) hcv hcl T' rfl X'
    exact ⟨t2, st.trans a1, b1⟩
theorem vx_callv {S SX : Type} {post : S → Prop} {px : SX → Prop} {B : S → State → Prop} {BX : String → SX → State → Prop} {AX : Nat → Prop} (hr : vx_Run p l e R s m args below meth c H locs cells slots mc ms (F0 m pc ls st0) rest (va_Qv post B A1 a) (vx_X px BX AX) free) (hS : va_S A0 H0 H locs) (hA : ∀ q, q < H.size → A1 q → A0 q) (hf : ∀ q, free q → A0 q) (hAX : ∀ q, q < H.size → AX q → A0 q)
    (kx : ∀ (E : String) (ce : Cell) (q9 : Addr) (u : SX) (t : State) (H1 : Heap) (locs1 : List Loc), t.heap = H1 → s.vm.Alike t.vm → px u → BX E u t → H.size ≤ H1.size → (∀ q : Nat, q < H.size → ¬ AX q → H1[q]? = H[q]?) → va_S A0 H0 H1 locs1 → H1[q9]? = some ce → ce.vm = .none → s.vm.findClass E = some ce.cls → vx_W p l e R s m args below meth c H1 locs1 (cells + mc) (slots + ms) Q (F0 m pc ls rest) q9)
    (kk : ∀ (u : S) (t : State) (H1 : Heap) (locs1 : List Loc), t.heap = H1 → s.vm.Alike t.vm → post u → B u t → H.size ≤ H1.size → (∀ q : Nat, q < H.size → ¬ A1 q → H1[q]? = H[q]?) → va_S A0 H0 H1 locs1 → W p l e R s m args below meth c H1 locs1 (cells + mc) (slots + ms) Q (F0 m (pc + 3) ls (rest))) : W p l e R s m args below meth c H locs cells slots Q (F0 m pc ls st0) := by
  intro T hT X
  rcases hr T hT X with ⟨v, st₀, t, T', L, h0, X', hL, e1, e2, ⟨⟨u, hv, hp, hb⟩, hF⟩, st⟩ | ⟨q, st₀, t, T', L, E, ce, h0, X', hL, e1, e2, ⟨u, hp, hb, hF⟩, hce, hcv, hcl, st⟩
  · cases hv
    obtain ⟨k1, k2, k3⟩ := vx_keep h0 e1 hS hA hf hL hF
    obtain ⟨t2, a1, b1⟩ := kk u t T'.heap (locs ++ L) e1.symm (by rw [← e2]; exact X'.warmed.alike) hp hb k1 k2 k3 T' rfl X'
    exact ⟨t2, st t2 a1, b1⟩
  · obtain ⟨k1, k2, k3⟩ := vx_keep h0 e1 hS hAX hf hL hF
    obtain ⟨t2, a1, b1⟩ := kx E ce q u t T'.heap (locs ++ L) e1.symm (by rw [← e2]; exact X'.warmed.alike) hp hb k1 k2 k3 (by rw [e1]; exact hce) hcv hcl T' rfl X'
    exact ⟨t2, st.trans a1, b1⟩
/-- caught by the row x of this method's table; the rows ahead don't take it -/
theorem vx_catch {own name : String} {E : String} {ce : Cell} {q : Addr} (hown : s.vm.findClass own = some m.cls) (pre : List ExceptionTableEntry) (x : ExceptionTableEntry) (suf : List ExceptionTableEntry) (hsplit : c.exceptionTable.toList = pre ++ x :: suf)
    (hpass : ∀ z ∈ pre, covers z pc = false ∨ (z.catchType ≠ 0 ∧ ∃ nm : String, (Cond.classLink own z.catchType nm).before args s = true ∧ va_Nc E nm s)) (hx : covers x pc = true) (h0 : x.catchType ≠ 0)
    (hlink : (Cond.classLink own x.catchType name).before args s = true) (hcast : (Cond.castable E name).before args s = true) (hcell : H[q]? = some ce) (hv : ce.vm = .none) (hcl : s.vm.findClass E = some ce.cls)
    (kk : W p l e R s m args below meth c H locs cells slots Q (F0 m x.handlerPc ls [.ref q])) : vx_W p l e R s m args below meth c H locs cells slots Q (F0 m pc ls rest) q := by
  intro T hT X
  have hpl : e.platform.magicAccessors = ({} : Platform).magicAccessors := by rw [X.admits.platform]
  obtain ⟨c3, c4, hc3, hc4, hasg⟩ := Cond.castable_spec hcast
  cases Option.some.inj (hc3.symm.trans hcl)
  obtain ⟨c5, hc5, hcl5⟩ := Cond.classLink_spec hown hlink e.platform hpl
  cases Option.some.inj (hc4.symm.trans hc5)
  obtain ⟨vm', X', st⟩ := X.thenCaughtThrough q (g := F0 m pc ls rest) rfl (Steps.refl _) (by rw [hT]; exact hcell) (by rw [hv]; rfl) (by obtain ⟨k9, h9, -⟩ := Vm.findClass_spec hcl; exact ⟨k9, h9⟩) pre x suf hsplit
    (fun z hz => by
      rcases hpass z hz with h | ⟨hz0, nm, hl1, hn1⟩
      · exact Or.inl h
      · obtain ⟨c6, hc6, hcl6⟩ := Cond.classLink_spec hown hl1 e.platform hpl
        obtain ⟨a8, b8, h1, h2, h3⟩ := hn1
        cases Option.some.inj (h1.symm.trans hcl)
        cases Option.some.inj (h2.symm.trans hc6)
        exact Or.inr ⟨hz0, _, hcl6, h3⟩) hx (Or.inr ⟨h0, c4, hcl5, hasg⟩)
  obtain ⟨t, a1, b1⟩ := kk (T.setVm vm') hT X'
  exact ⟨t, st.trans a1, b1⟩
end Rows
section Ends
variable {p : Program} {l : Launch} {e : Env} {R : Room} {s : State} {m : MethodId} {args : Array Value} {below : List Frame} {meth : Method} {c : Code} {H : Heap} {locs : List Loc} {cells slots : Nat} {Q : State → Prop}
variable {mc ms : Nat} {free : Addr → Prop} {A0 A1 : Nat → Prop} {H0 : Heap} {a : Array Value} {ls : Array Slot} {st0 rest : List Value}
variable {Qc : Array Value → State → Outcome → State → Prop} {XC : String → State → State → Prop}
/-- what a body that may throw owes at its end -/
def vx_MQ (below : List Frame) (Qc : Array Value → State → Outcome → State → Prop) (XC : String → State → State → Prop) (a : Array Value) (s : State) (mc ms : Nat) (free : Addr → Prop) : State → Prop := fun t =>
  ∃ o, t.status = .running ∧ Ended t below o ∧ vx_Q Qc XC mc ms free a s o t
theorem vx_ret {g : JFrame} {mc ms : Nat} (k : W p l e R s m args below meth c H locs cells slots (MQ below Qc args s mc ms free) g) : W p l e R s m args below meth c H locs cells slots (vx_MQ below Qc XC args s mc ms free) g := by
  intro T hT X
  obtain ⟨t, a1, o, b1, b2, b3, b4⟩ := k T hT X
  exact ⟨t, a1, o, b1, b2, Or.inl ⟨b3, b4⟩⟩
/-- not caught here: it goes on to the caller -/
theorem vx_widen {g : JFrame} {q : Addr} {k n : Nat} (h1 : cells ≤ k) (h2 : slots ≤ n) (kk : vx_W p l e R s m args below meth c H locs k n Q g q) : vx_W p l e R s m args below meth c H locs cells slots Q g q := fun T hT X => kk T hT (stand_widen X h1 h2)
theorem vx_out {pc : Nat} {E : String} {ce : Cell} {q : Addr} {mc ms : Nat} (hout : ∀ x ∈ c.exceptionTable.toList, covers x pc = false) (hlocks : meth.locks = false) (hcell : H[q]? = some ce) (hv : ce.vm = .none) (hcl : s.vm.findClass E = some ce.cls)
    (hx : ∀ t : State, t.heap = H → s.vm.Alike t.vm → XC E s t) (hf : ∀ z ∈ locs, free z.base) (hc : cells ≤ mc) (hs : slots ≤ ms) :
    vx_W p l e R s m args below meth c H locs cells slots (vx_MQ below Qc XC args s mc ms free) (F0 m pc ls rest) q := by
  intro T hT X
  obtain ⟨st1, hrun, hend, hW, hsm⟩ := X.leaveThrown q (g := F0 m pc ls rest) rfl rfl rfl hout hlocks
  have hcell9 : (T.setFrames (.throwing q :: below)).heap[q]? = some ce := by
    show T.heap[q]? = some ce
    rw [hT]; exact hcell
  exact ⟨_, st1, .threw q, hrun, hend, Or.inr ⟨q, rfl, E, ce, locs, hx _ hT hW.alike, hcell9, hv, hcl, hW, hsm.mono hc hs, hf⟩⟩
theorem vx_frame {U : State} {k n : Nat} (h : s.sameButNew ({ U with vm := s.vm } : State) locs k n) : s.heap.size ≤ U.heap.size ∧ ∀ q : Nat, q < s.heap.size → (∀ z ∈ locs, z.base ≠ q) → U.heap[q]? = s.heap[q]? := by
  obtain ⟨-, h2, -, -, -, h6⟩ := h
  refine ⟨h2, fun q hq hz => ?_⟩
  obtain ⟨c9, e1, e2, e3, e4⟩ := h6 q _ (Array.getElem?_eq_getElem hq)
  have hs : c9.slots = (s.heap[q]).slots := Array.ext_getElem? fun i => e4 i fun hm => hz _ hm rfl
  have h9 : c9 = s.heap[q] := by
    rw [hs] at e2
    exact e2
  have e5 : U.heap[q]? = some c9 := e1
  rw [e5, h9, Array.getElem?_eq_getElem hq]
/-- the words of a throw but the four that speak of the heap -/
def vx_no (w : Cond) : Bool := decide (w ≠ .isRef (.static Bundle.tN "UNASSIGNED_STACK" Bundle.steD)) && decide (w ≠ .isRef (.static Bundle.tN "SUPPRESSED_SENTINEL" Bundle.listD)) && decide (w ≠ .laysStatic Bundle.tN "UNASSIGNED_STACK" Bundle.steD) && decide (w ≠ .laysStatic Bundle.tN "SUPPRESSED_SENTINEL" Bundle.listD)
def vx_at0 (own : String) (ic : Nat) (X : String) (names : List String) : List Cond := (Bundle.ownAtoms0 own ic X names).filter vx_no
def vx_atS (own : String) (ic : Nat) (X : String) (names : List String) : List Cond := (Bundle.ownAtoms own ic X names).filter vx_no
/-- a word that the tables alone decide, or a good one -/
def vx_ot (w : Cond) : Bool := w.onTables || goodWord w
theorem vx_ot_at {args a' : Array Value} {s U : State} {w : Cond} (hW : s.WarmedH U.vm) (hvm : s.vm = U.vm) (hg : vx_ot w = true) (h : w.before args s = true) : w.before a' U = true := by
  simp only [vx_ot, Bool.or_eq_true] at hg
  rcases hg with hg | hg
  · exact va_tabs hg hvm h
  · exact word_at hW (good_of_word hg) h
/-- a list's words: the good ones out of the method's own list, the others by premises of their own -/
theorem vx_hat {args : Array Value} {s : State} {L B : List Cond} (h1 : ∀ w ∈ L.filter goodWord, w.before args s = true) (h2 : ∀ w ∈ L.filter (fun w => !goodWord w), w ∈ B) (h3 : ∀ w ∈ B, w.before args s = true) : ∀ w ∈ L, w.before args s = true := by
  intro w hw
  by_cases g : goodWord w = true
  · exact h1 w (List.mem_filter.mpr ⟨hw, g⟩)
  · refine h3 w (h2 w (List.mem_filter.mpr ⟨hw, ?_⟩))
    show (!goodWord w) = true
    cases hgw : goodWord w
    · rfl
    · exact absurd hgw g
theorem vx_c {args : Array Value} {s : State} {w : Cond} {B : List Cond} (h : w.before args s = true) (t : ∀ w ∈ B, w.before args s = true) : ∀ w' ∈ w :: B, w'.before args s = true := fun w' h' => (List.mem_cons.mp h').elim (fun e => by rw [e]; exact h) (t w')
theorem vx_n {args : Array Value} {s : State} : ∀ w ∈ ([] : List Cond), w.before args s = true := fun _ h => nomatch h
theorem vx_own {args : Array Value} {s : State} {L : List Cond} (h1 : ∀ w ∈ L.filter vx_no, w.before args s = true)
    (hU : (Cond.isRef (.static Bundle.tN "UNASSIGNED_STACK" Bundle.steD)).before args s = true) (hN : (Cond.isRef (.static Bundle.tN "SUPPRESSED_SENTINEL" Bundle.listD)).before args s = true)
    (lU : (Cond.laysStatic Bundle.tN "UNASSIGNED_STACK" Bundle.steD).before args s = true) (lN : (Cond.laysStatic Bundle.tN "SUPPRESSED_SENTINEL" Bundle.listD).before args s = true) : ∀ w ∈ L, w.before args s = true := by
  intro w hw
  by_cases e1 : w = .isRef (.static Bundle.tN "UNASSIGNED_STACK" Bundle.steD)
  · rw [e1]; exact hU
  · by_cases e2 : w = .isRef (.static Bundle.tN "SUPPRESSED_SENTINEL" Bundle.listD)
    · rw [e2]; exact hN
    · by_cases e3 : w = .laysStatic Bundle.tN "UNASSIGNED_STACK" Bundle.steD
      · rw [e3]; exact lU
      · by_cases e4 : w = .laysStatic Bundle.tN "SUPPRESSED_SENTINEL" Bundle.listD
        · rw [e4]; exact lN
        · exact h1 w (List.mem_filter.mpr ⟨hw, by unfold vx_no; rw [decide_eq_true e1, decide_eq_true e2, decide_eq_true e3, decide_eq_true e4]; rfl⟩)
/-- where a static field lies, its class's statics cell in H -/
def vx_L (C n d : String) (A : Nat → Prop) (U : State) (H : Heap) : Prop := ∃ (c : ClassId) (k : Class) (i : Nat) (f : Field) (a : Nat) (cell : Cell), U.vm.findClass C = some c ∧ U.fieldFound? C n d = some (c, k, i, f) ∧ f.isStatic = true ∧ k.statics = some a ∧ H[a]? = some cell ∧ cell.vm.isStatics = true ∧ cell.cls = c ∧ f.slot < cell.slots.size ∧ k.staticTypes[f.slot]? = some f.type ∧ ¬ A a
theorem vx_L.moved {C n d : String} {A : Nat → Prop} {u U : State} {H : Heap} (hvm : u.vm.Alike U.vm) (h : vx_L C n d A u H) : vx_L C n d A U H := by
  obtain ⟨c, k, i, f, a, cell, h1, h2, h3, h4, h5, h6, h7, h8, h9, h10⟩ := h
  obtain ⟨k', hi', he⟩ := State.fieldFound?_setVm hvm h2
  exact ⟨c, k', i, f, a, cell, by rw [hvm.findClass]; exact h1, hi', h3, by rw [he]; exact h4, h5, h6, h7, h8, by rw [he]; exact h9, h10⟩
theorem vx_L.kept {C n d : String} {A : Nat → Prop} {U : State} {H H1 : Heap} (h : vx_L C n d A U H) (hq : ∀ a : Nat, a < H.size → ¬ A a → H1[a]? = H[a]?) : vx_L C n d A U H1 := by
  obtain ⟨c, k, i, f, a, cell, h1, h2, h3, h4, h5, h6, h7, h8, h9, h10⟩ := h
  exact ⟨c, k, i, f, a, cell, h1, h2, h3, h4, by rw [hq a (Array.getElem?_eq_some_iff.mp h5).1 h10]; exact h5, h6, h7, h8, h9, h10⟩
theorem vx_L.narrow {C n d : String} {A B : Nat → Prop} {U : State} {H : Heap} (h : vx_L C n d A U H) (hAB : ∀ q, B q → A q) : vx_L C n d B U H := by
  obtain ⟨c, k, i, f, a, cell, h1, h2, h3, h4, h5, h6, h7, h8, h9, h10⟩ := h
  exact ⟨c, k, i, f, a, cell, h1, h2, h3, h4, h5, h6, h7, h8, h9, fun z => h10 (hAB _ z)⟩
theorem vx_L.word {C n d : String} {A : Nat → Prop} {s : State} {args : Array Value} (h : vx_L C n d A s s.heap) : (Cond.laysStatic C n d).before args s = true := by
  obtain ⟨c, k, i, f, a, cell, h1, h2, h3, h4, h5, h6, h7, h8, h9, -⟩ := h
  show (Cond.laysStatic C n d).holds args s none s [] = true
  exact Cond.laysStatic_of h1 h2 h3 h4 h5 h6 h7 h8 h9
/-- .. and what it holds: null or some reference -/
def vx_Zq (C n d : String) (A : Nat → Prop) (U : State) (H : Heap) : Prop := va_Zq C n d A U H ∧ vx_L C n d A U H
theorem vx_Zq.moved {C n d : String} {A : Nat → Prop} {u U : State} {H : Heap} (hvm : u.vm.Alike U.vm) (h : vx_Zq C n d A u H) : vx_Zq C n d A U H := ⟨va_Zq.moved hvm h.1, vx_L.moved hvm h.2⟩
theorem vx_Zq.kept {C n d : String} {A : Nat → Prop} {U : State} {H H1 : Heap} (h : vx_Zq C n d A U H) (hq : ∀ a : Nat, a < H.size → ¬ A a → H1[a]? = H[a]?) : vx_Zq C n d A U H1 := ⟨va_Zq.kept h.1 hq, vx_L.kept h.2 hq⟩
theorem vx_Zq.narrow {C n d : String} {A B : Nat → Prop} {U : State} {H : Heap} (h : vx_Zq C n d A U H) (hAB : ∀ q, B q → A q) : vx_Zq C n d B U H := ⟨va_Zq.narrow h.1 hAB, vx_L.narrow h.2 hAB⟩
theorem vx_Zqof {args : Array Value} {s : State} {C n d : String} {A : Nat → Prop} (hl : (Cond.laysStatic C n d).before args s = true) (hini : (Cond.initialized C).before args s = true) (h : (Cond.isRef (.static C n d)).before args s = true) (hA : ∀ a : Nat, a < s.heap.size → ¬ A a) : vx_Zq C n d A s s.heap := by
  refine ⟨va_Zqof hl hini h hA, ?_⟩
  obtain ⟨c, k, i, f, a, cell, h1, h2, h3, h4, h5, h6, h7, h8, h9⟩ := Cond.laysStatic_spec hl
  exact ⟨c, k, i, f, a, cell, h1, h2, h3, h4, h5, h6, h7, h8, h9, hA a (Array.getElem?_eq_some_iff.mp h5).1⟩
theorem vx_isRef {C n d : String} {v : Value} {A : Nat → Prop} {s : State} {args : Array Value} (h : va_Z C n d v A s s.heap) (hv : v.isRef = true) : (Cond.isRef (.static C n d)).before args s = true := by
  obtain ⟨cf, kf, fi, f, a, cell, h1, h2, h3, h4, h5, h6, h7, -⟩ := h
  have he : (Term.static C n d).eval args s none [] s = some v := by
    simp [Term.eval, State.fieldNamed?, h1, h2, h4, h5, h6, h7]
  simp only [Cond.before, Cond.holds, Cond.value, he]
  cases v <;> simp_all [Value.isRef]
theorem vx_isRefq {C n d : String} {A : Nat → Prop} {s : State} {args : Array Value} (h : va_Zq C n d A s s.heap) : (Cond.isRef (.static C n d)).before args s = true := by
  rcases h with h | ⟨t, h⟩
  · exact vx_isRef h rfl
  · exact vx_isRef h rfl
/-- the same frame, seen from here: as if the method were called anew in this heap -/
theorem vx_rebase {T : State} (X : Stand p l e R s m args below meth c T locs cells slots) {R' : Room} (hf : R'.frames ≤ R.frames) (hl : R'.locals ≤ R.locals) (hc : cells + R'.cells ≤ R.cells) (hs : slots + R'.slots ≤ R.slots) :
    Stand p l e R' ((T.setVm s.vm).setFrames (.invoking m args :: below)) m args below meth c T [] 0 0 := by
  have htop : (T.setVm s.vm).topJava?.isSome := X.here.top
  have hF : ((T.setVm s.vm).setFrames (.invoking m args :: below)).frames = .invoking m args :: below := State.frames_setFrames _ (State.cur_lt_of_top htop)
  obtain ⟨g₀, hg0⟩ := Option.isSome_iff_exists.mp htop
  obtain ⟨r, hr⟩ := State.topJava?_eq_some.mp hg0
  have hl9 : e.platform.stackLimits (T.setVm s.vm).me = e.platform.stackLimits s.me := X.limits
  have hb9 : (T.setVm s.vm).me.stackBytes = s.me.stackBytes := X.bytes
  refine ⟨X.admits, X.cas, X.clock, hF, ?_, X.hears, X.method, X.code, X.here, X.tail, X.warmed, ?_, ?_, ?_⟩
  · have h := X.room
    have hU : ((T.setVm s.vm).setFrames (.invoking m args :: below)).localsInUse = s.localsInUse := by
      rw [State.localsInUse_invoking hF (meth := meth) (c := c) X.method X.code, State.localsInUse_invoking X.frames X.method X.code]
    simp only [State.hasRoom, Bool.and_eq_true, decide_eq_true_eq] at h ⊢
    obtain ⟨⟨⟨⟨h1, h2, h3, h4, h5, h6⟩, h7⟩, h8⟩, h9⟩ := h
    rw [X.frames, List.length_cons] at h2 h3
    have q1 := X.heapSize
    have q2 := X.used
    simp only [hF, hU, List.length_cons, State.stackLimits_setFrames, State.stackBytes_setFrames, hl9, hb9]
    refine ⟨⟨⟨⟨by omega, by omega, by omega, by omega, by omega, h6⟩, ?_⟩, ?_⟩, X.book⟩
    · show T.heap.size + R'.cells ≤ e.platform.maxCells
      omega
    · show T.slotsUsed + R'.slots ≤ e.platform.maxSlots
      omega
  · rw [State.stackLimits_setFrames]; rfl
  · rw [State.stackBytes_setFrames]; rfl
  · refine ⟨?_, Nat.le_refl _, Nat.le_refl _, ?_, ?_, fun a c9 h9 => ⟨c9, h9, rfl, rfl, fun _ _ => rfl⟩⟩
    · obtain ⟨t, ht, -⟩ := State.frames_cons hr
      show T.setVm s.vm = { ((T.setVm s.vm).setFrames (.invoking m args :: below)).setFrames (T.setVm s.vm).frames with heap := T.heap, slotsUsed := T.slotsUsed }
      rw [State.setFrames_setFrames, State.setFrames_self ht]
      rfl
    · show T.slotsUsed = T.slotsUsed + ((T.heap.toList.drop T.heap.size).map (·.slots.size)).sum
      rw [List.drop_eq_nil_of_le (Nat.le_of_eq Array.length_toList)]
      rfl
    · show ((T.heap.toList.drop T.heap.size).map (·.slots.size)).sum ≤ 0
      rw [List.drop_eq_nil_of_le (Nat.le_of_eq Array.length_toList)]
      exact Nat.le_refl _
/-- 'throw new E()': new; dup; invokespecial; athrow -/
theorem vx_throw0 {cc : ByteArray} {pc : Nat} (hexec : p.tables.exec = Jvm.exec) (hb : c.code = cc) (hl : l.stackTraces = false) {own cls : String} {names : List String} {ik ic mc ms : Nat} {A : Nat → Prop}
    (hown : s.vm.findClass own = some m.cls) (hcls : Bundle.fit cls = true) (hnames : ∀ n ∈ names, Bundle.fit n = true)
    (hk : (Cond.classLink own ik cls).before args s = true) (hini : (Cond.initialized cls).before args s = true) (hat : ∀ w ∈ vx_at0 own ic cls names, w.before args s = true)
    (hgood : ∀ w ∈ Cond.classLink own ik cls :: Cond.initialized cls :: vx_at0 own ic cls names, vx_ot w = true)
    (hU : vx_Zq Bundle.tN "UNASSIGNED_STACK" Bundle.steD A s s.heap) (hN : vx_Zq Bundle.tN "SUPPRESSED_SENTINEL" Bundle.listD A s s.heap) (hS : va_S A s.heap H locs) (hsize : ls.size = c.maxLocals)
    (d0 : decode cc pc = .ok (.new ik, 3)) (d3 : decode cc (pc + 3) = .ok (.dup, 1)) (d4 : decode cc (pc + 4) = .ok (.invokespecial ic, 3)) (d7 : decode cc (pc + 7) = .ok (.athrow, 1))
    (hout : ∀ x ∈ c.exceptionTable.toList, covers x (pc + 7) = false)
    (hRframes : names.length + 3 < R.frames) (hRlocals : (rest.map fun v => v.category).sum + (13 * (names.length + 1) + 42) ≤ R.locals) (hRcells : cells + 1 ≤ R.cells) (hRslots : slots + 6 ≤ R.slots) (hlocks : meth.locks = false)
    (hx : ∀ t : State, s.vm.Alike t.vm → H.size ≤ t.heap.size → (∀ q : Nat, q < H.size → t.heap[q]? = H[q]?) → XC cls s t)
    (hf : ∀ z ∈ locs, free z.base) (hc : cells + 1 ≤ mc) (hs : slots + 6 ≤ ms) :
    W p l e R s m args below meth c H locs cells slots (vx_MQ below Qc XC args s mc ms free) (F0 m pc ls rest) := by
  intro T hT X
  have htr : e.platform.stackTraces = false := (show e.platform.stackTraces = l.stackTraces by rw [X.admits.platform]).trans hl
  have Y := vx_rebase X (R' := { frames := R.frames, locals := R.locals, cells := 1, slots := 6 }) (Nat.le_refl _) (Nat.le_refl _) hRcells hRslots
  obtain ⟨s', hA⟩ : ∃ z, z = (T.setVm s.vm).setFrames (.invoking m args :: below) := ⟨_, rfl⟩
  rw [← hA] at Y
  have hvm : s'.vm = s.vm := by rw [hA]; rfl
  have hhp : s'.heap = H := by rw [hA]; exact hT
  have hW0 : s.WarmedH s'.vm := by rw [hvm]; exact State.WarmedH.refl s
  have hat' : ∀ w ∈ vx_at0 own ic cls names, w.before args s' = true := fun w hw => vx_ot_at hW0 hvm.symm (hgood w (List.mem_cons_of_mem _ (List.mem_cons_of_mem _ hw))) (hat w hw)
  have hk' : (Cond.classLink own ik cls).before args s' = true := vx_ot_at hW0 hvm.symm (hgood _ List.mem_cons_self) hk
  have hini' : (Cond.initialized cls).before args s' = true := vx_ot_at hW0 hvm.symm (hgood _ (List.mem_cons_of_mem _ List.mem_cons_self)) hini
  have hU' : vx_Zq Bundle.tN "UNASSIGNED_STACK" Bundle.steD A s' s'.heap := by rw [hhp]; exact vx_Zq.moved hW0.alike (hU.kept hS.2.1)
  have hN' : vx_Zq Bundle.tN "SUPPRESSED_SENTINEL" Bundle.listD A s' s'.heap := by rw [hhp]; exact vx_Zq.moved hW0.alike (hN.kept hS.2.1)
  have h : ∀ w ∈ Bundle.ownAtoms0 own ic cls names, w.before args s' = true := vx_own hat' (vx_isRefq hU'.1) (vx_isRefq hN'.1) hU'.2.word hN'.2.word
  have hown' : s'.vm.findClass own = some m.cls := by rw [hvm]; exact hown
  have hins : (Cond.instantiable cls 6).before args s' = true := h _ (by simp [Bundle.ownAtoms0])
  obtain ⟨vm₁, cX, kX, hfX, hkX, -, -, X₁, st1⟩ := Y.newCold hexec (own := own) (C := cls) (index := ik) (n := 6) hown' hk' hins hini'
    (g := F0 m pc ls rest) rfl (by rw [hb]; exact d0) (Nat.le_refl _) (Nat.le_refl _)
  generalize hT1 : (T.setVm vm₁).pushCell { cls := cX, slots := kX.instanceTypes.map defaultValue, vm := .none } = T1 at X₁ st1
  have hcat : (Value.ref T.heap.size).category = 1 := rfl
  have hcellA : T1.heap[T.heap.size]? = some (freshCell cX kX) := by rw [← hT1]; exact State.heap_pushCell_size _ _
  have d3' : decode c.code (pc + 3) = .ok (.dup, 1) := by rw [hb]; exact d3
  obtain ⟨U, hsteps, hrun, hend, hW, hsame, ce, hce, hO⟩ := X₁.ctorThrow0 hexec htr (own := own) (cls := cls) (names := names) (ic := ic) hown' hcls hnames h (fun x hx => nomatch hx) hfX hkX hcellA (by rw [hhp, hT]; exact Nat.le_refl _)
    (g := { method := m, pc := pc + 4, locals := ls, stack := .ref T.heap.size :: .ref T.heap.size :: rest, locked := none }) rfl hsize rfl rfl (rest := rest) rfl
    (by rw [hb]; exact d4) (by rw [hb]; exact d7) hout hRframes (by simp only [List.map_cons, List.sum_cons, hcat]; omega) hlocks
  obtain ⟨f1, f2⟩ := vx_frame hsame
  rw [hhp] at f1 f2
  have hWs : s.WarmedH U.vm := State.WarmedH.trans hW0 hW
  have hcl : s.vm.findClass cls = some ce.cls := by
    have h9 := hO.cls
    rw [hvm] at h9
    exact h9
  have hall : s.sameButNew ({ U with vm := s.vm } : State) locs mc ms := by
    subst hA
    obtain ⟨e1, e2⟩ := hsame
    rw [State.setFrames_setFrames] at e1
    have h2 : (T.setVm s.vm).sameButNew ({ U with vm := s.vm } : State) [] (0 + 1) (0 + 6) := ⟨e1, e2⟩
    have h3 := X.same.trans h2
    rw [List.append_nil] at h3
    exact h3.mono hc hs
  refine ⟨U, ?_, .threw T.heap.size, hrun, hend, Or.inr ⟨T.heap.size, rfl, cls, ce, locs, hx U hWs.alike f1 (fun q hq => f2 q hq (fun z hz => nomatch hz)), hce, hO.vm, hcl, hWs, hall, hf⟩⟩
  refine st1 _ ?_
  show Steps p.tables e below (T1.setTop { method := m, pc := pc + 3, locals := ls, stack := .ref T.heap.size :: rest, locked := none }) _
  jvm_step X₁.here [X₁.here.top, hexec, d3', Value.category]
  exact hsteps
/-- 'throw new E("text")': new; dup; ldc; invokespecial; athrow -/
theorem vx_throwS {cc : ByteArray} {pc : Nat} (hexec : p.tables.exec = Jvm.exec) (hb : c.code = cc) (hl : l.stackTraces = false) {own cls text : String} {names : List String} {ik is ic mc ms sa : Nat} {A : Nat → Prop}
    (hown : s.vm.findClass own = some m.cls) (hcls : Bundle.fit cls = true) (hnames : ∀ n ∈ names, Bundle.fit n = true)
    (hk : (Cond.classLink own ik cls).before args s = true) (hini : (Cond.initialized cls).before args s = true) (hstr : vk_R own is text sa s) (hat : ∀ w ∈ vx_atS own ic cls names, w.before args s = true)
    (hgood : ∀ w ∈ Cond.classLink own ik cls :: Cond.initialized cls :: vx_atS own ic cls names, vx_ot w = true)
    (hU : vx_Zq Bundle.tN "UNASSIGNED_STACK" Bundle.steD A s s.heap) (hN : vx_Zq Bundle.tN "SUPPRESSED_SENTINEL" Bundle.listD A s s.heap) (hS : va_S A s.heap H locs) (hsize : ls.size = c.maxLocals)
    (d0 : decode cc pc = .ok (.new ik, 3)) (d3 : decode cc (pc + 3) = .ok (.dup, 1)) (d4 : decode cc (pc + 4) = .ok (.ldc is, 2)) (d6 : decode cc (pc + 6) = .ok (.invokespecial ic, 3)) (d9 : decode cc (pc + 9) = .ok (.athrow, 1))
    (hout : ∀ x ∈ c.exceptionTable.toList, covers x (pc + 9) = false)
    (hRframes : names.length + 3 < R.frames) (hRlocals : (rest.map fun v => v.category).sum + (13 * (names.length + 1) + 43) ≤ R.locals) (hRcells : cells + 1 ≤ R.cells) (hRslots : slots + 6 ≤ R.slots) (hlocks : meth.locks = false)
    (hx : ∀ t : State, s.vm.Alike t.vm → H.size ≤ t.heap.size → (∀ q : Nat, q < H.size → t.heap[q]? = H[q]?) → XC cls s t)
    (hf : ∀ z ∈ locs, free z.base) (hc : cells + 1 ≤ mc) (hs : slots + 6 ≤ ms) :
    W p l e R s m args below meth c H locs cells slots (vx_MQ below Qc XC args s mc ms free) (F0 m pc ls rest) := by
  intro T hT X
  have htr : e.platform.stackTraces = false := (show e.platform.stackTraces = l.stackTraces by rw [X.admits.platform]).trans hl
  have Y := vx_rebase X (R' := { frames := R.frames, locals := R.locals, cells := 1, slots := 6 }) (Nat.le_refl _) (Nat.le_refl _) hRcells hRslots
  obtain ⟨s', hA⟩ : ∃ z, z = (T.setVm s.vm).setFrames (.invoking m args :: below) := ⟨_, rfl⟩
  rw [← hA] at Y
  have hvm : s'.vm = s.vm := by rw [hA]; rfl
  have hhp : s'.heap = H := by rw [hA]; exact hT
  have hW0 : s.WarmedH s'.vm := by rw [hvm]; exact State.WarmedH.refl s
  have hat' : ∀ w ∈ vx_atS own ic cls names, w.before args s' = true := fun w hw => vx_ot_at hW0 hvm.symm (hgood w (List.mem_cons_of_mem _ (List.mem_cons_of_mem _ hw))) (hat w hw)
  have hk' : (Cond.classLink own ik cls).before args s' = true := vx_ot_at hW0 hvm.symm (hgood _ List.mem_cons_self) hk
  have hini' : (Cond.initialized cls).before args s' = true := vx_ot_at hW0 hvm.symm (hgood _ (List.mem_cons_of_mem _ List.mem_cons_self)) hini
  have hU' : vx_Zq Bundle.tN "UNASSIGNED_STACK" Bundle.steD A s' s'.heap := by rw [hhp]; exact vx_Zq.moved hW0.alike (hU.kept hS.2.1)
  have hN' : vx_Zq Bundle.tN "SUPPRESSED_SENTINEL" Bundle.listD A s' s'.heap := by rw [hhp]; exact vx_Zq.moved hW0.alike (hN.kept hS.2.1)
  have h : ∀ w ∈ Bundle.ownAtoms own ic cls names, w.before args s' = true := vx_own hat' (vx_isRefq hU'.1) (vx_isRefq hN'.1) hU'.2.word hN'.2.word
  have hown' : s'.vm.findClass own = some m.cls := by rw [hvm]; exact hown
  have hins : (Cond.instantiable cls 6).before args s' = true := h _ (by simp [Bundle.ownAtoms])
  obtain ⟨vm₁, cX, kX, hfX, hkX, -, -, X₁, st1⟩ := Y.newCold hexec (own := own) (C := cls) (index := ik) (n := 6) hown' hk' hins hini'
    (g := F0 m pc ls rest) rfl (by rw [hb]; exact d0) (Nat.le_refl _) (Nat.le_refl _)
  generalize hT1 : (T.setVm vm₁).pushCell { cls := cX, slots := kX.instanceTypes.map defaultValue, vm := .none } = T1 at X₁ st1
  have hcat : (Value.ref T.heap.size).category = 1 := rfl
  have hcellA : T1.heap[T.heap.size]? = some (freshCell cX kX) := by rw [← hT1]; exact State.heap_pushCell_size _ _
  have d3' : decode c.code (pc + 3) = .ok (.dup, 1) := by rw [hb]; exact d3
  have d4' : decode c.code (pc + 4) = .ok (.ldc is, 2) := by rw [hb]; exact d4
  have hstr' : vk_R own is text sa s' := vk_R.warm hW0 hstr
  obtain ⟨U, hsteps, hrun, hend, hW, hsame, ce, hce, hO⟩ := X₁.ctorThrowS hexec htr (own := own) (cls := cls) (names := names) (ic := ic) hown' hcls hnames h (fun x hx => nomatch hx) hfX hkX hcellA (by rw [hhp, hT]; exact Nat.le_refl _) (msg := .ref sa) rfl
    (g := { method := m, pc := pc + 6, locals := ls, stack := .ref sa :: .ref T.heap.size :: .ref T.heap.size :: rest, locked := none }) rfl hsize rfl rfl (rest := rest) rfl
    (by rw [hb]; exact d6) (by rw [hb]; exact d9) hout hRframes (by simp only [List.map_cons, List.sum_cons, hcat]; omega) hlocks
  obtain ⟨f1, f2⟩ := vx_frame hsame
  rw [hhp] at f1 f2
  have hWs : s.WarmedH U.vm := State.WarmedH.trans hW0 hW
  have hcl : s.vm.findClass cls = some ce.cls := by
    have h9 := hO.cls
    rw [hvm] at h9
    exact h9
  have hall : s.sameButNew ({ U with vm := s.vm } : State) locs mc ms := by
    subst hA
    obtain ⟨e1, e2⟩ := hsame
    rw [State.setFrames_setFrames] at e1
    have h2 : (T.setVm s.vm).sameButNew ({ U with vm := s.vm } : State) [] (0 + 1) (0 + 6) := ⟨e1, e2⟩
    have h3 := X.same.trans h2
    rw [List.append_nil] at h3
    exact h3.mono hc hs
  refine ⟨U, ?_, .threw T.heap.size, hrun, hend, Or.inr ⟨T.heap.size, rfl, cls, ce, locs, hx U hWs.alike f1 (fun q hq => f2 q hq (fun z hz => nomatch hz)), hce, hO.vm, hcl, hWs, hall, hf⟩⟩
  refine st1 _ ?_
  show Steps p.tables e below (T1.setTop { method := m, pc := pc + 3, locals := ls, stack := .ref T.heap.size :: rest, locked := none }) _
  jvm_step X₁.here [X₁.here.top, hexec, d3', Value.category]
  exact X₁.ldcString hexec (own := own) (text := text) (index := is) (a := sa) hown' hstr'.1 hstr'.2
    (g := { method := m, pc := pc + 4, locals := ls, stack := .ref T.heap.size :: .ref T.heap.size :: rest, locked := none }) rfl d4' _ hsteps
/-- 'throw new E("text")', the text by a wide index -/
theorem vx_throwSW {cc : ByteArray} {pc : Nat} (hexec : p.tables.exec = Jvm.exec) (hb : c.code = cc) (hl : l.stackTraces = false) {own cls text : String} {names : List String} {ik is ic mc ms sa : Nat} {A : Nat → Prop}
    (hown : s.vm.findClass own = some m.cls) (hcls : Bundle.fit cls = true) (hnames : ∀ n ∈ names, Bundle.fit n = true)
    (hk : (Cond.classLink own ik cls).before args s = true) (hini : (Cond.initialized cls).before args s = true) (hstr : vk_R own is text sa s) (hat : ∀ w ∈ vx_atS own ic cls names, w.before args s = true)
    (hgood : ∀ w ∈ Cond.classLink own ik cls :: Cond.initialized cls :: vx_atS own ic cls names, vx_ot w = true)
    (hU : vx_Zq Bundle.tN "UNASSIGNED_STACK" Bundle.steD A s s.heap) (hN : vx_Zq Bundle.tN "SUPPRESSED_SENTINEL" Bundle.listD A s s.heap) (hS : va_S A s.heap H locs) (hsize : ls.size = c.maxLocals)
    (d0 : decode cc pc = .ok (.new ik, 3)) (d3 : decode cc (pc + 3) = .ok (.dup, 1)) (d4 : decode cc (pc + 4) = .ok (.ldc_w is, 3)) (d7 : decode cc (pc + 7) = .ok (.invokespecial ic, 3)) (d10 : decode cc (pc + 10) = .ok (.athrow, 1))
    (hout : ∀ x ∈ c.exceptionTable.toList, covers x (pc + 10) = false)
    (hRframes : names.length + 3 < R.frames) (hRlocals : (rest.map fun v => v.category).sum + (13 * (names.length + 1) + 43) ≤ R.locals) (hRcells : cells + 1 ≤ R.cells) (hRslots : slots + 6 ≤ R.slots) (hlocks : meth.locks = false)
    (hx : ∀ t : State, s.vm.Alike t.vm → H.size ≤ t.heap.size → (∀ q : Nat, q < H.size → t.heap[q]? = H[q]?) → XC cls s t)
    (hf : ∀ z ∈ locs, free z.base) (hc : cells + 1 ≤ mc) (hs : slots + 6 ≤ ms) :
    W p l e R s m args below meth c H locs cells slots (vx_MQ below Qc XC args s mc ms free) (F0 m pc ls rest) := by
  intro T hT X
  have htr : e.platform.stackTraces = false := (show e.platform.stackTraces = l.stackTraces by rw [X.admits.platform]).trans hl
  have Y := vx_rebase X (R' := { frames := R.frames, locals := R.locals, cells := 1, slots := 6 }) (Nat.le_refl _) (Nat.le_refl _) hRcells hRslots
  obtain ⟨s', hA⟩ : ∃ z, z = (T.setVm s.vm).setFrames (.invoking m args :: below) := ⟨_, rfl⟩
  rw [← hA] at Y
  have hvm : s'.vm = s.vm := by rw [hA]; rfl
  have hhp : s'.heap = H := by rw [hA]; exact hT
  have hW0 : s.WarmedH s'.vm := by rw [hvm]; exact State.WarmedH.refl s
  have hat' : ∀ w ∈ vx_atS own ic cls names, w.before args s' = true := fun w hw => vx_ot_at hW0 hvm.symm (hgood w (List.mem_cons_of_mem _ (List.mem_cons_of_mem _ hw))) (hat w hw)
  have hk' : (Cond.classLink own ik cls).before args s' = true := vx_ot_at hW0 hvm.symm (hgood _ List.mem_cons_self) hk
  have hini' : (Cond.initialized cls).before args s' = true := vx_ot_at hW0 hvm.symm (hgood _ (List.mem_cons_of_mem _ List.mem_cons_self)) hini
  have hU' : vx_Zq Bundle.tN "UNASSIGNED_STACK" Bundle.steD A s' s'.heap := by rw [hhp]; exact vx_Zq.moved hW0.alike (hU.kept hS.2.1)
  have hN' : vx_Zq Bundle.tN "SUPPRESSED_SENTINEL" Bundle.listD A s' s'.heap := by rw [hhp]; exact vx_Zq.moved hW0.alike (hN.kept hS.2.1)
  have h : ∀ w ∈ Bundle.ownAtoms own ic cls names, w.before args s' = true := vx_own hat' (vx_isRefq hU'.1) (vx_isRefq hN'.1) hU'.2.word hN'.2.word
  have hown' : s'.vm.findClass own = some m.cls := by rw [hvm]; exact hown
  have hins : (Cond.instantiable cls 6).before args s' = true := h _ (by simp [Bundle.ownAtoms])
  obtain ⟨vm₁, cX, kX, hfX, hkX, -, -, X₁, st1⟩ := Y.newCold hexec (own := own) (C := cls) (index := ik) (n := 6) hown' hk' hins hini'
    (g := F0 m pc ls rest) rfl (by rw [hb]; exact d0) (Nat.le_refl _) (Nat.le_refl _)
  generalize hT1 : (T.setVm vm₁).pushCell { cls := cX, slots := kX.instanceTypes.map defaultValue, vm := .none } = T1 at X₁ st1
  have hcat : (Value.ref T.heap.size).category = 1 := rfl
  have hcellA : T1.heap[T.heap.size]? = some (freshCell cX kX) := by rw [← hT1]; exact State.heap_pushCell_size _ _
  have d3' : decode c.code (pc + 3) = .ok (.dup, 1) := by rw [hb]; exact d3
  have d4' : decode c.code (pc + 4) = .ok (.ldc_w is, 3) := by rw [hb]; exact d4
  have hstr' : vk_R own is text sa s' := vk_R.warm hW0 hstr
  obtain ⟨U, hsteps, hrun, hend, hW, hsame, ce, hce, hO⟩ := X₁.ctorThrowS hexec htr (own := own) (cls := cls) (names := names) (ic := ic) hown' hcls hnames h (fun x hx => nomatch hx) hfX hkX hcellA (by rw [hhp, hT]; exact Nat.le_refl _) (msg := .ref sa) rfl
    (g := { method := m, pc := pc + 7, locals := ls, stack := .ref sa :: .ref T.heap.size :: .ref T.heap.size :: rest, locked := none }) rfl hsize rfl rfl (rest := rest) rfl
    (by rw [hb]; exact d7) (by rw [hb]; exact d10) hout hRframes (by simp only [List.map_cons, List.sum_cons, hcat]; omega) hlocks
  obtain ⟨f1, f2⟩ := vx_frame hsame
  rw [hhp] at f1 f2
  have hWs : s.WarmedH U.vm := State.WarmedH.trans hW0 hW
  have hcl : s.vm.findClass cls = some ce.cls := by
    have h9 := hO.cls
    rw [hvm] at h9
    exact h9
  have hall : s.sameButNew ({ U with vm := s.vm } : State) locs mc ms := by
    subst hA
    obtain ⟨e1, e2⟩ := hsame
    rw [State.setFrames_setFrames] at e1
    have h2 : (T.setVm s.vm).sameButNew ({ U with vm := s.vm } : State) [] (0 + 1) (0 + 6) := ⟨e1, e2⟩
    have h3 := X.same.trans h2
    rw [List.append_nil] at h3
    exact h3.mono hc hs
  refine ⟨U, ?_, .threw T.heap.size, hrun, hend, Or.inr ⟨T.heap.size, rfl, cls, ce, locs, hx U hWs.alike f1 (fun q hq => f2 q hq (fun z hz => nomatch hz)), hce, hO.vm, hcl, hWs, hall, hf⟩⟩
  refine st1 _ ?_
  show Steps p.tables e below (T1.setTop { method := m, pc := pc + 3, locals := ls, stack := .ref T.heap.size :: rest, locked := none }) _
  jvm_step X₁.here [X₁.here.top, hexec, d3', Value.category]
  exact X₁.ldcStringW hexec (own := own) (text := text) (index := is) (a := sa) hown' hstr'.1 hstr'.2
    (g := { method := m, pc := pc + 4, locals := ls, stack := .ref T.heap.size :: .ref T.heap.size :: rest, locked := none }) rfl d4' _ hsteps
end Ends
section Bodies
variable {l : Launch}
theorem vx_ofW {y : MethodName} {ws ws' : List Cond} {rm : Room} {Pc : Array Value → State → Prop} {Qc : Array Value → State → Outcome → State → Prop} {XC : String → State → State → Prop} {mc ms : Nat} {free : Addr → Prop} {cc : ByteArray} {maxL : Nat} {ret : Option FieldType}
    (hy : plainName y.cls = true) (hw : ws = Cond.code y cc maxL ret :: ws')
    (body : ∀ p e s m args below meth c s₁, BodyLoose p l y (headSpec ws rm) cc maxL ret e s m args below meth c s₁ → c.maxLocals = maxL → (∀ x ∈ c.exceptionTable.toList, False) → Pc args s →
      W p l e (headSpec ws rm).room s m args below meth c s.heap [] 0 0 (vx_MQ below Qc XC args s mc ms free) (entryFrame m args maxL)) : vx_Met l y ws rm Pc Qc XC mc ms free := by
  refine MetFree.of_bodyS (code := cc) (maxLocals := maxL) (ret := ret) hy ?_ ?_
  · intro args s m h hn
    obtain ⟨meth, c, h1, h2, h3, h4, h5, h6, -, -⟩ := Cond.code_spec hn (atoms_spec (ws := ws) h _ (by rw [hw]; exact List.mem_cons_self))
    exact ⟨meth, c, h1, h2, h3, h4, h5, h6⟩
  · intro p e s m args below meth c s₁ B hml hP _
    have hh0 : s₁.heap = s.heap := by rw [B.state]; rfl
    have ht : ∀ x ∈ c.exceptionTable.toList, False := by
      obtain ⟨meth9, c9, h1, h2, -, -, -, -, h7, -⟩ := Cond.code_spec B.named (atoms_spec (ws := ws) B.pre _ (by rw [hw]; exact List.mem_cons_self))
      cases Option.some.inj (h1.symm.trans B.method)
      cases Option.some.inj (h2.symm.trans (Stand.of_body B).code)
      intro x hx
      rw [Array.isEmpty_iff.mp h7] at hx
      cases hx
    obtain ⟨t, a1, o, b1, b2, b3⟩ := body p e s m args below meth c s₁ B hml ht hP s₁ hh0 (Stand.of_body B)
    exact ⟨t, o, a1, b1, b2, b3⟩
/-- the table of a body with handlers -/
theorem vx_table {p : Program} {x y : MethodName} {S : Spec} {cc bytes : ByteArray} {maxL maxL' : Nat} {ret ret' : Option FieldType} {e : Env} {s s₁ : State} {m : MethodId} {args : Array Value} {below : List Frame} {meth : Method} {c : Code} {hh : List (Nat × Nat × Nat × Nat)}
    (B : BodyLoose p l y S cc maxL ret e s m args below meth c s₁) (h : (Cond.codeWith y bytes maxL' ret' hh).before args s = true) : c.exceptionTable.toList = tableOf hh := by
  obtain ⟨m9, meth9, c9, hn9, h1, h2, -, -, h6, -⟩ := Cond.codeWith_spec h
  cases Option.some.inj (hn9.symm.trans B.named)
  cases Option.some.inj (h1.symm.trans B.method)
  cases Option.some.inj (h2.symm.trans (Stand.of_body B).code)
  rw [← h6, table_eq]
end Bodies
end VXA
/-! ===== END ===== -/
/-! ===== BEGIN a static call of a method with an exception table ===== -/
section VXS
variable {p : Program} {l : Launch} {e : Env} {R : Room} {s : State} {m : MethodId} {args : Array Value} {below : List Frame} {meth : Method} {c : Code} {T : State} {H : Heap} {locs : List Loc} {cells slots : Nat}
abbrev vx_CSW (R : Room) (s : State) (args : Array Value) (own : String) (index : Nat) (y : MethodName) (bytes : ByteArray) (maxL : Nat) (ret : Option FieldType) (hh : List (Nat × Nat × Nat × Nat)) (ws : List Cond) (rm : Room) (mc ms n : Nat) : Prop :=
  (rm.cells = mc ∧ rm.slots = ms ∧ rm.frames + 1 ≤ R.frames ∧ 8 + (maxL + 11) + rm.locals ≤ R.locals ∧ (∀ w ∈ ws, ∀ (a' : Array Value) (U : State), s.WarmedH U.vm → w.before a' U = true) ∧ Cond.codeWith y bytes maxL ret hh ∈ ws) ∧
  (Cond.codeWith y bytes maxL ret hh).before args s = true ∧ (Cond.initialized y.cls).before args s = true ∧ (y.cls ≠ "java/lang/invoke/MethodHandle" ∧ y.cls ≠ "java/lang/invoke/VarHandle") ∧
  (∀ sig, parseMethodDescriptor y.desc = some sig → n = sig.parameters.length) ∧ (Cond.methodLink own index y).before args s = true ∧ (Cond.static y).before args s = true
theorem vx_cwSW {own : String} {index maxL mc ms : Nat} {y : MethodName} {bytes : ByteArray} {ret : Option FieldType} {hh : List (Nat × Nat × Nat × Nat)} {Ts ws ws' : List Cond} {rm : Room} (n : Nat) (ht : ∀ w ∈ Ts, w.before args s = true) (hT : GoodIn Ts (va_wsS own index y ws)) (hw : ws = Cond.codeWith y bytes maxL ret hh :: ws') (hrc : rm.cells = mc) (hrs : rm.slots = ms)
    (hd : y.cls ≠ "java/lang/invoke/MethodHandle" ∧ y.cls ≠ "java/lang/invoke/VarHandle" ∧ (parseMethodDescriptor y.desc).map (fun d => d.parameters.length) = some n) (hR : rm.frames + 1 ≤ R.frames ∧ 8 + (maxL + 11) + rm.locals ≤ R.locals) :
    vx_CSW R s args own index y bytes maxL ret hh ws rm mc ms n := by
  have ok : ∀ w ∈ va_wsS own index y ws, w.before args s = true := fun w h => ht w (hT w h).1
  have hG : GoodIn Ts ws := fun w h => hT w (by unfold va_wsS; exact List.mem_append_right _ h)
  have hc : Cond.codeWith y bytes maxL ret hh ∈ ws := by rw [hw]; exact List.mem_cons_self
  refine ⟨⟨hrc, hrs, hR.1, hR.2, pay_in ht hG, hc⟩, ht _ (hG _ hc).1, ok _ (by simp [va_wsS]), ⟨hd.1, hd.2.1⟩, fun sig h => ?_, ok _ (by simp [va_wsS]), ok _ (by simp [va_wsS])⟩
  have h2 := hd.2.2
  rw [h] at h2
  exact (Option.some.inj h2).symm
theorem vx_callSW (X : Stand p l e R s m args below meth c T locs cells slots) (hexec : p.tables.exec = Jvm.exec) {own : String} {index : Nat} {y : MethodName} {bytes : ByteArray} {maxL : Nat} {ret : Option FieldType} {hh : List (Nat × Nat × Nat × Nat)}
    (hown : s.vm.findClass own = some m.cls) (hlink : (Cond.methodLink own index y).before args s = true) (hstat : (Cond.static y).before args s = true) (hinit : (Cond.initialized y.cls).before args s = true)
    (hcode : (Cond.codeWith y bytes maxL ret hh).before args s = true) (hy : y.cls ≠ "java/lang/invoke/MethodHandle" ∧ y.cls ≠ "java/lang/invoke/VarHandle")
    {W9 : Nat} {Pre : Pt → Array Value → Prop} {Post : Pt → Array Value → Option Value → Pt → Prop} (hK : Back l R p e below s args y 3 W9 Pre Post)
    {g : JFrame} (hg : g.method = m) (hsize : g.locals.size = c.maxLocals) {argsL rest : List Value} (hlen : ∀ sig, parseMethodDescriptor y.desc = some sig → argsL.length = sig.parameters.length)
    (hstack : g.stack = argsL.reverse ++ rest) (hW : 2 * g.monitorRoom + (rest.map fun v => v.category).sum ≤ W9) (hdg : decode c.code g.pc = .ok (.invokestatic index, 3))
    (hpre : ∀ vm₁, s.WarmedH vm₁ → Pre ⟨T.setVm vm₁, locs, cells, slots⟩ argsL.toArray) :
    ∃ (v : Option Value) (vm₁ : Vm) (B : Pt), s.WarmedH vm₁ ∧ Stand p l e R s m args below meth c B.U B.locs B.cells B.slots ∧ Post ⟨T.setVm vm₁, locs, cells, slots⟩ argsL.toArray v B ∧
      ∀ target, Steps p.tables e below (B.U.setTop { g with pc := g.pc + 3, stack := v.toList ++ rest }) target → Steps p.tables e below (T.setTop g) target := by
  obtain ⟨mk, methM, cM, hnamed, hmethM, -, -, -, -, -, -, hsigM⟩ := Cond.codeWith_spec hcode
  have hstatic : methM.isStatic = true := Cond.static_spec hnamed hmethM hstat
  obtain ⟨kP, hkP, -⟩ := className_of_methodNamed hnamed
  have hinitP : kP.init = .initialized := Cond.initialized_spec (findClass_of_methodNamed hnamed) hkP hinit
  obtain ⟨vm₁, X₁, hstep₁⟩ := X.invokestatic hexec hown hlink hnamed hmethM hstatic hkP hinitP hy (g := g) hg (argsL := argsL) (rest := rest) (hlen _ hsigM) hstack hdg
  obtain ⟨v, B, X', hpost, hsteps⟩ := hK m meth c ⟨T.setVm vm₁, locs, cells, slots⟩ { g with stack := rest } (.invokestatic index) mk argsL.toArray X₁ hg hsize hdg hW (X₁.named hnamed) (hpre vm₁ X₁.warmed)
  exact ⟨v, vm₁, B, X₁.warmed, X', hpost, fun target h => hstep₁ _ fun acts => by rw [doInvoke_state]; exact hsteps.trans h⟩
theorem vx_runSW {y : MethodName} {bytes cc : ByteArray} {maxL nL mc ms n index : Nat} {ret : Option FieldType} {hh : List (Nat × Nat × Nat × Nat)} {ws : List Cond} {rm : Room} {Pc : Array Value → State → Prop} {Qc : Array Value → State → Outcome → State → Prop} {free : Addr → Prop} {Ts : List Cond} {own : String} {As rest : List Value} {g : JFrame}
    (S : CallFix p m c cc nL s args Ts own) (hM : Met l y ws rm Pc Qc mc ms free) (cw : vx_CSW R s args own index y bytes maxL ret hh ws rm mc ms n) (hp : PreS s H Pc As)
    (hg : g.method = m) (hn : As.length = n) (hsize : g.locals.size = nL) (hstack : g.stack = As.reverse ++ rest) (hW : 2 * g.monitorRoom + (rest.map fun v => v.category).sum ≤ 8) (hdg : decode cc g.pc = .ok (.invokestatic index, 3)) (hf : cells + mc ≤ R.cells ∧ slots + ms ≤ R.slots) :
    va_Run p l e R s m args below meth c H locs cells slots mc ms g rest (Qc As.toArray) (free) := by
  obtain ⟨⟨hrc, hrs, hfr, hlo, hws, hcw⟩, hcode, hini, hy, hlen, hl, hstt⟩ := cw
  have hK : Back l R p e below s args y 3 8 (PreOf R mc ms Pc) (PostOf Qc mc ms free) := va_backW (hh := hh) (bytes := bytes) (maxL := maxL) (ret := ret) hM hp.1 hrc hrs hfr hlo hws hcw (fun a' U hW => word_at hW (Or.inl (by first | rfl | simp [Cond.onTables, Cond.keeps, Cond.steady])) hini)
  obtain ⟨hx, hb, hml, ho, -⟩ := S
  intro T hT X
  obtain ⟨v, vm₁, ⟨U', l2, c2, s2⟩, hW₁, X', ⟨g', mk, t, L, e1, e2, hq, h1, hL, h2, h3⟩, st⟩ := vx_callSW X hx (hh := hh) (bytes := bytes) (maxL := maxL) (ret := ret) ho hl hstt hini hcode hy hK hg (hsize.trans hml.symm) (argsL := As) (rest := rest) (fun sig h => hn.trans (hlen sig h)) hstack hW (by rw [hb]; exact hdg)
    (fun vm₁ hW₁ => ⟨hf.1, hf.2, hp.2 (T.setVm vm₁) hT hW₁⟩)
  dsimp only [Pt.U, Pt.locs, Pt.cells, Pt.slots] at X' e1 e2 h1 h2 h3 st
  subst h1; subst h2; subst h3
  exact ⟨v, (T.setVm vm₁).calling g' mk As.toArray, t, U', L, hT, X', hL, e1, e2, hq, st⟩
/-- not caught here, past rows that name other classes: it goes on to the caller -/
theorem vx_outP {p : Program} {l : Launch} {e : Env} {R : Room} {s : State} {m : MethodId} {args : Array Value} {below : List Frame} {meth : Method} {c : Code} {H : Heap} {locs : List Loc} {cells slots : Nat} {free : Addr → Prop} {ls : Array Slot} {rest : List Value} {Qc : Array Value → State → Outcome → State → Prop} {XC : String → State → State → Prop}
    {pc : Nat} {own E : String} {ce : Cell} {q : Addr} {mc ms : Nat} (hown : s.vm.findClass own = some m.cls) (hlocks : meth.locks = false)
    (hpass : ∀ z ∈ c.exceptionTable.toList, covers z pc = false ∨ (z.catchType ≠ 0 ∧ ∃ nm : String, (Cond.classLink own z.catchType nm).before args s = true ∧ va_Nc E nm s)) (hcell : H[q]? = some ce) (hv : ce.vm = .none) (hcl : s.vm.findClass E = some ce.cls)
    (hx : ∀ t : State, t.heap = H → s.vm.Alike t.vm → XC E s t) (hf : ∀ z ∈ locs, free z.base) (hc : cells ≤ mc) (hs : slots ≤ ms) :
    vx_W p l e R s m args below meth c H locs cells slots (vx_MQ below Qc XC args s mc ms free) (F0 m pc ls rest) q := by
  intro T hT X
  have hpl : e.platform.magicAccessors = ({} : Platform).magicAccessors := by rw [X.admits.platform]
  obtain ⟨vm', hW', X', st⟩ := X.outThrough hlocks q (g := F0 m pc ls rest) rfl rfl rfl (cell := ce) (by rw [hT]; exact hcell) (by rw [hv]; rfl)
    (by obtain ⟨k9, h9, -⟩ := Vm.findClass_spec hcl; exact ⟨k9, h9⟩) (fun z hz => by
      rcases hpass z hz with h | ⟨hz0, nm, hl1, hn1⟩
      · exact Or.inl h
      · obtain ⟨c6, hc6, hcl6⟩ := Cond.classLink_spec hown hl1 e.platform hpl
        obtain ⟨a8, b8, h1, h2, h3⟩ := hn1
        cases Option.some.inj (h1.symm.trans hcl)
        cases Option.some.inj (h2.symm.trans hc6)
        exact Or.inr ⟨hz0, _, hcl6, h3⟩)
  obtain ⟨g₀, hfr⟩ := X'.frames_eq
  have hcell9 : ((T.setVm vm').setFrames (.throwing q :: below)).heap[q]? = some ce := by
    show T.heap[q]? = some ce
    rw [hT]; exact hcell
  have hend : Ended ((T.setVm vm').setFrames (.throwing q :: below)) below (.threw q) := State.frames_setFrames _ (State.cur_lt_of_frames hfr)
  refine ⟨(T.setVm vm').setFrames (.throwing q :: below), ?_, .threw q, X'.here.running, hend, Or.inr ⟨q, rfl, E, ce, locs, hx _ hT (X'.ends _).1.alike, hcell9, hv, hcl, (X'.ends _).1, (X'.ends _).2.mono hc hs, hf⟩⟩
  rw [X.pushThrowing_eq]
  exact st
/-- a thing of a world lies in the heap -/
theorem vx_lt {D : va_G} {cl : List vw_C} {ws : va_W} {H1 : Heap} (h : va_P D cl ws H1) {k : Nat} {q : Nat × va_E} (hk : ws[k]? = some q) : q.1 < H1.size := (h k q hk).lt
end VXS
/-! ===== END ===== -/
/-! ===== BEGIN methods with a table of their own: called by a name, returning or throwing ===== -/
section VXH
/-! vx_backW, vx_callVX, vx_callSX, vx_callVW, vx_runVW, vx_runVX, vx_runSX, vx_ofWH follow the same proofs as their sisters above (Free/Laws.lean, Shelf42/LK1.lean); vx_outP calls Shelf42/NT130.lean (outThrough). -/
section
variable {l : Launch} {R : Room} {p : Program} {e : Env} {below : List Frame} {s : State} {sargs : Array Value} {y : MethodName} {len W9 : Nat}
theorem vx_backW {ws : List Cond} {rm : Room} {Pc : Array Value → State → Prop} {Qc : Array Value → State → Outcome → State → Prop} {XC : String → State → State → Prop} {mc ms : Nat} {free : Addr → Prop} {bytes : ByteArray} {maxL : Nat} {ret : Option FieldType} {hh : List (Nat × Nat × Nat × Nat)}
    (hM : vx_Met l y ws rm Pc Qc XC mc ms free) (hblind : FrameBlind Pc) (hrc : rm.cells = mc) (hrs : rm.slots = ms)
    (hframes : rm.frames + 1 ≤ R.frames) (hlocals : W9 + (maxL + 11) + rm.locals ≤ R.locals)
    (hws : ∀ w ∈ ws, ∀ a' U, s.WarmedH U.vm → w.before a' U = true) (hcode : Cond.codeWith y bytes maxL ret hh ∈ ws) (hinit : ∀ a' U, s.WarmedH U.vm → (Cond.initialized y.cls).before a' U = true) :
    vx_Back l R p e below s sargs y len W9 (PreOf R mc ms Pc) (PostOf Qc mc ms free) (vx_Post XC mc ms free) := by
  intro m meth c A g ig mk a X hg hsize hdg hW hn hp
  have h1 : (headSpec ws rm).pre.before a A.U = true := atoms_intro fun w hw => hws w hw _ _ X.warmed
  have h2 : (Cond.codeWith y bytes maxL ret hh).before a A.U = true := hws _ hcode _ _ X.warmed
  have h3 : (Cond.initialized y.cls).before a A.U = true := hinit _ _ X.warmed
  have h4 : A.cells + (headSpec ws rm).room.cells ≤ R.cells := by rw [show (headSpec ws rm).room.cells = mc from hrc]; exact hp.1
  have h5 : A.slots + (headSpec ws rm).room.slots ≤ R.slots := by rw [show (headSpec ws rm).room.slots = ms from hrs]; exact hp.2.1
  have hPc : Pc a (A.U.calling g mk a) := hblind _ _ _ _ hp.2.2
  obtain ⟨U, Ls, c0, s0⟩ := A
  dsimp only [Pt.U, Pt.locs, Pt.cells, Pt.slots] at h1 h2 h3 h4 h5 X hn hPc ⊢
  obtain ⟨m9, methY, cY, hn9, hmY, hcY, -, hlY, -⟩ := Cond.codeWith_spec h2
  cases Option.some.inj (hn9.symm.trans hn)
  obtain ⟨kY, hkY, -⟩ := className_of_methodNamed hn
  have hinitY : kY.init = .initialized := Cond.initialized_spec (findClass_of_methodNamed hn) hkY h3
  have h : At U g.method c below := by rw [hg]; exact X.here
  have hlocals9 : W9 + (maxL + 11) + (headSpec ws rm).room.locals ≤ R.locals := hlocals
  have happ : (headSpec ws rm).appliesLoose y e.platform (U.calling g mk a) = true :=
    Spec.appliesLoose_calling (g := g) h hdg hn hkY hinitY
      (X.room_calling (g := g) (R' := (headSpec ws rm).room) hsize hmY hcY hframes (by rw [hlY]; omega) h4 h5) h1
  obtain ⟨mid, hmid⟩ := h.above
  have hfr : (U.setTop g).frames = (.java g :: mid) ++ below := by rw [State.frames_setTop' g h.top, hmid]; rfl
  obtain ⟨o, s₂, hsteps, -, hend, hq⟩ := Steps.callFree hM p X.admits X.cas X.clock (acts := []) hfr happ hPc trivial
  have hq' : vx_Q Qc XC mc ms free a (U.calling g mk a) o s₂ := hq
  rw [State.frames_setTop' g h.top] at hend
  obtain ⟨g₀, hg0⟩ := Option.isSome_iff_exists.mp h.top
  obtain ⟨r, hr⟩ := State.topJava?_eq_some.mp hg0
  have hr' : (({ U with heap := s₂.heap, slotsUsed := s₂.slotsUsed } : State).setVm s₂.vm).frames = .java g₀ :: r := hr
  rcases hq' with ⟨hqc, L, hfe, hL⟩ | ⟨q, rfl, E, ce, L, hx, hce, hcv, hcl, hW₂, hsm, hL⟩
  · obtain ⟨⟨v, rfl⟩, hW₂, e2, q2, q3, q4, q5, q6⟩ := id hfe
    have e3 : s₂ = ({ (U.calling g mk a).setFrames s₂.frames with heap := s₂.heap, slotsUsed := s₂.slotsUsed } : State).setVm s₂.vm := by
      have : s₂ = ({ s₂ with vm := (U.calling g mk a).vm } : State).setVm s₂.vm := rfl
      rw [e2] at this
      exact this
    obtain ⟨c₂, i₂, len₂, hc₂, hd₂, hf₂⟩ := hend
    have hW' : U.WarmedH s₂.vm := hW₂
    have hcc : c₂ = c := by
      have h1 : s₂.code? g.method = U.code? g.method := by
        rw [State.code?_eq, State.code?_eq, hW'.alike.method?]
      exact Option.some.inj (hc₂.symm.trans (h1.trans h.code))
    subst hcc
    have hlen : len₂ = len := by rw [hdg] at hd₂; cases hd₂; rfl
    subst hlen
    have hs₂ : s₂ = (({ U with heap := s₂.heap, slotsUsed := s₂.slotsUsed } : State).setVm s₂.vm).setTop { g with pc := g.pc + len₂, stack := v.toList ++ g.stack } := by
      refine e3.trans ?_
      rw [hf₂, State.calling_eq h.top, State.setFrames_setFrames, State.setTop_of_frames _ hr', hr]
      rfl
    have hsame : U.sameButNew ({ U with heap := s₂.heap, slotsUsed := s₂.slotsUsed } : State) L mc ms := by
      refine ⟨?_, q2, q3, q4, q5, q6⟩
      obtain ⟨t, ht, -⟩ := State.frames_cons hr
      show ({ U with heap := s₂.heap, slotsUsed := s₂.slotsUsed } : State) = { U.setFrames U.frames with heap := s₂.heap, slotsUsed := s₂.slotsUsed }
      rw [State.setFrames_self ht]
    subst hg
    refine Or.inl ⟨v, ⟨(({ U with heap := s₂.heap, slotsUsed := s₂.slotsUsed } : State).setVm s₂.vm), Ls ++ L, c0 + mc, s0 + ms⟩,
      ⟨X.admits, X.cas, X.clock, X.frames, X.room, X.hears, X.method, X.code, (X.here.setHeapUsed s₂.heap s₂.slotsUsed).setVm hW'.alike, X.tail, State.WarmedH.trans X.warmed hW', X.limits, X.bytes, X.same.trans (hsame.setVm s.vm)⟩,
      ⟨g, mk, s₂, L, rfl, rfl, hqc, rfl, hL, rfl, rfl⟩, ?_⟩
    show Steps p.tables e below _ ((({ U with heap := s₂.heap, slotsUsed := s₂.slotsUsed } : State).setVm s₂.vm).setTop { g with pc := g.pc + len₂, stack := v.toList ++ g.stack })
    rw [← hs₂]
    exact hsteps
  · obtain ⟨e2, q2, q3, q4, q5, q6⟩ := id hsm
    have e3 : s₂ = ({ (U.calling g mk a).setFrames s₂.frames with heap := s₂.heap, slotsUsed := s₂.slotsUsed } : State).setVm s₂.vm := by
      have : s₂ = ({ s₂ with vm := (U.calling g mk a).vm } : State).setVm s₂.vm := rfl
      rw [e2] at this
      exact this
    have hf₂ : s₂.frames = .throwing q :: .java g :: U.frames.tail := hend
    have hW' : U.WarmedH s₂.vm := hW₂
    have hs₂ : s₂ = ((({ U with heap := s₂.heap, slotsUsed := s₂.slotsUsed } : State).setVm s₂.vm).setTop g).pushFrame (.throwing q) := by
      refine e3.trans ?_
      rw [hf₂, State.calling_eq h.top, State.setFrames_setFrames, State.pushFrame, State.frames_setTop _ hr', State.setTop_of_frames _ hr', State.setFrames_setFrames, hr]
      rfl
    have hsame : U.sameButNew ({ U with heap := s₂.heap, slotsUsed := s₂.slotsUsed } : State) L mc ms := by
      refine ⟨?_, q2, q3, q4, q5, q6⟩
      obtain ⟨t, ht, -⟩ := State.frames_cons hr
      show ({ U with heap := s₂.heap, slotsUsed := s₂.slotsUsed } : State) = { U.setFrames U.frames with heap := s₂.heap, slotsUsed := s₂.slotsUsed }
      rw [State.setFrames_self ht]
    subst hg
    refine Or.inr ⟨q, ⟨(({ U with heap := s₂.heap, slotsUsed := s₂.slotsUsed } : State).setVm s₂.vm), Ls ++ L, c0 + mc, s0 + ms⟩,
      ⟨X.admits, X.cas, X.clock, X.frames, X.room, X.hears, X.method, X.code, (X.here.setHeapUsed s₂.heap s₂.slotsUsed).setVm hW'.alike, X.tail, State.WarmedH.trans X.warmed hW', X.limits, X.bytes, X.same.trans (hsame.setVm s.vm)⟩,
      ⟨g, mk, s₂, L, E, ce, rfl, rfl, hx, hce, hcv, hcl, rfl, hL, rfl, rfl⟩, ?_⟩
    show Steps p.tables e below _ (((({ U with heap := s₂.heap, slotsUsed := s₂.slotsUsed } : State).setVm s₂.vm).setTop g).pushFrame (.throwing q))
    rw [← hs₂]
    exact hsteps
end
variable {p : Program} {l : Launch} {e : Env} {R : Room} {s : State} {m : MethodId} {args : Array Value} {below : List Frame} {meth : Method} {c : Code} {T : State} {H : Heap} {locs : List Loc} {cells slots : Nat}
theorem vx_callVX (X : Stand p l e R s m args below meth c T locs cells slots) (hexec : p.tables.exec = Jvm.exec) {own C : String} {index : Nat} {y : MethodName} {bytes : ByteArray} {maxL : Nat} {ret : Option FieldType} {hh : List (Nat × Nat × Nat × Nat)}
    (hown : s.vm.findClass own = some m.cls) (hlink : (Cond.methodLink own index y).before args s = true) (hinst : (Cond.instanceMethod y).before args s = true) (hsel : (Cond.selects C y y).before args s = true)
    (hcode : (Cond.codeWith y bytes maxL ret hh).before args s = true) (hy : y.cls ≠ "java/lang/invoke/MethodHandle" ∧ y.cls ≠ "java/lang/invoke/VarHandle")
    {W9 : Nat} {Pre : Pt → Array Value → Prop} {Post : Pt → Array Value → Option Value → Pt → Prop} {PostX : Pt → Array Value → Addr → Pt → Prop} (hK : vx_Back l R p e below s args y 3 W9 Pre Post PostX)
    {b : Addr} {cellB : Cell} (hcell : T.heap[b]? = some cellB) (hobj : cellB.vm.isStatics = false) (hcls : s.vm.findClass C = some cellB.cls)
    {g : JFrame} (hg : g.method = m) (hsize : g.locals.size = c.maxLocals) {argsL rest : List Value} (hlen : ∀ sig, parseMethodDescriptor y.desc = some sig → argsL.length = sig.parameters.length)
    (hstack : g.stack = argsL.reverse ++ .ref b :: rest) (hW : 2 * g.monitorRoom + (rest.map fun v => v.category).sum ≤ W9) (hdg : decode c.code g.pc = .ok (.invokevirtual index, 3))
    (hpre : ∀ vm₁, s.WarmedH vm₁ → Pre ⟨T.setVm vm₁, locs, cells, slots⟩ (Value.ref b :: argsL).toArray) :
    (∃ (v : Option Value) (vm₁ : Vm) (B : Pt), s.WarmedH vm₁ ∧ Stand p l e R s m args below meth c B.U B.locs B.cells B.slots ∧ Post ⟨T.setVm vm₁, locs, cells, slots⟩ (Value.ref b :: argsL).toArray v B ∧
      ∀ target, Steps p.tables e below (B.U.setTop { g with pc := g.pc + 3, stack := v.toList ++ rest }) target → Steps p.tables e below (T.setTop g) target) ∨
    (∃ (q : Addr) (vm₁ : Vm) (B : Pt), s.WarmedH vm₁ ∧ Stand p l e R s m args below meth c B.U B.locs B.cells B.slots ∧ PostX ⟨T.setVm vm₁, locs, cells, slots⟩ (Value.ref b :: argsL).toArray q B ∧
      Steps p.tables e below (T.setTop g) ((B.U.setTop { g with stack := rest }).pushFrame (.throwing q))) := by
  obtain ⟨mk, methM, hnamed, hmethM, hstM, habM⟩ := Cond.instanceMethod_spec hinst
  obtain ⟨m8, methM', cM, hn8, hmethM', -, -, -, -, -, -, hsigM⟩ := Cond.codeWith_spec hcode
  cases Option.some.inj (hn8.symm.trans hnamed)
  cases hmethM.symm.trans hmethM'
  obtain ⟨c2, r2, m2, q1, q2, q3, q4, kP, hkP, hkPi⟩ := Cond.selects_spec hsel
  cases hcls.symm.trans q1
  cases (State.methodFound?_of_named hnamed hy).symm.trans q2
  cases hnamed.symm.trans q3
  have hselP : selectMethod e.platform s.vm cellB.cls mk = .method mk := by rw [Launch.admits_selectMethod X.admits]; exact q4
  obtain ⟨vm₁, X₁, hstep₁⟩ := X.invokevirtual hexec hown hlink hnamed hmethM hstM hkP hkPi hy (a := b) (cell := cellB) hcell
    (fun z h => by rw [h] at hobj; cases hobj) hselP hmethM habM hkP hkPi (g := g) hg (argsL := argsL) (rest := rest) (hlen _ hsigM) hstack hdg
  rcases hK m meth c ⟨T.setVm vm₁, locs, cells, slots⟩ { g with stack := rest } (.invokevirtual index) mk (Value.ref b :: argsL).toArray X₁ hg hsize hdg hW (X₁.named hnamed) (hpre vm₁ X₁.warmed) with ⟨v, B, X', hpost, hsteps⟩ | ⟨q, B, X', hpost, hsteps⟩
  · exact Or.inl ⟨v, vm₁, B, X₁.warmed, X', hpost, fun target h => hstep₁ _ fun acts => by rw [doInvoke_state]; exact hsteps.trans h⟩
  · exact Or.inr ⟨q, vm₁, B, X₁.warmed, X', hpost, hstep₁ _ fun acts => by rw [doInvoke_state]; exact hsteps⟩
theorem vx_callSX (X : Stand p l e R s m args below meth c T locs cells slots) (hexec : p.tables.exec = Jvm.exec) {own : String} {index : Nat} {y : MethodName} {bytes : ByteArray} {maxL : Nat} {ret : Option FieldType} {hh : List (Nat × Nat × Nat × Nat)}
    (hown : s.vm.findClass own = some m.cls) (hlink : (Cond.methodLink own index y).before args s = true) (hstat : (Cond.static y).before args s = true) (hinit : (Cond.initialized y.cls).before args s = true)
    (hcode : (Cond.codeWith y bytes maxL ret hh).before args s = true) (hy : y.cls ≠ "java/lang/invoke/MethodHandle" ∧ y.cls ≠ "java/lang/invoke/VarHandle")
    {W9 : Nat} {Pre : Pt → Array Value → Prop} {Post : Pt → Array Value → Option Value → Pt → Prop} {PostX : Pt → Array Value → Addr → Pt → Prop} (hK : vx_Back l R p e below s args y 3 W9 Pre Post PostX)
    {g : JFrame} (hg : g.method = m) (hsize : g.locals.size = c.maxLocals) {argsL rest : List Value} (hlen : ∀ sig, parseMethodDescriptor y.desc = some sig → argsL.length = sig.parameters.length)
    (hstack : g.stack = argsL.reverse ++ rest) (hW : 2 * g.monitorRoom + (rest.map fun v => v.category).sum ≤ W9) (hdg : decode c.code g.pc = .ok (.invokestatic index, 3))
    (hpre : ∀ vm₁, s.WarmedH vm₁ → Pre ⟨T.setVm vm₁, locs, cells, slots⟩ argsL.toArray) :
    (∃ (v : Option Value) (vm₁ : Vm) (B : Pt), s.WarmedH vm₁ ∧ Stand p l e R s m args below meth c B.U B.locs B.cells B.slots ∧ Post ⟨T.setVm vm₁, locs, cells, slots⟩ argsL.toArray v B ∧
      ∀ target, Steps p.tables e below (B.U.setTop { g with pc := g.pc + 3, stack := v.toList ++ rest }) target → Steps p.tables e below (T.setTop g) target) ∨
    (∃ (q : Addr) (vm₁ : Vm) (B : Pt), s.WarmedH vm₁ ∧ Stand p l e R s m args below meth c B.U B.locs B.cells B.slots ∧ PostX ⟨T.setVm vm₁, locs, cells, slots⟩ argsL.toArray q B ∧
      Steps p.tables e below (T.setTop g) ((B.U.setTop { g with stack := rest }).pushFrame (.throwing q))) := by
  obtain ⟨mk, methM, cM, hnamed, hmethM, -, -, -, -, -, -, hsigM⟩ := Cond.codeWith_spec hcode
  have hstatic : methM.isStatic = true := Cond.static_spec hnamed hmethM hstat
  obtain ⟨kP, hkP, -⟩ := className_of_methodNamed hnamed
  have hinitP : kP.init = .initialized := Cond.initialized_spec (findClass_of_methodNamed hnamed) hkP hinit
  obtain ⟨vm₁, X₁, hstep₁⟩ := X.invokestatic hexec hown hlink hnamed hmethM hstatic hkP hinitP hy (g := g) hg (argsL := argsL) (rest := rest) (hlen _ hsigM) hstack hdg
  rcases hK m meth c ⟨T.setVm vm₁, locs, cells, slots⟩ { g with stack := rest } (.invokestatic index) mk argsL.toArray X₁ hg hsize hdg hW (X₁.named hnamed) (hpre vm₁ X₁.warmed) with ⟨v, B, X', hpost, hsteps⟩ | ⟨q, B, X', hpost, hsteps⟩
  · exact Or.inl ⟨v, vm₁, B, X₁.warmed, X', hpost, fun target h => hstep₁ _ fun acts => by rw [doInvoke_state]; exact hsteps.trans h⟩
  · exact Or.inr ⟨q, vm₁, B, X₁.warmed, X', hpost, hstep₁ _ fun acts => by rw [doInvoke_state]; exact hsteps⟩
theorem vx_callVW (X : Stand p l e R s m args below meth c T locs cells slots) (hexec : p.tables.exec = Jvm.exec) {own C : String} {index : Nat} {y : MethodName} {bytes : ByteArray} {maxL : Nat} {ret : Option FieldType} {hh : List (Nat × Nat × Nat × Nat)}
    (hown : s.vm.findClass own = some m.cls) (hlink : (Cond.methodLink own index y).before args s = true) (hinst : (Cond.instanceMethod y).before args s = true) (hsel : (Cond.selects C y y).before args s = true)
    (hcode : (Cond.codeWith y bytes maxL ret hh).before args s = true) (hy : y.cls ≠ "java/lang/invoke/MethodHandle" ∧ y.cls ≠ "java/lang/invoke/VarHandle")
    {W9 : Nat} {Pre : Pt → Array Value → Prop} {Post : Pt → Array Value → Option Value → Pt → Prop} (hK : Back l R p e below s args y 3 W9 Pre Post)
    {b : Addr} {cellB : Cell} (hcell : T.heap[b]? = some cellB) (hobj : cellB.vm.isStatics = false) (hcls : s.vm.findClass C = some cellB.cls)
    {g : JFrame} (hg : g.method = m) (hsize : g.locals.size = c.maxLocals) {argsL rest : List Value} (hlen : ∀ sig, parseMethodDescriptor y.desc = some sig → argsL.length = sig.parameters.length)
    (hstack : g.stack = argsL.reverse ++ .ref b :: rest) (hW : 2 * g.monitorRoom + (rest.map fun v => v.category).sum ≤ W9) (hdg : decode c.code g.pc = .ok (.invokevirtual index, 3))
    (hpre : ∀ vm₁, s.WarmedH vm₁ → Pre ⟨T.setVm vm₁, locs, cells, slots⟩ (Value.ref b :: argsL).toArray) :
    ∃ (v : Option Value) (vm₁ : Vm) (B : Pt), s.WarmedH vm₁ ∧ Stand p l e R s m args below meth c B.U B.locs B.cells B.slots ∧ Post ⟨T.setVm vm₁, locs, cells, slots⟩ (Value.ref b :: argsL).toArray v B ∧
      ∀ target, Steps p.tables e below (B.U.setTop { g with pc := g.pc + 3, stack := v.toList ++ rest }) target → Steps p.tables e below (T.setTop g) target := by
  obtain ⟨mk, methM, hnamed, hmethM, hstM, habM⟩ := Cond.instanceMethod_spec hinst
  obtain ⟨m8, methM', cM, hn8, hmethM', -, -, -, -, -, -, hsigM⟩ := Cond.codeWith_spec hcode
  cases Option.some.inj (hn8.symm.trans hnamed)
  cases hmethM.symm.trans hmethM'
  obtain ⟨c2, r2, m2, q1, q2, q3, q4, kP, hkP, hkPi⟩ := Cond.selects_spec hsel
  cases hcls.symm.trans q1
  cases (State.methodFound?_of_named hnamed hy).symm.trans q2
  cases hnamed.symm.trans q3
  have hselP : selectMethod e.platform s.vm cellB.cls mk = .method mk := by rw [Launch.admits_selectMethod X.admits]; exact q4
  obtain ⟨vm₁, X₁, hstep₁⟩ := X.invokevirtual hexec hown hlink hnamed hmethM hstM hkP hkPi hy (a := b) (cell := cellB) hcell
    (fun z h => by rw [h] at hobj; cases hobj) hselP hmethM habM hkP hkPi (g := g) hg (argsL := argsL) (rest := rest) (hlen _ hsigM) hstack hdg
  obtain ⟨v, B, X', hpost, hsteps⟩ := hK m meth c ⟨T.setVm vm₁, locs, cells, slots⟩ { g with stack := rest } (.invokevirtual index) mk (Value.ref b :: argsL).toArray X₁ hg hsize hdg hW (X₁.named hnamed) (hpre vm₁ X₁.warmed)
  exact ⟨v, vm₁, B, X₁.warmed, X', hpost, fun target h => hstep₁ _ fun acts => by rw [doInvoke_state]; exact hsteps.trans h⟩
abbrev vx_CVW (R : Room) (s : State) (args : Array Value) (own C : String) (index : Nat) (y : MethodName) (bytes : ByteArray) (maxL : Nat) (ret : Option FieldType) (hh : List (Nat × Nat × Nat × Nat)) (ws : List Cond) (rm : Room) (mc ms n : Nat) : Prop :=
  (rm.cells = mc ∧ rm.slots = ms ∧ rm.frames + 1 ≤ R.frames ∧ 8 + (maxL + 11) + rm.locals ≤ R.locals ∧ (∀ w ∈ ws, ∀ (a' : Array Value) (U : State), s.WarmedH U.vm → w.before a' U = true) ∧ Cond.codeWith y bytes maxL ret hh ∈ ws) ∧
  (Cond.codeWith y bytes maxL ret hh).before args s = true ∧ (Cond.initialized y.cls).before args s = true ∧ (y.cls ≠ "java/lang/invoke/MethodHandle" ∧ y.cls ≠ "java/lang/invoke/VarHandle") ∧
  (∀ sig, parseMethodDescriptor y.desc = some sig → n = sig.parameters.length) ∧ (Cond.methodLink own index y).before args s = true ∧ (Cond.instanceMethod y).before args s = true ∧ (Cond.selects C y y).before args s = true
theorem vx_cwVW {own C : String} {index maxL mc ms : Nat} {y : MethodName} {bytes : ByteArray} {ret : Option FieldType} {hh : List (Nat × Nat × Nat × Nat)} {Ts ws ws' : List Cond} {rm : Room} (n : Nat) (ht : ∀ w ∈ Ts, w.before args s = true) (hT : GoodIn Ts (wsV own index C y ws)) (hw : ws = Cond.codeWith y bytes maxL ret hh :: ws') (hrc : rm.cells = mc) (hrs : rm.slots = ms)
    (hd : y.cls = C ∧ y.cls ≠ "java/lang/invoke/MethodHandle" ∧ y.cls ≠ "java/lang/invoke/VarHandle" ∧ (parseMethodDescriptor y.desc).map (fun d => d.parameters.length) = some n) (hR : rm.frames + 1 ≤ R.frames ∧ 8 + (maxL + 11) + rm.locals ≤ R.locals) :
    vx_CVW R s args own C index y bytes maxL ret hh ws rm mc ms n := by
  obtain ⟨hC, hd⟩ := hd
  subst hC
  have ok : ∀ w ∈ wsV own index y.cls y ws, w.before args s = true := fun w h => ht w (hT w h).1
  have hG : GoodIn Ts ws := fun w h => hT w (by unfold wsV; exact List.mem_append_right _ h)
  have hc : Cond.codeWith y bytes maxL ret hh ∈ ws := by rw [hw]; exact List.mem_cons_self
  refine ⟨⟨hrc, hrs, hR.1, hR.2, pay_in ht hG, hc⟩, ht _ (hG _ hc).1, ok _ (by simp [wsV]), ⟨hd.1, hd.2.1⟩, fun sig h => ?_, ok _ (by simp [wsV]), ok _ (by simp [wsV]), ok _ (by simp [wsV])⟩
  have h2 := hd.2.2
  rw [h] at h2
  exact (Option.some.inj h2).symm
theorem vx_runVW {y : MethodName} {bytes cc : ByteArray} {maxL nL mc ms n index : Nat} {ret : Option FieldType} {hh : List (Nat × Nat × Nat × Nat)} {ws : List Cond} {rm : Room} {Pc : Array Value → State → Prop} {Qc : Array Value → State → Outcome → State → Prop} {free : Addr → Prop} {Ts : List Cond} {own C : String} {b : Addr} {As rest : List Value} {g : JFrame}
    (S : CallFix p m c cc nL s args Ts own) (hM : Met l y ws rm Pc Qc mc ms free) (cw : vx_CVW R s args own C index y bytes maxL ret hh ws rm mc ms n) (hp : PreV s H C b Pc As)
    (hg : g.method = m) (hn : As.length = n) (hsize : g.locals.size = nL) (hstack : g.stack = As.reverse ++ .ref b :: rest) (hW : 2 * g.monitorRoom + (rest.map fun v => v.category).sum ≤ 8) (hdg : decode cc g.pc = .ok (.invokevirtual index, 3)) (hf : cells + mc ≤ R.cells ∧ slots + ms ≤ R.slots) :
    va_Run p l e R s m args below meth c H locs cells slots mc ms g rest (Qc (Value.ref b :: As).toArray) free := by
  obtain ⟨⟨hrc, hrs, hfr, hlo, hws, hcw⟩, hcode, hini, hy, hlen, hl, hin, hse⟩ := cw
  have hK : Back l R p e below s args y 3 8 (PreOf R mc ms Pc) (PostOf Qc mc ms free) := va_backW (hh := hh) (bytes := bytes) (maxL := maxL) (ret := ret) hM hp.1 hrc hrs hfr hlo hws hcw (fun a' U hW => word_at hW (Or.inl (by first | rfl | simp [Cond.onTables, Cond.keeps, Cond.steady])) hini)
  obtain ⟨hx, hb, hml, ho, -⟩ := S
  obtain ⟨-, ⟨cellB, hcB, hoB, hclB⟩, hPc⟩ := hp
  intro T hT X
  obtain ⟨v, vm₁, ⟨U', l2, c2, s2⟩, hW₁, X', ⟨g', mk, t, L, e1, e2, hq, h1, hL, h2, h3⟩, st⟩ := vx_callVW X hx (C := C) (hh := hh) (bytes := bytes) (maxL := maxL) (ret := ret) ho hl hin hse hcode hy hK (by rw [hT]; exact hcB) hoB hclB hg (hsize.trans hml.symm) (argsL := As) (rest := rest) (fun sig h => hn.trans (hlen sig h)) hstack hW (by rw [hb]; exact hdg)
    (fun vm₁ hW₁ => ⟨hf.1, hf.2, hPc (T.setVm vm₁) hT hW₁⟩)
  dsimp only [Pt.U, Pt.locs, Pt.cells, Pt.slots] at X' e1 e2 h1 h2 h3 st
  subst h1; subst h2; subst h3
  exact ⟨v, (T.setVm vm₁).calling g' mk (Value.ref b :: As).toArray, t, U', L, hT, X', hL, e1, e2, hq, st⟩
section
variable {y : MethodName} {bytes cc : ByteArray} {maxL nL mc ms n index : Nat} {ret : Option FieldType} {ws : List Cond} {rm : Room} {Pc : Array Value → State → Prop} {Qc : Array Value → State → Outcome → State → Prop} {XC : String → State → State → Prop} {free : Addr → Prop} {Ts : List Cond} {own C : String} {b : Addr} {As rest : List Value} {g : JFrame}
theorem vx_runVX {hh : List (Nat × Nat × Nat × Nat)} (S : CallFix p m c cc nL s args Ts own) (hM : vx_Met l y ws rm Pc Qc XC mc ms free) (cw : vx_CVW R s args own C index y bytes maxL ret hh ws rm mc ms n) (hp : PreV s H C b Pc As)
    (hg : g.method = m) (hn : As.length = n) (hsize : g.locals.size = nL) (hstack : g.stack = As.reverse ++ .ref b :: rest) (hW : 2 * g.monitorRoom + (rest.map fun v => v.category).sum ≤ 8) (hdg : decode cc g.pc = .ok (.invokevirtual index, 3)) (hf : cells + mc ≤ R.cells ∧ slots + ms ≤ R.slots) :
    vx_Run p l e R s m args below meth c H locs cells slots mc ms g rest (Qc (Value.ref b :: As).toArray) XC free := by
  obtain ⟨⟨hrc, hrs, hfr, hlo, hws, hcw⟩, hcode, hini, hy, hlen, hl, hin, hse⟩ := cw
  have hK : vx_Back l R p e below s args y 3 8 (PreOf R mc ms Pc) (PostOf Qc mc ms free) (vx_Post XC mc ms free) := vx_backW (hh := hh) (bytes := bytes) (maxL := maxL) (ret := ret) hM hp.1 hrc hrs hfr hlo hws hcw (fun a' U hW => word_at hW (Or.inl (by first | rfl | simp [Cond.onTables, Cond.keeps, Cond.steady])) hini)
  obtain ⟨hx, hb, hml, ho, -⟩ := S
  obtain ⟨-, ⟨cellB, hcB, hoB, hclB⟩, hPc⟩ := hp
  intro T hT X
  rcases vx_callVX X hx (C := C) (hh := hh) (bytes := bytes) (maxL := maxL) (ret := ret) ho hl hin hse hcode hy hK (by rw [hT]; exact hcB) hoB hclB hg (hsize.trans hml.symm) (argsL := As) (rest := rest) (fun sig h => hn.trans (hlen sig h)) hstack hW (by rw [hb]; exact hdg)
    (fun vm₁ hW₁ => ⟨hf.1, hf.2, hPc (T.setVm vm₁) hT hW₁⟩) with ⟨v, vm₁, ⟨U', l2, c2, s2⟩, hW₁, X', ⟨g', mk, t, L, e1, e2, hq, h1, hL, h2, h3⟩, st⟩ | ⟨q, vm₁, ⟨U', l2, c2, s2⟩, hW₁, X', ⟨g', mk, t, L, E, ce, e1, e2, hq, hce, hcv, hcl, h1, hL, h2, h3⟩, st⟩
  · dsimp only [Pt.U, Pt.locs, Pt.cells, Pt.slots] at X' e1 e2 h1 h2 h3 st
    subst h1; subst h2; subst h3
    exact Or.inl ⟨v, (T.setVm vm₁).calling g' mk (Value.ref b :: As).toArray, t, U', L, hT, X', hL, e1, e2, hq, st⟩
  · dsimp only [Pt.U, Pt.locs, Pt.cells, Pt.slots] at X' e1 e2 h1 h2 h3 st hcl
    subst h1; subst h2; subst h3
    exact Or.inr ⟨q, (T.setVm vm₁).calling g' mk (Value.ref b :: As).toArray, t, U', L, E, ce, hT, X', hL, e1, e2, hq, hce, hcv, vx_cls hW₁ hcl, st⟩
theorem vx_runSX {hh : List (Nat × Nat × Nat × Nat)} (S : CallFix p m c cc nL s args Ts own) (hM : vx_Met l y ws rm Pc Qc XC mc ms free) (cw : vx_CSW R s args own index y bytes maxL ret hh ws rm mc ms n) (hp : PreS s H Pc As)
    (hg : g.method = m) (hn : As.length = n) (hsize : g.locals.size = nL) (hstack : g.stack = As.reverse ++ rest) (hW : 2 * g.monitorRoom + (rest.map fun v => v.category).sum ≤ 8) (hdg : decode cc g.pc = .ok (.invokestatic index, 3)) (hf : cells + mc ≤ R.cells ∧ slots + ms ≤ R.slots) :
    vx_Run p l e R s m args below meth c H locs cells slots mc ms g rest (Qc As.toArray) XC free := by
  obtain ⟨⟨hrc, hrs, hfr, hlo, hws, hcw⟩, hcode, hini, hy, hlen, hl, hstt⟩ := cw
  have hK : vx_Back l R p e below s args y 3 8 (PreOf R mc ms Pc) (PostOf Qc mc ms free) (vx_Post XC mc ms free) := vx_backW (hh := hh) (bytes := bytes) (maxL := maxL) (ret := ret) hM hp.1 hrc hrs hfr hlo hws hcw (fun a' U hW => word_at hW (Or.inl (by first | rfl | simp [Cond.onTables, Cond.keeps, Cond.steady])) hini)
  obtain ⟨hx, hb, hml, ho, -⟩ := S
  intro T hT X
  rcases vx_callSX X hx (hh := hh) (bytes := bytes) (maxL := maxL) (ret := ret) ho hl hstt hini hcode hy hK hg (hsize.trans hml.symm) (argsL := As) (rest := rest) (fun sig h => hn.trans (hlen sig h)) hstack hW (by rw [hb]; exact hdg)
    (fun vm₁ hW₁ => ⟨hf.1, hf.2, hp.2 (T.setVm vm₁) hT hW₁⟩) with ⟨v, vm₁, ⟨U', l2, c2, s2⟩, hW₁, X', ⟨g', mk, t, L, e1, e2, hq, h1, hL, h2, h3⟩, st⟩ | ⟨q, vm₁, ⟨U', l2, c2, s2⟩, hW₁, X', ⟨g', mk, t, L, E, ce, e1, e2, hq, hce, hcv, hcl, h1, hL, h2, h3⟩, st⟩
  · dsimp only [Pt.U, Pt.locs, Pt.cells, Pt.slots] at X' e1 e2 h1 h2 h3 st
    subst h1; subst h2; subst h3
    exact Or.inl ⟨v, (T.setVm vm₁).calling g' mk As.toArray, t, U', L, hT, X', hL, e1, e2, hq, st⟩
  · dsimp only [Pt.U, Pt.locs, Pt.cells, Pt.slots] at X' e1 e2 h1 h2 h3 st hcl
    subst h1; subst h2; subst h3
    exact Or.inr ⟨q, (T.setVm vm₁).calling g' mk As.toArray, t, U', L, E, ce, hT, X', hL, e1, e2, hq, hce, hcv, vx_cls hW₁ hcl, st⟩
end
end VXH
theorem vx_ofWH {l : Launch} {y : MethodName} {ws ws' : List Cond} {rm : Room} {Pc : Array Value → State → Prop} {Qc : Array Value → State → Outcome → State → Prop} {XC : String → State → State → Prop} {mc ms : Nat} {free : Addr → Prop} {cc : ByteArray} {maxL : Nat} {ret : Option FieldType} {hh : List (Nat × Nat × Nat × Nat)}
    (hy : plainName y.cls = true) (hw : ws = Cond.codeWith y cc maxL ret hh :: ws')
    (body : ∀ p e s m args below meth c s₁, BodyLoose p l y (headSpec ws rm) cc maxL ret e s m args below meth c s₁ → c.maxLocals = maxL → Pc args s →
      W p l e (headSpec ws rm).room s m args below meth c s.heap [] 0 0 (vx_MQ below Qc XC args s mc ms free) (entryFrame m args maxL)) : vx_Met l y ws rm Pc Qc XC mc ms free := by
  refine MetFree.of_bodyS (code := cc) (maxLocals := maxL) (ret := ret) hy ?_ ?_
  · intro args s m h hn
    obtain ⟨m9, meth, c, hn9, h1, h2, h3, h4, -, h5, h6, -⟩ := Cond.codeWith_spec (atoms_spec (ws := ws) h _ (by rw [hw]; exact List.mem_cons_self))
    cases hn.symm.trans hn9
    exact ⟨meth, c, h1, h2, h3, h4, h5, h6⟩
  · intro p e s m args below meth c s₁ B hml hP _
    have hh0 : s₁.heap = s.heap := by rw [B.state]; rfl
    obtain ⟨t, a1, o, b1, b2, b3⟩ := body p e s m args below meth c s₁ B hml hP s₁ hh0 (Stand.of_body B)
    exact ⟨t, o, a1, b1, b2, b3⟩
/-! ===== END ===== -/

/-! ===== BEGIN printed: names, fields, word lists, decode rows ===== -/
end
section
def RX0 : String := "WheatRun$Combine"
def TX0 : u_T := fun k => match k with
  | 0 => ("WheatRun$Combine", "number", "I", false)
  | 1 => ("WheatRun$Combine", "mile", "I", false)
  | 2 => ("WheatRun$Combine", "pace", "I", false)
  | 3 => ("WheatRun$Combine", "tank", "I", false)
  | 4 => ("WheatRun$Combine", "tankField", "I", false)
  | 5 => ("WheatRun$Combine", "tankDamp", "I", false)
  | 6 => ("WheatRun$Combine", "wear", "I", false)
  | 7 => ("WheatRun$Combine", "isBroken", "Z", false)
  | 8 => ("WheatRun$Combine", "idle", "I", false)
  | 9 => ("WheatRun$Combine", "goal", "I", false)
  | 10 => ("WheatRun$Combine", "acresCut", "I", false)
  | _ => ("WheatRun$Combine", "bushelsCut", "I", false)
def tyX0 : Nat → FieldType := fun k => match k with
  | 0 => .int
  | 1 => .int
  | 2 => .int
  | 3 => .int
  | 4 => .int
  | 5 => .int
  | 6 => .int
  | 7 => .boolean
  | 8 => .int
  | 9 => .int
  | 10 => .int
  | _ => .int
abbrev wsX00 : List Cond := u_ws RX0 TX0 12
theorem nmX0 : ∀ a, a < 12 → ∀ b, b < 12 → a ≠ b → (TX0 a).2.1 ≠ (TX0 b).2.1 := by decide +kernel
theorem tyX0_ok : ∀ k, k < 12 → parseFieldDescriptor (TX0 k).2.2.1 = some (tyX0 k) := by decide +kernel
abbrev cX0_init : ByteArray := prog_2_method_1_code
def yX0_init : MethodName := ⟨RX0, "<init>", "(III)V"⟩
abbrev cX0_copyFrom : ByteArray := prog_2_method_2_code
def yX0_copyFrom : MethodName := ⟨RX0, "copyFrom", "(LWheatRun$Combine;)V"⟩
abbrev cX0_passHour : ByteArray := prog_2_method_3_code
def yX0_passHour : MethodName := ⟨RX0, "passHour", "(LWheatRun$Field;II)V"⟩
abbrev cX0_holdsAnother : ByteArray := prog_2_method_4_code
def yX0_holdsAnother : MethodName := ⟨RX0, "holdsAnother", "()Z"⟩
abbrev cX0_acresAtOnce : ByteArray := prog_2_method_5_code
def yX0_acresAtOnce : MethodName := ⟨RX0, "acresAtOnce", "(LWheatRun$Field;)I"⟩
abbrev cX0_harvest : ByteArray := prog_2_method_6_code
def yX0_harvest : MethodName := ⟨RX0, "harvest", "(LWheatRun$Field;I)V"⟩
abbrev cX0_metered : ByteArray := prog_2_method_7_code
def yX0_metered : MethodName := ⟨RX0, "metered", "(I)I"⟩
def RX1 : String := "WheatRun$Elevator"
def TX1 : u_T := fun k => match k with
  | 0 => ("WheatRun$Elevator", "mile", "I", false)
  | 1 => ("WheatRun$Elevator", "room", "I", false)
  | 2 => ("WheatRun$Elevator", "from", "I", false)
  | 3 => ("WheatRun$Elevator", "to", "I", false)
  | 4 => ("WheatRun$Elevator", "least", "I", false)
  | _ => ("WheatRun$Elevator", "greatest", "I", false)
def tyX1 : Nat → FieldType := fun k => match k with
  | 0 => .int
  | 1 => .int
  | 2 => .int
  | 3 => .int
  | 4 => .int
  | _ => .int
abbrev wsX10 : List Cond := u_ws RX1 TX1 6
theorem nmX1 : ∀ a, a < 6 → ∀ b, b < 6 → a ≠ b → (TX1 a).2.1 ≠ (TX1 b).2.1 := by decide +kernel
theorem tyX1_ok : ∀ k, k < 6 → parseFieldDescriptor (TX1 k).2.2.1 = some (tyX1 k) := by decide +kernel
abbrev cX1_init : ByteArray := prog_3_method_1_code
def yX1_init : MethodName := ⟨RX1, "<init>", "(IIIIII)V"⟩
abbrev cX1_copyFrom : ByteArray := prog_3_method_2_code
def yX1_copyFrom : MethodName := ⟨RX1, "copyFrom", "(LWheatRun$Elevator;)V"⟩
abbrev cX1_takes : ByteArray := prog_3_method_3_code
def yX1_takes : MethodName := ⟨RX1, "takes", "(LWheatRun$Truck;I)Z"⟩
abbrev cX1_isOpen : ByteArray := prog_3_method_4_code
def yX1_isOpen : MethodName := ⟨RX1, "isOpen", "(I)Z"⟩
abbrev cX1_discount : ByteArray := prog_3_method_5_code
def yX1_discount : MethodName := ⟨RX1, "discount", "(I)I"⟩
def RX2 : String := "WheatRun$Field"
def TX2 : u_T := fun k => match k with
  | 0 => ("WheatRun$Field", "farmer", "I", false)
  | 1 => ("WheatRun$Field", "mile", "I", false)
  | 2 => ("WheatRun$Field", "acres", "I", false)
  | 3 => ("WheatRun$Field", "bushels", "I", false)
  | 4 => ("WheatRun$Field", "share", "I", false)
  | 5 => ("WheatRun$Field", "acresCut", "I", false)
  | 6 => ("WheatRun$Field", "ripe", "I", false)
  | 7 => ("WheatRun$Field", "damp", "I", false)
  | 8 => ("WheatRun$Field", "lost", "I", false)
  | 9 => ("WheatRun$Field", "map", "I", false)
  | 10 => ("WheatRun$Field", "sold", "I", false)
  | 11 => ("WheatRun$Field", "forFarmer", "I", false)
  | _ => ("WheatRun$Field", "forLandlord", "I", false)
def tyX2 : Nat → FieldType := fun k => match k with
  | 0 => .int
  | 1 => .int
  | 2 => .int
  | 3 => .int
  | 4 => .int
  | 5 => .int
  | 6 => .int
  | 7 => .int
  | 8 => .int
  | 9 => .int
  | 10 => .int
  | 11 => .int
  | _ => .int
abbrev wsX20 : List Cond := u_ws RX2 TX2 13
theorem nmX2 : ∀ a, a < 13 → ∀ b, b < 13 → a ≠ b → (TX2 a).2.1 ≠ (TX2 b).2.1 := by decide +kernel
theorem tyX2_ok : ∀ k, k < 13 → parseFieldDescriptor (TX2 k).2.2.1 = some (tyX2 k) := by decide +kernel
abbrev cX2_init : ByteArray := prog_4_method_1_code
def yX2_init : MethodName := ⟨RX2, "<init>", "(IIIII)V"⟩
abbrev cX2_copyFrom : ByteArray := prog_4_method_2_code
def yX2_copyFrom : MethodName := ⟨RX2, "copyFrom", "(LWheatRun$Field;)V"⟩
abbrev cX2_passHour : ByteArray := prog_4_method_3_code
def yX2_passHour : MethodName := ⟨RX2, "passHour", "(IIII)V"⟩
abbrev cX2_ripen : ByteArray := prog_4_method_4_code
def yX2_ripen : MethodName := ⟨RX2, "ripen", "(I)V"⟩
abbrev cX2_soakOrDry : ByteArray := prog_4_method_5_code
def yX2_soakOrDry : MethodName := ⟨RX2, "soakOrDry", "(II)V"⟩
abbrev cX2_shatter : ByteArray := prog_4_method_6_code
def yX2_shatter : MethodName := ⟨RX2, "shatter", "(II)V"⟩
abbrev cX2_isFit : ByteArray := prog_4_method_7_code
def yX2_isFit : MethodName := ⟨RX2, "isFit", "(I)Z"⟩
abbrev cX2_uncut : ByteArray := prog_4_method_8_code
def yX2_uncut : MethodName := ⟨RX2, "uncut", "()I"⟩
abbrev cX2_brings : ByteArray := prog_4_method_9_code
def yX2_brings : MethodName := ⟨RX2, "brings", "()I"⟩
abbrev cX2_correction : ByteArray := prog_4_method_10_code
def yX2_correction : MethodName := ⟨RX2, "correction", "(I)I"⟩
abbrev cX2_credit : ByteArray := prog_4_method_11_code
def yX2_credit : MethodName := ⟨RX2, "credit", "(II)V"⟩
def RX3 : String := "WheatRun$Land"
def TX3 : u_T := fun k => match k with
  | 0 => ("WheatRun$Land", "fields", "Ljava/util/ArrayList;", true)
  | 1 => ("WheatRun$Land", "combines", "Ljava/util/ArrayList;", true)
  | 2 => ("WheatRun$Land", "trucks", "Ljava/util/ArrayList;", true)
  | 3 => ("WheatRun$Land", "elevators", "Ljava/util/ArrayList;", true)
  | 4 => ("WheatRun$Land", "tickets", "Ljava/util/ArrayList;", true)
  | 5 => ("WheatRun$Land", "isTrial", "Z", true)
  | 6 => ("WheatRun$Land", "now", "I", false)
  | 7 => ("WheatRun$Land", "price", "I", false)
  | _ => ("WheatRun$Land", "money", "I", false)
def tyX3 : Nat → FieldType := fun k => match k with
  | 0 => .object "java/util/ArrayList"
  | 1 => .object "java/util/ArrayList"
  | 2 => .object "java/util/ArrayList"
  | 3 => .object "java/util/ArrayList"
  | 4 => .object "java/util/ArrayList"
  | 5 => .boolean
  | 6 => .int
  | 7 => .int
  | _ => .int
abbrev wsX30 : List Cond := u_ws RX3 TX3 9
theorem nmX3 : ∀ a, a < 9 → ∀ b, b < 9 → a ≠ b → (TX3 a).2.1 ≠ (TX3 b).2.1 := by decide +kernel
theorem tyX3_ok : ∀ k, k < 9 → parseFieldDescriptor (TX3 k).2.2.1 = some (tyX3 k) := by decide +kernel
abbrev cX3_init : ByteArray := prog_5_method_1_code
def yX3_init : MethodName := ⟨RX3, "<init>", "(Z)V"⟩
abbrev cX3_copyFrom : ByteArray := prog_5_method_2_code
def yX3_copyFrom : MethodName := ⟨RX3, "copyFrom", "(LWheatRun$Land;)V"⟩
abbrev cX3_addRowsAs : ByteArray := prog_5_method_3_code
def yX3_addRowsAs : MethodName := ⟨RX3, "addRowsAs", "(LWheatRun$Land;)V"⟩
abbrev cX3_fieldAt : ByteArray := prog_5_method_4_code
def yX3_fieldAt : MethodName := ⟨RX3, "fieldAt", "(I)LWheatRun$Field;"⟩
abbrev cX3_combineAt : ByteArray := prog_5_method_5_code
def yX3_combineAt : MethodName := ⟨RX3, "combineAt", "(I)LWheatRun$Combine;"⟩
abbrev cX3_truckAt : ByteArray := prog_5_method_6_code
def yX3_truckAt : MethodName := ⟨RX3, "truckAt", "(I)LWheatRun$Truck;"⟩
abbrev cX3_elevatorAt : ByteArray := prog_5_method_7_code
def yX3_elevatorAt : MethodName := ⟨RX3, "elevatorAt", "(I)LWheatRun$Elevator;"⟩
abbrev cX3_ticketAt : ByteArray := prog_5_method_8_code
def yX3_ticketAt : MethodName := ⟨RX3, "ticketAt", "(I)LWheatRun$Ticket;"⟩
abbrev cX3_clock : ByteArray := prog_5_method_9_code
def yX3_clock : MethodName := ⟨RX3, "clock", "()I"⟩
abbrev cX3_passHour : ByteArray := prog_5_method_10_code
def yX3_passHour : MethodName := ⟨RX3, "passHour", "(III)V"⟩
abbrev cX3_passTruckHour : ByteArray := prog_5_method_11_code
def yX3_passTruckHour : MethodName := ⟨RX3, "passTruckHour", "(LWheatRun$Truck;)V"⟩
abbrev cX3_unload : ByteArray := prog_5_method_12_code
def yX3_unload : MethodName := ⟨RX3, "unload", "(LWheatRun$Truck;LWheatRun$Elevator;)V"⟩
abbrev cX3_writeTicket : ByteArray := prog_5_method_13_code
def yX3_writeTicket : MethodName := ⟨RX3, "writeTicket", "(LWheatRun$Truck;LWheatRun$Elevator;)V"⟩
abbrev cX3_combinesSentTo : ByteArray := prog_5_method_14_code
def yX3_combinesSentTo : MethodName := ⟨RX3, "combinesSentTo", "(I)I"⟩
abbrev cX3_onTheWay : ByteArray := prog_5_method_15_code
def yX3_onTheWay : MethodName := ⟨RX3, "onTheWay", "(I)I"⟩
abbrev cX3_allOnTheWay : ByteArray := prog_5_method_16_code
def yX3_allOnTheWay : MethodName := ⟨RX3, "allOnTheWay", "()I"⟩
abbrev cX3_uncutAcres : ByteArray := prog_5_method_17_code
def yX3_uncutAcres : MethodName := ⟨RX3, "uncutAcres", "()I"⟩
abbrev cX3_brokenCombines : ByteArray := prog_5_method_18_code
def yX3_brokenCombines : MethodName := ⟨RX3, "brokenCombines", "()I"⟩
abbrev cX3_allRoom : ByteArray := prog_5_method_19_code
def yX3_allRoom : MethodName := ⟨RX3, "allRoom", "()I"⟩
abbrev cX3_allIdle : ByteArray := prog_5_method_20_code
def yX3_allIdle : MethodName := ⟨RX3, "allIdle", "()I"⟩
abbrev cX3_allQueued : ByteArray := prog_5_method_21_code
def yX3_allQueued : MethodName := ⟨RX3, "allQueued", "()I"⟩
def RX4 : String := "WheatRun$Ticket"
def TX4 : u_T := fun k => match k with
  | 0 => ("WheatRun$Ticket", "field", "I", true)
  | 1 => ("WheatRun$Ticket", "bushels", "I", true)
  | 2 => ("WheatRun$Ticket", "damp", "I", true)
  | 3 => ("WheatRun$Ticket", "discount", "I", true)
  | 4 => ("WheatRun$Ticket", "elevator", "I", true)
  | 5 => ("WheatRun$Ticket", "hour", "I", true)
  | _ => ("WheatRun$Ticket", "worth", "I", true)
def tyX4 : Nat → FieldType := fun k => match k with
  | 0 => .int
  | 1 => .int
  | 2 => .int
  | 3 => .int
  | 4 => .int
  | 5 => .int
  | _ => .int
abbrev wsX40 : List Cond := u_ws RX4 TX4 7
theorem nmX4 : ∀ a, a < 7 → ∀ b, b < 7 → a ≠ b → (TX4 a).2.1 ≠ (TX4 b).2.1 := by decide +kernel
theorem tyX4_ok : ∀ k, k < 7 → parseFieldDescriptor (TX4 k).2.2.1 = some (tyX4 k) := by decide +kernel
abbrev cX4_init : ByteArray := prog_6_method_1_code
def yX4_init : MethodName := ⟨RX4, "<init>", "(LWheatRun$Truck;III)V"⟩
def RX5 : String := "WheatRun$Truck"
def TX5 : u_T := fun k => match k with
  | 0 => ("WheatRun$Truck", "mile", "I", false)
  | 1 => ("WheatRun$Truck", "hours", "I", false)
  | 2 => ("WheatRun$Truck", "load", "I", false)
  | 3 => ("WheatRun$Truck", "loadField", "I", false)
  | 4 => ("WheatRun$Truck", "damp", "I", false)
  | 5 => ("WheatRun$Truck", "rest", "I", false)
  | 6 => ("WheatRun$Truck", "queued", "I", false)
  | 7 => ("WheatRun$Truck", "toCombine", "I", false)
  | 8 => ("WheatRun$Truck", "toElevator", "I", false)
  | _ => ("WheatRun$Truck", "driven", "I", false)
def tyX5 : Nat → FieldType := fun k => match k with
  | 0 => .int
  | 1 => .int
  | 2 => .int
  | 3 => .int
  | 4 => .int
  | 5 => .int
  | 6 => .int
  | 7 => .int
  | 8 => .int
  | _ => .int
abbrev wsX50 : List Cond := u_ws RX5 TX5 10
theorem nmX5 : ∀ a, a < 10 → ∀ b, b < 10 → a ≠ b → (TX5 a).2.1 ≠ (TX5 b).2.1 := by decide +kernel
theorem tyX5_ok : ∀ k, k < 10 → parseFieldDescriptor (TX5 k).2.2.1 = some (tyX5 k) := by decide +kernel
abbrev cX5_init : ByteArray := prog_7_method_1_code
def yX5_init : MethodName := ⟨RX5, "<init>", "(I)V"⟩
abbrev cX5_copyFrom : ByteArray := prog_7_method_2_code
def yX5_copyFrom : MethodName := ⟨RX5, "copyFrom", "(LWheatRun$Truck;)V"⟩
abbrev cX5_mustRest : ByteArray := prog_7_method_3_code
def yX5_mustRest : MethodName := ⟨RX5, "mustRest", "()Z"⟩
abbrev cX5_sleepHour : ByteArray := prog_7_method_4_code
def yX5_sleepHour : MethodName := ⟨RX5, "sleepHour", "()V"⟩
abbrev cX5_drive : ByteArray := prog_7_method_5_code
def yX5_drive : MethodName := ⟨RX5, "drive", "(I)V"⟩
abbrev cX5_takeFrom : ByteArray := prog_7_method_6_code
def yX5_takeFrom : MethodName := ⟨RX5, "takeFrom", "(LWheatRun$Combine;)V"⟩
def RX6 : String := "WheatRun"
def TX6 : u_T := fun k => match k with
  | 0 => ("WheatRun", "land", "LWheatRun$Land;", true)
  | 1 => ("WheatRun", "trial", "LWheatRun$Land;", true)
  | _ => ("WheatRun", "trialField", "LWheatRun$Field;", true)
def tyX6 : Nat → FieldType := fun k => match k with
  | 0 => .object "WheatRun$Land"
  | 1 => .object "WheatRun$Land"
  | _ => .object "WheatRun$Field"
abbrev wsX60 : List Cond := u_ws RX6 TX6 3
theorem nmX6 : ∀ a, a < 3 → ∀ b, b < 3 → a ≠ b → (TX6 a).2.1 ≠ (TX6 b).2.1 := by decide +kernel
theorem tyX6_ok : ∀ k, k < 3 → parseFieldDescriptor (TX6 k).2.2.1 = some (tyX6 k) := by decide +kernel
abbrev cX6_init : ByteArray := prog_1_method_1_code
def yX6_init : MethodName := ⟨RX6, "<init>", "()V"⟩
abbrev cX6_field : ByteArray := prog_1_method_2_code
def yX6_field : MethodName := ⟨RX6, "field", "(IIIII)I"⟩
abbrev cX6_crop : ByteArray := prog_1_method_3_code
def yX6_crop : MethodName := ⟨RX6, "crop", "(III)I"⟩
abbrev cX6_combine : ByteArray := prog_1_method_4_code
def yX6_combine : MethodName := ⟨RX6, "combine", "(II)I"⟩
abbrev cX6_truck : ByteArray := prog_1_method_5_code
def yX6_truck : MethodName := ⟨RX6, "truck", "(I)I"⟩
abbrev cX6_elevator : ByteArray := prog_1_method_6_code
def yX6_elevator : MethodName := ⟨RX6, "elevator", "(IIIIII)I"⟩
abbrev cX6_price : ByteArray := prog_1_method_7_code
def yX6_price : MethodName := ⟨RX6, "price", "(I)I"⟩
abbrev cX6_cut : ByteArray := prog_1_method_8_code
def yX6_cut : MethodName := ⟨RX6, "cut", "(II)I"⟩
abbrev cX6_fetch : ByteArray := prog_1_method_9_code
def yX6_fetch : MethodName := ⟨RX6, "fetch", "(II)I"⟩
abbrev cX6_haul : ByteArray := prog_1_method_10_code
def yX6_haul : MethodName := ⟨RX6, "haul", "(II)I"⟩
abbrev cX6_stop : ByteArray := prog_1_method_11_code
def yX6_stop : MethodName := ⟨RX6, "stop", "(I)I"⟩
abbrev cX6_mend : ByteArray := prog_1_method_12_code
def yX6_mend : MethodName := ⟨RX6, "mend", "(I)I"⟩
abbrev cX6_train : ByteArray := prog_1_method_13_code
def yX6_train : MethodName := ⟨RX6, "train", "(II)I"⟩
abbrev cX6_pass : ByteArray := prog_1_method_14_code
def yX6_pass : MethodName := ⟨RX6, "pass", "(IIII)I"⟩
abbrev cX6_ofField : ByteArray := prog_1_method_15_code
def yX6_ofField : MethodName := ⟨RX6, "ofField", "(II)I"⟩
abbrev cX6_ofCombine : ByteArray := prog_1_method_16_code
def yX6_ofCombine : MethodName := ⟨RX6, "ofCombine", "(II)I"⟩
abbrev cX6_ofTruck : ByteArray := prog_1_method_17_code
def yX6_ofTruck : MethodName := ⟨RX6, "ofTruck", "(II)I"⟩
abbrev cX6_ofTicket : ByteArray := prog_1_method_18_code
def yX6_ofTicket : MethodName := ⟨RX6, "ofTicket", "(II)I"⟩
abbrev cX6_owed : ByteArray := prog_1_method_19_code
def yX6_owed : MethodName := ⟨RX6, "owed", "(IZ)I"⟩
abbrev cX6_many : ByteArray := prog_1_method_20_code
def yX6_many : MethodName := ⟨RX6, "many", "(I)I"⟩
abbrev cX6_meanDamp : ByteArray := prog_1_method_21_code
def yX6_meanDamp : MethodName := ⟨RX6, "meanDamp", "()D"⟩
abbrev cX6_readyIn : ByteArray := prog_1_method_22_code
def yX6_readyIn : MethodName := ⟨RX6, "readyIn", "(III)I"⟩
abbrev cX6_nextField : ByteArray := prog_1_method_23_code
def yX6_nextField : MethodName := ⟨RX6, "nextField", "(IIII)I"⟩
abbrev cX6_waiting : ByteArray := prog_1_method_24_code
def yX6_waiting : MethodName := ⟨RX6, "waiting", "(IIIII)I"⟩
abbrev cX6_digest : ByteArray := prog_1_method_25_code
def yX6_digest : MethodName := ⟨RX6, "digest", "()J"⟩
abbrev cX6_isOutside : ByteArray := prog_1_method_26_code
def yX6_isOutside : MethodName := ⟨RX6, "isOutside", "(III)Z"⟩
abbrev cX6_isNoWeather : ByteArray := prog_1_method_27_code
def yX6_isNoWeather : MethodName := ⟨RX6, "isNoWeather", "(III)Z"⟩
abbrev cX6_isNoForecast : ByteArray := prog_1_method_28_code
def yX6_isNoForecast : MethodName := ⟨RX6, "isNoForecast", "(IIII)Z"⟩
abbrev cX6_towards : ByteArray := prog_1_method_29_code
def yX6_towards : MethodName := ⟨RX6, "towards", "(III)I"⟩
abbrev cX6_bushelsIfSent : ByteArray := prog_1_method_30_code
def yX6_bushelsIfSent : MethodName := ⟨RX6, "bushelsIfSent", "(IIIII)I"⟩
def RX7 : String := "WheatRunModel$Land"
def TX7 : u_T := fun k => match k with
  | 0 => ("WheatRunModel$Land", "fields", "[[I", true)
  | 1 => ("WheatRunModel$Land", "combines", "[[I", true)
  | 2 => ("WheatRunModel$Land", "trucks", "[[I", true)
  | 3 => ("WheatRunModel$Land", "elevators", "[[I", true)
  | 4 => ("WheatRunModel$Land", "tickets", "Ljava/util/List;", true)
  | 5 => ("WheatRunModel$Land", "now", "I", false)
  | 6 => ("WheatRunModel$Land", "fieldCount", "I", false)
  | 7 => ("WheatRunModel$Land", "combineCount", "I", false)
  | 8 => ("WheatRunModel$Land", "truckCount", "I", false)
  | _ => ("WheatRunModel$Land", "elevatorCount", "I", false)
def tyX7 : Nat → FieldType := fun k => match k with
  | 0 => .array (.array .int)
  | 1 => .array (.array .int)
  | 2 => .array (.array .int)
  | 3 => .array (.array .int)
  | 4 => .object "java/util/List"
  | 5 => .int
  | 6 => .int
  | 7 => .int
  | 8 => .int
  | _ => .int
abbrev wsX70 : List Cond := u_ws RX7 TX7 10
theorem nmX7 : ∀ a, a < 10 → ∀ b, b < 10 → a ≠ b → (TX7 a).2.1 ≠ (TX7 b).2.1 := by decide +kernel
theorem tyX7_ok : ∀ k, k < 10 → parseFieldDescriptor (TX7 k).2.2.1 = some (tyX7 k) := by decide +kernel
abbrev cX7_init : ByteArray := prog_10_method_1_code
def yX7_init : MethodName := ⟨RX7, "<init>", "()V"⟩
abbrev cX7_copy : ByteArray := prog_10_method_2_code
def yX7_copy : MethodName := ⟨RX7, "copy", "()LWheatRunModel$Land;"⟩
abbrev cX7_clock : ByteArray := prog_10_method_3_code
def yX7_clock : MethodName := ⟨RX7, "clock", "()I"⟩
abbrev cX7_brings : ByteArray := prog_10_method_4_code
def yX7_brings : MethodName := ⟨RX7, "brings", "([I)I"⟩
abbrev cX7_ripen : ByteArray := prog_10_method_5_code
def yX7_ripen : MethodName := ⟨RX7, "ripen", "([IIIII)V"⟩
abbrev cX7_go : ByteArray := prog_10_method_6_code
def yX7_go : MethodName := ⟨RX7, "go", "(III)I"⟩
abbrev cX7_towards : ByteArray := prog_10_method_7_code
def yX7_towards : MethodName := ⟨RX7, "towards", "([III)V"⟩
abbrev cX7_work : ByteArray := prog_10_method_8_code
def yX7_work : MethodName := ⟨RX7, "work", "(I[II)V"⟩
abbrev cX7_drive : ByteArray := prog_10_method_9_code
def yX7_drive : MethodName := ⟨RX7, "drive", "([I)V"⟩
abbrev cX7_load : ByteArray := prog_10_method_10_code
def yX7_load : MethodName := ⟨RX7, "load", "([I[I)V"⟩
abbrev cX7_isOpen : ByteArray := prog_10_method_11_code
def yX7_isOpen : MethodName := ⟨RX7, "isOpen", "([I)Z"⟩
abbrev cX7_sell : ByteArray := prog_10_method_12_code
def yX7_sell : MethodName := ⟨RX7, "sell", "([I[I)V"⟩
abbrev cX7_between : ByteArray := prog_10_method_13_code
def yX7_between : MethodName := ⟨RX7, "between", "(I)I"⟩
abbrev cX7_sentTo : ByteArray := prog_10_method_14_code
def yX7_sentTo : MethodName := ⟨RX7, "sentTo", "(I)I"⟩
def RX8 : String := "WheatRunModel"
def TX8 : u_T := fun k => match k with
  | 0 => ("WheatRunModel", "thrown", "I", false)
  | 1 => ("WheatRunModel", "land", "LWheatRunModel$Land;", true)
  | 2 => ("WheatRunModel", "farmers", "[I", true)
  | 3 => ("WheatRunModel", "landlords", "[I", true)
  | 4 => ("WheatRunModel", "price", "I", false)
  | _ => ("WheatRunModel", "money", "I", false)
def tyX8 : Nat → FieldType := fun k => match k with
  | 0 => .int
  | 1 => .object "WheatRunModel$Land"
  | 2 => .array .int
  | 3 => .array .int
  | 4 => .int
  | _ => .int
abbrev wsX80 : List Cond := u_ws RX8 TX8 6
theorem nmX8 : ∀ a, a < 6 → ∀ b, b < 6 → a ≠ b → (TX8 a).2.1 ≠ (TX8 b).2.1 := by decide +kernel
theorem tyX8_ok : ∀ k, k < 6 → parseFieldDescriptor (TX8 k).2.2.1 = some (tyX8 k) := by decide +kernel
abbrev cX8_init : ByteArray := prog_9_method_1_code
def yX8_init : MethodName := ⟨RX8, "<init>", "()V"⟩
abbrev cX8_thrown : ByteArray := prog_9_method_2_code
def yX8_thrown : MethodName := ⟨RX8, "thrown", "()I"⟩
abbrev cX8_no : ByteArray := prog_9_method_3_code
def yX8_no : MethodName := ⟨RX8, "no", "(I)I"⟩
abbrev cX8_in : ByteArray := prog_9_method_4_code
def yX8_in : MethodName := ⟨RX8, "in", "(III)Z"⟩
abbrev cX8_isField : ByteArray := prog_9_method_5_code
def yX8_isField : MethodName := ⟨RX8, "isField", "(I)Z"⟩
abbrev cX8_isCombine : ByteArray := prog_9_method_6_code
def yX8_isCombine : MethodName := ⟨RX8, "isCombine", "(I)Z"⟩
abbrev cX8_isTruck : ByteArray := prog_9_method_7_code
def yX8_isTruck : MethodName := ⟨RX8, "isTruck", "(I)Z"⟩
abbrev cX8_isElevator : ByteArray := prog_9_method_8_code
def yX8_isElevator : MethodName := ⟨RX8, "isElevator", "(I)Z"⟩
abbrev cX8_isMile : ByteArray := prog_9_method_9_code
def yX8_isMile : MethodName := ⟨RX8, "isMile", "(I)Z"⟩
abbrev cX8_field : ByteArray := prog_9_method_10_code
def yX8_field : MethodName := ⟨RX8, "field", "(IIIII)I"⟩
abbrev cX8_crop : ByteArray := prog_9_method_11_code
def yX8_crop : MethodName := ⟨RX8, "crop", "(III)I"⟩
abbrev cX8_combine : ByteArray := prog_9_method_12_code
def yX8_combine : MethodName := ⟨RX8, "combine", "(II)I"⟩
abbrev cX8_truck : ByteArray := prog_9_method_13_code
def yX8_truck : MethodName := ⟨RX8, "truck", "(I)I"⟩
abbrev cX8_elevator : ByteArray := prog_9_method_14_code
def yX8_elevator : MethodName := ⟨RX8, "elevator", "(IIIIII)I"⟩
abbrev cX8_price : ByteArray := prog_9_method_15_code
def yX8_price : MethodName := ⟨RX8, "price", "(I)I"⟩
abbrev cX8_cut : ByteArray := prog_9_method_16_code
def yX8_cut : MethodName := ⟨RX8, "cut", "(II)I"⟩
abbrev cX8_send : ByteArray := prog_9_method_17_code
def yX8_send : MethodName := ⟨RX8, "send", "(IIII)I"⟩
abbrev cX8_fetch : ByteArray := prog_9_method_18_code
def yX8_fetch : MethodName := ⟨RX8, "fetch", "(II)I"⟩
abbrev cX8_haul : ByteArray := prog_9_method_19_code
def yX8_haul : MethodName := ⟨RX8, "haul", "(II)I"⟩
abbrev cX8_stop : ByteArray := prog_9_method_20_code
def yX8_stop : MethodName := ⟨RX8, "stop", "(I)I"⟩
abbrev cX8_mend : ByteArray := prog_9_method_21_code
def yX8_mend : MethodName := ⟨RX8, "mend", "(I)I"⟩
abbrev cX8_train : ByteArray := prog_9_method_22_code
def yX8_train : MethodName := ⟨RX8, "train", "(II)I"⟩
abbrev cX8_isWeather : ByteArray := prog_9_method_23_code
def yX8_isWeather : MethodName := ⟨RX8, "isWeather", "(III)Z"⟩
abbrev cX8_pass : ByteArray := prog_9_method_24_code
def yX8_pass : MethodName := ⟨RX8, "pass", "(IIII)I"⟩
abbrev cX8_pay : ByteArray := prog_9_method_25_code
def yX8_pay : MethodName := ⟨RX8, "pay", "([I)V"⟩
abbrev cX8_fieldNow : ByteArray := prog_9_method_26_code
def yX8_fieldNow : MethodName := ⟨RX8, "fieldNow", "(II)I"⟩
abbrev cX8_ofField : ByteArray := prog_9_method_27_code
def yX8_ofField : MethodName := ⟨RX8, "ofField", "(II)I"⟩
abbrev cX8_combineNow : ByteArray := prog_9_method_28_code
def yX8_combineNow : MethodName := ⟨RX8, "combineNow", "(II)I"⟩
abbrev cX8_ofCombine : ByteArray := prog_9_method_29_code
def yX8_ofCombine : MethodName := ⟨RX8, "ofCombine", "(II)I"⟩
abbrev cX8_truckNow : ByteArray := prog_9_method_30_code
def yX8_truckNow : MethodName := ⟨RX8, "truckNow", "(II)I"⟩
abbrev cX8_ofTruck : ByteArray := prog_9_method_31_code
def yX8_ofTruck : MethodName := ⟨RX8, "ofTruck", "(II)I"⟩
abbrev cX8_ofTicket : ByteArray := prog_9_method_32_code
def yX8_ofTicket : MethodName := ⟨RX8, "ofTicket", "(II)I"⟩
abbrev cX8_owed : ByteArray := prog_9_method_33_code
def yX8_owed : MethodName := ⟨RX8, "owed", "(IZ)I"⟩
abbrev cX8_manyNow : ByteArray := prog_9_method_34_code
def yX8_manyNow : MethodName := ⟨RX8, "manyNow", "(I)I"⟩
abbrev cX8_many : ByteArray := prog_9_method_35_code
def yX8_many : MethodName := ⟨RX8, "many", "(I)I"⟩
abbrev cX8_meanDamp : ByteArray := prog_9_method_36_code
def yX8_meanDamp : MethodName := ⟨RX8, "meanDamp", "()D"⟩
abbrev cX8_readyNow : ByteArray := prog_9_method_37_code
def yX8_readyNow : MethodName := ⟨RX8, "readyNow", "(III)I"⟩
abbrev cX8_readyIn : ByteArray := prog_9_method_38_code
def yX8_readyIn : MethodName := ⟨RX8, "readyIn", "(III)I"⟩
abbrev cX8_nextNow : ByteArray := prog_9_method_39_code
def yX8_nextNow : MethodName := ⟨RX8, "nextNow", "(IIII)I"⟩
abbrev cX8_nextField : ByteArray := prog_9_method_40_code
def yX8_nextField : MethodName := ⟨RX8, "nextField", "(IIII)I"⟩
abbrev cX8_waitingNow : ByteArray := prog_9_method_41_code
def yX8_waitingNow : MethodName := ⟨RX8, "waitingNow", "(IIIII)I"⟩
abbrev cX8_waiting : ByteArray := prog_9_method_42_code
def yX8_waiting : MethodName := ⟨RX8, "waiting", "(IIIII)I"⟩
abbrev cX8_digest : ByteArray := prog_9_method_43_code
def yX8_digest : MethodName := ⟨RX8, "digest", "()J"⟩
def RJx145de : String := "java/io/Serializable"
def TJx145de : u_T := fun k => match k with
  | _ => ("", "", "", false)
def tyJx145de : Nat → FieldType := fun k => match k with
  | _ => .int
abbrev wsJx145de0 : List Cond := u_ws RJx145de TJx145de 0
theorem nmJx145de : ∀ a, a < 0 → ∀ b, b < 0 → a ≠ b → (TJx145de a).2.1 ≠ (TJx145de b).2.1 := by decide +kernel
theorem tyJx145de_ok : ∀ k, k < 0 → parseFieldDescriptor (TJx145de k).2.2.1 = some (tyJx145de k) := by decide +kernel
def RJx8e188 : String := "java/lang/Cloneable"
def TJx8e188 : u_T := fun k => match k with
  | _ => ("", "", "", false)
def tyJx8e188 : Nat → FieldType := fun k => match k with
  | _ => .int
abbrev wsJx8e1880 : List Cond := u_ws RJx8e188 TJx8e188 0
theorem nmJx8e188 : ∀ a, a < 0 → ∀ b, b < 0 → a ≠ b → (TJx8e188 a).2.1 ≠ (TJx8e188 b).2.1 := by decide +kernel
theorem tyJx8e188_ok : ∀ k, k < 0 → parseFieldDescriptor (TJx8e188 k).2.2.1 = some (tyJx8e188 k) := by decide +kernel
def RJxab1ab : String := "java/lang/Iterable"
def TJxab1ab : u_T := fun k => match k with
  | _ => ("", "", "", false)
def tyJxab1ab : Nat → FieldType := fun k => match k with
  | _ => .int
abbrev wsJxab1ab0 : List Cond := u_ws RJxab1ab TJxab1ab 0
theorem nmJxab1ab : ∀ a, a < 0 → ∀ b, b < 0 → a ≠ b → (TJxab1ab a).2.1 ≠ (TJxab1ab b).2.1 := by decide +kernel
theorem tyJxab1ab_ok : ∀ k, k < 0 → parseFieldDescriptor (TJxab1ab k).2.2.1 = some (tyJxab1ab k) := by decide +kernel
def RJ9 : String := "java/lang/Math"
def TJ9 : u_T := fun k => match k with
  | _ => ("", "", "", false)
def tyJ9 : Nat → FieldType := fun k => match k with
  | _ => .int
abbrev wsJ90 : List Cond := u_ws RJ9 TJ9 0
theorem nmJ9 : ∀ a, a < 0 → ∀ b, b < 0 → a ≠ b → (TJ9 a).2.1 ≠ (TJ9 b).2.1 := by decide +kernel
theorem tyJ9_ok : ∀ k, k < 0 → parseFieldDescriptor (TJ9 k).2.2.1 = some (tyJ9 k) := by decide +kernel
abbrev cJ9_abs_0f7a4 : ByteArray := prog_18_method_59_code
def yJ9_abs_0f7a4 : MethodName := ⟨RJ9, "abs", "(I)I"⟩
abbrev cJ9_max_7cf53 : ByteArray := prog_18_method_65_code
def yJ9_max_7cf53 : MethodName := ⟨RJ9, "max", "(II)I"⟩
abbrev cJ9_min_7cf53 : ByteArray := prog_18_method_69_code
def yJ9_min_7cf53 : MethodName := ⟨RJ9, "min", "(II)I"⟩
def RJ0 : String := "java/lang/String"
def TJ0 : u_T := fun k => match k with
  | _ => ("", "", "", false)
def tyJ0 : Nat → FieldType := fun k => match k with
  | _ => .int
abbrev wsJ00 : List Cond := u_ws RJ0 TJ0 0
theorem nmJ0 : ∀ a, a < 0 → ∀ b, b < 0 → a ≠ b → (TJ0 a).2.1 ≠ (TJ0 b).2.1 := by decide +kernel
theorem tyJ0_ok : ∀ k, k < 0 → parseFieldDescriptor (TJ0 k).2.2.1 = some (tyJ0 k) := by decide +kernel
def RJ10 : String := "java/lang/System"
def TJ10 : u_T := fun k => match k with
  | _ => ("", "", "", false)
def tyJ10 : Nat → FieldType := fun k => match k with
  | _ => .int
abbrev wsJ100 : List Cond := u_ws RJ10 TJ10 0
theorem nmJ10 : ∀ a, a < 0 → ∀ b, b < 0 → a ≠ b → (TJ10 a).2.1 ≠ (TJ10 b).2.1 := by decide +kernel
theorem tyJ10_ok : ∀ k, k < 0 → parseFieldDescriptor (TJ10 k).2.2.1 = some (tyJ10 k) := by decide +kernel
def RJxa1e45 : String := "java/util/AbstractCollection"
def TJxa1e45 : u_T := fun k => match k with
  | _ => ("", "", "", false)
def tyJxa1e45 : Nat → FieldType := fun k => match k with
  | _ => .int
abbrev wsJxa1e450 : List Cond := u_ws RJxa1e45 TJxa1e45 0
theorem nmJxa1e45 : ∀ a, a < 0 → ∀ b, b < 0 → a ≠ b → (TJxa1e45 a).2.1 ≠ (TJxa1e45 b).2.1 := by decide +kernel
theorem tyJxa1e45_ok : ∀ k, k < 0 → parseFieldDescriptor (TJxa1e45 k).2.2.1 = some (tyJxa1e45 k) := by decide +kernel
abbrev cJxa1e45_init_da8c8 : ByteArray := prog_23_method_1_code
def yJxa1e45_init_da8c8 : MethodName := ⟨RJxa1e45, "<init>", "()V"⟩
def RJxc12de : String := "java/util/AbstractList"
def TJxc12de : u_T := fun k => match k with
  | _ => ("", "", "", false)
def tyJxc12de : Nat → FieldType := fun k => match k with
  | _ => .int
abbrev wsJxc12de0 : List Cond := u_ws RJxc12de TJxc12de 0
theorem nmJxc12de : ∀ a, a < 0 → ∀ b, b < 0 → a ≠ b → (TJxc12de a).2.1 ≠ (TJxc12de b).2.1 := by decide +kernel
theorem tyJxc12de_ok : ∀ k, k < 0 → parseFieldDescriptor (TJxc12de k).2.2.1 = some (tyJxc12de k) := by decide +kernel
abbrev cJxc12de_init_da8c8 : ByteArray := prog_24_method_1_code
def yJxc12de_init_da8c8 : MethodName := ⟨RJxc12de, "<init>", "()V"⟩
def RJx4a65c : String := "java/util/ArrayList"
def TJx4a65c : u_T := fun k => match k with
  | 0 => ("java/util/AbstractList", "modCount", "I", false)
  | 1 => ("java/util/ArrayList", "elementData", "[Ljava/lang/Object;", false)
  | _ => ("java/util/ArrayList", "size", "I", false)
def tyJx4a65c : Nat → FieldType := fun k => match k with
  | 0 => .int
  | 1 => .array (.object "java/lang/Object")
  | _ => .int
abbrev wsJx4a65c0 : List Cond := u_ws RJx4a65c TJx4a65c 3
theorem nmJx4a65c : ∀ a, a < 3 → ∀ b, b < 3 → a ≠ b → (TJx4a65c a).2.1 ≠ (TJx4a65c b).2.1 := by decide +kernel
theorem tyJx4a65c_ok : ∀ k, k < 3 → parseFieldDescriptor (TJx4a65c k).2.2.1 = some (tyJx4a65c k) := by decide +kernel
abbrev cJx4a65c_init_da8c8 : ByteArray := prog_25_method_2_code
def yJx4a65c_init_da8c8 : MethodName := ⟨RJx4a65c, "<init>", "()V"⟩
abbrev cJx4a65c_grow_92f84 : ByteArray := prog_25_method_6_code
def yJx4a65c_grow_92f84 : MethodName := ⟨RJx4a65c, "grow", "(I)[Ljava/lang/Object;"⟩
abbrev cJx4a65c_grow_d5877 : ByteArray := prog_25_method_7_code
def yJx4a65c_grow_d5877 : MethodName := ⟨RJx4a65c, "grow", "()[Ljava/lang/Object;"⟩
abbrev cJx4a65c_size_8abf5 : ByteArray := prog_25_method_8_code
def yJx4a65c_size_8abf5 : MethodName := ⟨RJx4a65c, "size", "()I"⟩
abbrev cJx4a65c_elementData_915e3 : ByteArray := prog_25_method_18_code
def yJx4a65c_elementData_915e3 : MethodName := ⟨RJx4a65c, "elementData", "(I)Ljava/lang/Object;"⟩
abbrev cJx4a65c_get_915e3 : ByteArray := prog_25_method_20_code
def yJx4a65c_get_915e3 : MethodName := ⟨RJx4a65c, "get", "(I)Ljava/lang/Object;"⟩
abbrev cJx4a65c_add_72be8 : ByteArray := prog_25_method_24_code
def yJx4a65c_add_72be8 : MethodName := ⟨RJx4a65c, "add", "(Ljava/lang/Object;[Ljava/lang/Object;I)V"⟩
abbrev cJx4a65c_add_9ea2d : ByteArray := prog_25_method_25_code
def yJx4a65c_add_9ea2d : MethodName := ⟨RJx4a65c, "add", "(Ljava/lang/Object;)Z"⟩
def RJ7 : String := "java/util/Arrays"
def TJ7 : u_T := fun k => match k with
  | _ => ("", "", "", false)
def tyJ7 : Nat → FieldType := fun k => match k with
  | _ => .int
abbrev wsJ70 : List Cond := u_ws RJ7 TJ7 0
theorem nmJ7 : ∀ a, a < 0 → ∀ b, b < 0 → a ≠ b → (TJ7 a).2.1 ≠ (TJ7 b).2.1 := by decide +kernel
theorem tyJ7_ok : ∀ k, k < 0 → parseFieldDescriptor (TJ7 k).2.2.1 = some (tyJ7 k) := by decide +kernel
abbrev cJ7_copyOf_1904c : ByteArray := prog_26_method_119_code
def yJ7_copyOf_1904c : MethodName := ⟨RJ7, "copyOf", "([Ljava/lang/Object;I)[Ljava/lang/Object;"⟩
abbrev cJ7_copyOf_6403c : ByteArray := prog_26_method_120_code
def yJ7_copyOf_6403c : MethodName := ⟨RJ7, "copyOf", "([Ljava/lang/Object;ILjava/lang/Class;)[Ljava/lang/Object;"⟩
def RJx5ef63 : String := "java/util/Collection"
def TJx5ef63 : u_T := fun k => match k with
  | _ => ("", "", "", false)
def tyJx5ef63 : Nat → FieldType := fun k => match k with
  | _ => .int
abbrev wsJx5ef630 : List Cond := u_ws RJx5ef63 TJx5ef63 0
theorem nmJx5ef63 : ∀ a, a < 0 → ∀ b, b < 0 → a ≠ b → (TJx5ef63 a).2.1 ≠ (TJx5ef63 b).2.1 := by decide +kernel
theorem tyJx5ef63_ok : ∀ k, k < 0 → parseFieldDescriptor (TJx5ef63 k).2.2.1 = some (tyJx5ef63 k) := by decide +kernel
def RJxbd725 : String := "java/util/List"
def TJxbd725 : u_T := fun k => match k with
  | _ => ("", "", "", false)
def tyJxbd725 : Nat → FieldType := fun k => match k with
  | _ => .int
abbrev wsJxbd7250 : List Cond := u_ws RJxbd725 TJxbd725 0
theorem nmJxbd725 : ∀ a, a < 0 → ∀ b, b < 0 → a ≠ b → (TJxbd725 a).2.1 ≠ (TJxbd725 b).2.1 := by decide +kernel
theorem tyJxbd725_ok : ∀ k, k < 0 → parseFieldDescriptor (TJxbd725 k).2.2.1 = some (tyJxbd725 k) := by decide +kernel
def RJ15 : String := "java/util/Objects"
def TJ15 : u_T := fun k => match k with
  | _ => ("", "", "", false)
def tyJ15 : Nat → FieldType := fun k => match k with
  | _ => .int
abbrev wsJ150 : List Cond := u_ws RJ15 TJ15 0
theorem nmJ15 : ∀ a, a < 0 → ∀ b, b < 0 → a ≠ b → (TJ15 a).2.1 ≠ (TJ15 b).2.1 := by decide +kernel
theorem tyJ15_ok : ∀ k, k < 0 → parseFieldDescriptor (TJ15 k).2.2.1 = some (tyJ15 k) := by decide +kernel
abbrev cJ15_checkIndex_7cf53 : ByteArray := prog_29_method_17_code
def yJ15_checkIndex_7cf53 : MethodName := ⟨RJ15, "checkIndex", "(II)I"⟩
def RJxf0a74 : String := "java/util/RandomAccess"
def TJxf0a74 : u_T := fun k => match k with
  | _ => ("", "", "", false)
def tyJxf0a74 : Nat → FieldType := fun k => match k with
  | _ => .int
abbrev wsJxf0a740 : List Cond := u_ws RJxf0a74 TJxf0a74 0
theorem nmJxf0a74 : ∀ a, a < 0 → ∀ b, b < 0 → a ≠ b → (TJxf0a74 a).2.1 ≠ (TJxf0a74 b).2.1 := by decide +kernel
theorem tyJxf0a74_ok : ∀ k, k < 0 → parseFieldDescriptor (TJxf0a74 k).2.2.1 = some (tyJxf0a74 k) := by decide +kernel
def RJxa66e6 : String := "java/util/SequencedCollection"
def TJxa66e6 : u_T := fun k => match k with
  | _ => ("", "", "", false)
def tyJxa66e6 : Nat → FieldType := fun k => match k with
  | _ => .int
abbrev wsJxa66e60 : List Cond := u_ws RJxa66e6 TJxa66e6 0
theorem nmJxa66e6 : ∀ a, a < 0 → ∀ b, b < 0 → a ≠ b → (TJxa66e6 a).2.1 ≠ (TJxa66e6 b).2.1 := by decide +kernel
theorem tyJxa66e6_ok : ∀ k, k < 0 → parseFieldDescriptor (TJxa66e6 k).2.2.1 = some (tyJxa66e6 k) := by decide +kernel
def RJ8 : String := "jdk/internal/util/ArraysSupport"
def TJ8 : u_T := fun k => match k with
  | _ => ("", "", "", false)
def tyJ8 : Nat → FieldType := fun k => match k with
  | _ => .int
abbrev wsJ80 : List Cond := u_ws RJ8 TJ8 0
theorem nmJ8 : ∀ a, a < 0 → ∀ b, b < 0 → a ≠ b → (TJ8 a).2.1 ≠ (TJ8 b).2.1 := by decide +kernel
theorem tyJ8_ok : ∀ k, k < 0 → parseFieldDescriptor (TJ8 k).2.2.1 = some (tyJ8 k) := by decide +kernel
abbrev cJ8_newLength_cabcc : ByteArray := prog_32_method_27_code
def yJ8_newLength_cabcc : MethodName := ⟨RJ8, "newLength", "(III)I"⟩
abbrev cJ8_hugeLength_7cf53 : ByteArray := prog_32_method_28_code
def yJ8_hugeLength_7cf53 : MethodName := ⟨RJ8, "hugeLength", "(II)I"⟩
def RJ3 : String := "jdk/internal/util/Preconditions"
def TJ3 : u_T := fun k => match k with
  | _ => ("", "", "", false)
def tyJ3 : Nat → FieldType := fun k => match k with
  | _ => .int
abbrev wsJ30 : List Cond := u_ws RJ3 TJ3 0
theorem nmJ3 : ∀ a, a < 0 → ∀ b, b < 0 → a ≠ b → (TJ3 a).2.1 ≠ (TJ3 b).2.1 := by decide +kernel
theorem tyJ3_ok : ∀ k, k < 0 → parseFieldDescriptor (TJ3 k).2.2.1 = some (tyJ3 k) := by decide +kernel
abbrev cJ3_checkIndex_8e157 : ByteArray := prog_33_method_11_code
def yJ3_checkIndex_8e157 : MethodName := ⟨RJ3, "checkIndex", "(IILjava/util/function/BiFunction;)I"⟩
def RL : String := "WheatRunLaw"
abbrev cL_field : ByteArray := method_3_code
def yL_field : MethodName := ⟨RL, "field", "(LWheatRun;IIIII[J)I"⟩
abbrev cL_crop : ByteArray := method_4_code
def yL_crop : MethodName := ⟨RL, "crop", "(LWheatRun;III[J)I"⟩
abbrev cL_combine : ByteArray := method_5_code
def yL_combine : MethodName := ⟨RL, "combine", "(LWheatRun;II[J)I"⟩
abbrev cL_truck : ByteArray := method_6_code
def yL_truck : MethodName := ⟨RL, "truck", "(LWheatRun;I[J)I"⟩
abbrev cL_elevator : ByteArray := method_7_code
def yL_elevator : MethodName := ⟨RL, "elevator", "(LWheatRun;IIIIII[J)I"⟩
abbrev cL_price : ByteArray := method_8_code
def yL_price : MethodName := ⟨RL, "price", "(LWheatRun;I[J)I"⟩
abbrev cL_cut : ByteArray := method_9_code
def yL_cut : MethodName := ⟨RL, "cut", "(LWheatRun;II[J)I"⟩
abbrev cL_fetch : ByteArray := method_10_code
def yL_fetch : MethodName := ⟨RL, "fetch", "(LWheatRun;II[J)I"⟩
abbrev cL_haul : ByteArray := method_11_code
def yL_haul : MethodName := ⟨RL, "haul", "(LWheatRun;II[J)I"⟩
abbrev cL_stop : ByteArray := method_12_code
def yL_stop : MethodName := ⟨RL, "stop", "(LWheatRun;I[J)I"⟩
abbrev cL_mend : ByteArray := method_13_code
def yL_mend : MethodName := ⟨RL, "mend", "(LWheatRun;I[J)I"⟩
abbrev cL_train : ByteArray := method_14_code
def yL_train : MethodName := ⟨RL, "train", "(LWheatRun;II[J)I"⟩
abbrev cL_pass : ByteArray := method_15_code
def yL_pass : MethodName := ⟨RL, "pass", "(LWheatRun;IIII[J)I"⟩
abbrev cL_ofField : ByteArray := method_16_code
def yL_ofField : MethodName := ⟨RL, "ofField", "(LWheatRun;II[J)I"⟩
abbrev cL_ofCombine : ByteArray := method_17_code
def yL_ofCombine : MethodName := ⟨RL, "ofCombine", "(LWheatRun;II[J)I"⟩
abbrev cL_ofTruck : ByteArray := method_18_code
def yL_ofTruck : MethodName := ⟨RL, "ofTruck", "(LWheatRun;II[J)I"⟩
abbrev cL_ofTicket : ByteArray := method_19_code
def yL_ofTicket : MethodName := ⟨RL, "ofTicket", "(LWheatRun;II[J)I"⟩
abbrev cL_owed : ByteArray := method_20_code
def yL_owed : MethodName := ⟨RL, "owed", "(LWheatRun;IZ[J)I"⟩
abbrev cL_many : ByteArray := method_21_code
def yL_many : MethodName := ⟨RL, "many", "(LWheatRun;I[J)I"⟩
abbrev cL_readyIn : ByteArray := method_22_code
def yL_readyIn : MethodName := ⟨RL, "readyIn", "(LWheatRun;III[J)I"⟩
abbrev cL_nextField : ByteArray := method_23_code
def yL_nextField : MethodName := ⟨RL, "nextField", "(LWheatRun;IIII[J)I"⟩
abbrev cL_waiting : ByteArray := method_24_code
def yL_waiting : MethodName := ⟨RL, "waiting", "(LWheatRun;IIIII[J)I"⟩
abbrev cL_law : ByteArray := code
def yL_law : MethodName := ⟨RL, "law", "([I)Z"⟩
abbrev vwCl : List vw_C := [(RJx4a65c, TJx4a65c, 3), (RX0, TX0, 12), (RX1, TX1, 6), (RX2, TX2, 13), (RX3, TX3, 9), (RX4, TX4, 7), (RX5, TX5, 10), (RX6, TX6, 3), (RX7, TX7, 10), (RX8, TX8, 6)]
end
section
def AL : List Cond := lw_tbl.filter goodWord
theorem al_at {w : Cond} (i : Nat) (h : lw_tbl[i]? = some w) (hg : goodWord w = true) : w ∈ AL := List.mem_filter.mpr ⟨List.mem_of_getElem? h, hg⟩
theorem al_tb : ∀ w ∈ AL, w ∈ lw_tbl := fun w h => (List.mem_filter.mp h).1
theorem al_gw : ∀ w ∈ AL, (w.onTables && w.keeps) = true ∨ ∃ ty, w = .arrayClass ty := fun w h => good_of_word (List.mem_filter.mp h).2
theorem al_ps {ws : List Cond} (ps : List Nat) (h : ws = ps.filterMap (fun i => lw_tbl[i]?)) (hg : ws.all goodWord = true) : ∀ w ∈ ws, w ∈ AL := fun w hw => by
  have h1 := List.all_eq_true.mp hg w hw
  rw [h] at hw
  obtain ⟨i, -, hi⟩ := List.mem_filterMap.mp hw
  exact al_at i hi h1
theorem iaX0 : ∀ w ∈ u_ws RX0 TX0 12, w ∈ AL := al_ps [553, 555, 557, 559, 561, 563, 565, 567, 569, 571, 573, 575] (by decide +kernel) (by decide +kernel)
theorem iaX1 : ∀ w ∈ u_ws RX1 TX1 6, w ∈ AL := al_ps [652, 654, 656, 658, 660, 662] (by decide +kernel) (by decide +kernel)
theorem iaX2 : ∀ w ∈ u_ws RX2 TX2 13, w ∈ AL := al_ps [170, 172, 174, 176, 178, 180, 182, 184, 186, 188, 190, 192, 194] (by decide +kernel) (by decide +kernel)
theorem iaX3 : ∀ w ∈ u_ws RX3 TX3 9, w ∈ AL := al_ps [117, 119, 121, 123, 125, 127, 129, 131, 133] (by decide +kernel) (by decide +kernel)
theorem iaX4 : ∀ w ∈ u_ws RX4 TX4 7, w ∈ AL := al_ps [790, 792, 794, 796, 798, 800, 802] (by decide +kernel) (by decide +kernel)
theorem iaX5 : ∀ w ∈ u_ws RX5 TX5 10, w ∈ AL := al_ps [616, 618, 620, 622, 624, 626, 628, 630, 632, 634] (by decide +kernel) (by decide +kernel)
theorem iaX6 : ∀ w ∈ u_ws RX6 TX6 3, w ∈ AL := al_ps [200, 202, 204] (by decide +kernel) (by decide +kernel)
theorem iaX7 : ∀ w ∈ u_ws RX7 TX7 10, w ∈ AL := al_ps [1038, 1040, 1042, 1044, 1046, 1048, 1050, 1052, 1054, 1056] (by decide +kernel) (by decide +kernel)
theorem iaX8 : ∀ w ∈ u_ws RX8 TX8 6, w ∈ AL := al_ps [1066, 1068, 1070, 1072, 1074, 1076] (by decide +kernel) (by decide +kernel)
theorem iaJx4a65c : ∀ w ∈ u_ws RJx4a65c TJx4a65c 3, w ∈ AL := al_ps [97, 93, 95] (by decide +kernel) (by decide +kernel)
theorem wk_L_8 : Cond.classLink RL 8 RX6 ∈ AL := al_at 60 (by decide +kernel) rfl
theorem wb_X6 : Cond.instantiable RX6 3 ∈ AL := al_at 61 (by decide +kernel) rfl
theorem wn_X6 : Cond.initialized RX6 ∈ AL := al_at 36 (by decide +kernel) rfl
theorem wk_L_89 : Cond.classLink RL 89 RX8 ∈ AL := al_at 1002 (by decide +kernel) rfl
theorem wb_X8 : Cond.instantiable RX8 6 ∈ AL := al_at 1003 (by decide +kernel) rfl
theorem wn_X8 : Cond.initialized RX8 ∈ AL := al_at 42 (by decide +kernel) rfl
theorem wa_long : Cond.arrayClass .long ∈ AL := al_at 1330 (by decide +kernel) rfl
theorem wm_L_88 : Cond.methodLink RL 88 yX6_init ∈ AL := al_at 62 (by decide +kernel) rfl
theorem wi_X6_init : Cond.instanceMethod yX6_init ∈ AL := al_at 63 (by decide +kernel) rfl
theorem wc_X6_init : Cond.code yX6_init cX6_init 1 none ∈ AL := al_at 64 (by decide +kernel) rfl
theorem wm_X6_1 : Cond.methodLink RX6 1 objectInit ∈ AL := al_at 65 (by decide +kernel) rfl
theorem wi_objinit : Cond.instanceMethod objectInit ∈ AL := al_at 66 (by decide +kernel) rfl
theorem wc_objinit : Cond.code objectInit ⟨#[0xb1]⟩ 1 none ∈ AL := al_at 67 (by decide +kernel) rfl
theorem wk_X6_7 : Cond.classLink RX6 7 RX3 ∈ AL := al_at 68 (by decide +kernel) rfl
theorem wb_X3 : Cond.instantiable RX3 9 ∈ AL := al_at 69 (by decide +kernel) rfl
theorem wn_X3 : Cond.initialized RX3 ∈ AL := al_at 37 (by decide +kernel) rfl
theorem wf_X6_12 : Cond.fieldLink RX6 12 "WheatRun" "land" "LWheatRun$Land;" ∈ AL := al_at 197 (by decide +kernel) rfl
theorem wf_X6_18 : Cond.fieldLink RX6 18 "WheatRun" "trial" "LWheatRun$Land;" ∈ AL := al_at 198 (by decide +kernel) rfl
theorem wk_X6_21 : Cond.classLink RX6 21 RX2 ∈ AL := al_at 136 (by decide +kernel) rfl
theorem wb_X2 : Cond.instantiable RX2 13 ∈ AL := al_at 137 (by decide +kernel) rfl
theorem wn_X2 : Cond.initialized RX2 ∈ AL := al_at 41 (by decide +kernel) rfl
theorem wf_X6_26 : Cond.fieldLink RX6 26 "WheatRun" "trialField" "LWheatRun$Field;" ∈ AL := al_at 199 (by decide +kernel) rfl
theorem wm_X6_9 : Cond.methodLink RX6 9 yX3_init ∈ AL := al_at 70 (by decide +kernel) rfl
theorem wi_X3_init : Cond.instanceMethod yX3_init ∈ AL := al_at 71 (by decide +kernel) rfl
theorem wc_X3_init : Cond.code yX3_init cX3_init 2 none ∈ AL := al_at 72 (by decide +kernel) rfl
theorem wm_X3_3 : Cond.methodLink RX3 3 objectInit ∈ AL := al_at 73 (by decide +kernel) rfl
theorem wk_X3_9 : Cond.classLink RX3 9 RJx4a65c ∈ AL := al_at 74 (by decide +kernel) rfl
theorem wb_Jx4a65c : Cond.instantiable RJx4a65c 3 ∈ AL := al_at 75 (by decide +kernel) rfl
theorem wn_Jx4a65c : Cond.initialized RJx4a65c ∈ AL := al_at 40 (by decide +kernel) rfl
theorem wf_X3_12 : Cond.fieldLink RX3 12 "WheatRun$Land" "fields" "Ljava/util/ArrayList;" ∈ AL := al_at 100 (by decide +kernel) rfl
theorem wf_X3_18 : Cond.fieldLink RX3 18 "WheatRun$Land" "combines" "Ljava/util/ArrayList;" ∈ AL := al_at 102 (by decide +kernel) rfl
theorem wf_X3_21 : Cond.fieldLink RX3 21 "WheatRun$Land" "trucks" "Ljava/util/ArrayList;" ∈ AL := al_at 104 (by decide +kernel) rfl
theorem wf_X3_24 : Cond.fieldLink RX3 24 "WheatRun$Land" "elevators" "Ljava/util/ArrayList;" ∈ AL := al_at 106 (by decide +kernel) rfl
theorem wf_X3_27 : Cond.fieldLink RX3 27 "WheatRun$Land" "tickets" "Ljava/util/ArrayList;" ∈ AL := al_at 108 (by decide +kernel) rfl
theorem wf_X3_30 : Cond.fieldLink RX3 30 "WheatRun$Land" "price" "I" ∈ AL := al_at 113 (by decide +kernel) rfl
theorem wf_X3_34 : Cond.fieldLink RX3 34 "WheatRun$Land" "money" "I" ∈ AL := al_at 115 (by decide +kernel) rfl
theorem wf_X3_37 : Cond.fieldLink RX3 37 "WheatRun$Land" "isTrial" "Z" ∈ AL := al_at 110 (by decide +kernel) rfl
theorem wm_X3_11 : Cond.methodLink RX3 11 yJx4a65c_init_da8c8 ∈ AL := al_at 76 (by decide +kernel) rfl
theorem wi_Jx4a65c_init_da8c8 : Cond.instanceMethod yJx4a65c_init_da8c8 ∈ AL := al_at 77 (by decide +kernel) rfl
theorem wc_Jx4a65c_init_da8c8 : Cond.code yJx4a65c_init_da8c8 cJx4a65c_init_da8c8 1 none ∈ AL := al_at 78 (by decide +kernel) rfl
theorem wf_Jx4a65c_39 : Cond.fieldLink RJx4a65c 39 "java/util/ArrayList" "DEFAULTCAPACITY_EMPTY_ELEMENTDATA" "[Ljava/lang/Object;" ∈ AL := al_at 86 (by decide +kernel) rfl
theorem wf_Jx4a65c_9 : Cond.fieldLink RJx4a65c 9 "java/util/ArrayList" "elementData" "[Ljava/lang/Object;" ∈ AL := al_at 88 (by decide +kernel) rfl
theorem wm_Jx4a65c_1 : Cond.methodLink RJx4a65c 1 yJxc12de_init_da8c8 ∈ AL := al_at 79 (by decide +kernel) rfl
theorem wi_Jxc12de_init_da8c8 : Cond.instanceMethod yJxc12de_init_da8c8 ∈ AL := al_at 80 (by decide +kernel) rfl
theorem wn_Jxc12de : Cond.initialized RJxc12de ∈ AL := al_at 39 (by decide +kernel) rfl
theorem wc_Jxc12de_init_da8c8 : Cond.code yJxc12de_init_da8c8 cJxc12de_init_da8c8 1 none ∈ AL := al_at 81 (by decide +kernel) rfl
theorem wf_Jxc12de_7 : Cond.fieldLink RJxc12de 7 "java/util/AbstractList" "modCount" "I" ∈ AL := al_at 90 (by decide +kernel) rfl
theorem wm_Jxc12de_1 : Cond.methodLink RJxc12de 1 yJxa1e45_init_da8c8 ∈ AL := al_at 82 (by decide +kernel) rfl
theorem wi_Jxa1e45_init_da8c8 : Cond.instanceMethod yJxa1e45_init_da8c8 ∈ AL := al_at 83 (by decide +kernel) rfl
theorem wn_Jxa1e45 : Cond.initialized RJxa1e45 ∈ AL := al_at 38 (by decide +kernel) rfl
theorem wc_Jxa1e45_init_da8c8 : Cond.code yJxa1e45_init_da8c8 cJxa1e45_init_da8c8 1 none ∈ AL := al_at 84 (by decide +kernel) rfl
theorem wm_Jxa1e45_1 : Cond.methodLink RJxa1e45 1 objectInit ∈ AL := al_at 85 (by decide +kernel) rfl
theorem wm_X6_23 : Cond.methodLink RX6 23 yX2_init ∈ AL := al_at 138 (by decide +kernel) rfl
theorem wi_X2_init : Cond.instanceMethod yX2_init ∈ AL := al_at 139 (by decide +kernel) rfl
theorem wc_X2_init : Cond.code yX2_init cX2_init 6 none ∈ AL := al_at 140 (by decide +kernel) rfl
theorem wm_X2_3 : Cond.methodLink RX2 3 objectInit ∈ AL := al_at 141 (by decide +kernel) rfl
theorem wf_X2_9 : Cond.fieldLink RX2 9 "WheatRun$Field" "damp" "I" ∈ AL := al_at 156 (by decide +kernel) rfl
theorem wf_X2_15 : Cond.fieldLink RX2 15 "WheatRun$Field" "farmer" "I" ∈ AL := al_at 142 (by decide +kernel) rfl
theorem wf_X2_18 : Cond.fieldLink RX2 18 "WheatRun$Field" "mile" "I" ∈ AL := al_at 144 (by decide +kernel) rfl
theorem wf_X2_21 : Cond.fieldLink RX2 21 "WheatRun$Field" "acres" "I" ∈ AL := al_at 147 (by decide +kernel) rfl
theorem wf_X2_24 : Cond.fieldLink RX2 24 "WheatRun$Field" "bushels" "I" ∈ AL := al_at 149 (by decide +kernel) rfl
theorem wf_X2_27 : Cond.fieldLink RX2 27 "WheatRun$Field" "share" "I" ∈ AL := al_at 150 (by decide +kernel) rfl
theorem wm_L_91 : Cond.methodLink RL 91 yX8_init ∈ AL := al_at 1004 (by decide +kernel) rfl
theorem wi_X8_init : Cond.instanceMethod yX8_init ∈ AL := al_at 1005 (by decide +kernel) rfl
theorem wc_X8_init : Cond.code yX8_init cX8_init 1 none ∈ AL := al_at 1006 (by decide +kernel) rfl
theorem wm_X8_1 : Cond.methodLink RX8 1 objectInit ∈ AL := al_at 1007 (by decide +kernel) rfl
theorem wk_X8_7 : Cond.classLink RX8 7 RX7 ∈ AL := al_at 1008 (by decide +kernel) rfl
theorem wb_X7 : Cond.instantiable RX7 10 ∈ AL := al_at 1009 (by decide +kernel) rfl
theorem wn_X7 : Cond.initialized RX7 ∈ AL := al_at 43 (by decide +kernel) rfl
theorem wf_X8_10 : Cond.fieldLink RX8 10 "WheatRunModel" "land" "LWheatRunModel$Land;" ∈ AL := al_at 1061 (by decide +kernel) rfl
theorem wa_int : Cond.arrayClass .int ∈ AL := al_at 1059 (by decide +kernel) rfl
theorem wf_X8_16 : Cond.fieldLink RX8 16 "WheatRunModel" "farmers" "[I" ∈ AL := al_at 1062 (by decide +kernel) rfl
theorem wf_X8_20 : Cond.fieldLink RX8 20 "WheatRunModel" "landlords" "[I" ∈ AL := al_at 1063 (by decide +kernel) rfl
theorem wf_X8_23 : Cond.fieldLink RX8 23 "WheatRunModel" "price" "I" ∈ AL := al_at 1064 (by decide +kernel) rfl
theorem wf_X8_27 : Cond.fieldLink RX8 27 "WheatRunModel" "money" "I" ∈ AL := al_at 1065 (by decide +kernel) rfl
theorem wi_X7_init : Cond.instanceMethod yX7_init ∈ AL := al_at 1011 (by decide +kernel) rfl
theorem wc_X7_init : Cond.code yX7_init cX7_init 1 none ∈ AL := al_at 1012 (by decide +kernel) rfl
theorem wm_X7_3 : Cond.methodLink RX7 3 objectInit ∈ AL := al_at 1013 (by decide +kernel) rfl
theorem wk_X7_9 : Cond.classLink RX7 9 "[[I" ∈ AL := al_at 1014 (by decide +kernel) rfl
theorem wf_X7_11 : Cond.fieldLink RX7 11 "WheatRunModel$Land" "fields" "[[I" ∈ AL := al_at 1018 (by decide +kernel) rfl
theorem wf_X7_16 : Cond.fieldLink RX7 16 "WheatRunModel$Land" "combines" "[[I" ∈ AL := al_at 1020 (by decide +kernel) rfl
theorem wf_X7_19 : Cond.fieldLink RX7 19 "WheatRunModel$Land" "trucks" "[[I" ∈ AL := al_at 1022 (by decide +kernel) rfl
theorem wf_X7_22 : Cond.fieldLink RX7 22 "WheatRunModel$Land" "elevators" "[[I" ∈ AL := al_at 1024 (by decide +kernel) rfl
theorem wk_X7_25 : Cond.classLink RX7 25 RJx4a65c ∈ AL := al_at 1016 (by decide +kernel) rfl
theorem wf_X7_28 : Cond.fieldLink RX7 28 "WheatRunModel$Land" "tickets" "Ljava/util/List;" ∈ AL := al_at 1026 (by decide +kernel) rfl
theorem wm_X7_27 : Cond.methodLink RX7 27 yJx4a65c_init_da8c8 ∈ AL := al_at 1017 (by decide +kernel) rfl
theorem wm_L_92 : Cond.methodLink RL 92 yL_field ∈ AL := al_at 832 (by decide +kernel) rfl
theorem wt_L_field : Cond.static yL_field ∈ AL := al_at 833 (by decide +kernel) rfl
theorem wn_L : Cond.initialized RL ∈ AL := al_at 35 (by decide +kernel) rfl
theorem wx_L_field : Cond.codeWith yL_field cL_field 8 (some .int) [(0, 16, 19, 13), (0, 16, 23, 15), (0, 16, 27, 17)] ∈ AL := al_at 834 (by decide +kernel) rfl
theorem wk_L_13 : Cond.classLink RL 13 "java/lang/IndexOutOfBoundsException" ∈ AL := al_at 835 (by decide +kernel) rfl
theorem wk_L_15 : Cond.classLink RL 15 "java/lang/IllegalArgumentException" ∈ AL := al_at 836 (by decide +kernel) rfl
theorem wk_L_17 : Cond.classLink RL 17 "java/lang/IllegalStateException" ∈ AL := al_at 837 (by decide +kernel) rfl
theorem wm_L_7 : Cond.methodLink RL 7 yX6_field ∈ AL := al_at 838 (by decide +kernel) rfl
theorem wi_X6_field : Cond.instanceMethod yX6_field ∈ AL := al_at 839 (by decide +kernel) rfl
theorem wl_X6_field : Cond.selects RX6 yX6_field yX6_field ∈ AL := al_at 840 (by decide +kernel) rfl
theorem wc_X6_field : Cond.code yX6_field cX6_field 6 (some .int) ∈ AL := al_at 841 (by decide +kernel) rfl
theorem wk_X6_34 : Cond.classLink RX6 34 "java/lang/IndexOutOfBoundsException" ∈ AL := al_at 353 (by decide +kernel) rfl
theorem wn_java_lang_IndexOutOfBoundsException : Cond.initialized "java/lang/IndexOutOfBoundsException" ∈ AL := al_at 47 (by decide +kernel) rfl
theorem wk_X6_41 : Cond.classLink RX6 41 "java/lang/IllegalArgumentException" ∈ AL := al_at 254 (by decide +kernel) rfl
theorem wn_java_lang_IllegalArgumentException : Cond.initialized "java/lang/IllegalArgumentException" ∈ AL := al_at 48 (by decide +kernel) rfl
theorem wk_X6_56 : Cond.classLink RX6 56 "java/lang/IllegalStateException" ∈ AL := al_at 843 (by decide +kernel) rfl
theorem wn_java_lang_IllegalStateException : Cond.initialized "java/lang/IllegalStateException" ∈ AL := al_at 49 (by decide +kernel) rfl
theorem wf_X6_46 : Cond.fieldLink RX6 46 "WheatRun$Land" "fields" "Ljava/util/ArrayList;" ∈ AL := al_at 101 (by decide +kernel) rfl
theorem wm_X6_30 : Cond.methodLink RX6 30 yX6_isOutside ∈ AL := al_at 251 (by decide +kernel) rfl
theorem wt_X6_isOutside : Cond.static yX6_isOutside ∈ AL := al_at 252 (by decide +kernel) rfl
theorem wc_X6_isOutside : Cond.code yX6_isOutside cX6_isOutside 3 (some .boolean) ∈ AL := al_at 253 (by decide +kernel) rfl
theorem wm_X6_50 : Cond.methodLink RX6 50 yJx4a65c_size_8abf5 ∈ AL := al_at 238 (by decide +kernel) rfl
theorem wi_Jx4a65c_size_8abf5 : Cond.instanceMethod yJx4a65c_size_8abf5 ∈ AL := al_at 216 (by decide +kernel) rfl
theorem wl_Jx4a65c_size_8abf5 : Cond.selects RJx4a65c yJx4a65c_size_8abf5 yJx4a65c_size_8abf5 ∈ AL := al_at 217 (by decide +kernel) rfl
theorem wc_Jx4a65c_size_8abf5 : Cond.code yJx4a65c_size_8abf5 cJx4a65c_size_8abf5 1 (some .int) ∈ AL := al_at 218 (by decide +kernel) rfl
theorem wf_Jx4a65c_48 : Cond.fieldLink RJx4a65c 48 "java/util/ArrayList" "size" "I" ∈ AL := al_at 89 (by decide +kernel) rfl
theorem wm_X6_61 : Cond.methodLink RX6 61 yJx4a65c_add_9ea2d ∈ AL := al_at 859 (by decide +kernel) rfl
theorem wi_Jx4a65c_add_9ea2d : Cond.instanceMethod yJx4a65c_add_9ea2d ∈ AL := al_at 463 (by decide +kernel) rfl
theorem wl_Jx4a65c_add_9ea2d : Cond.selects RJx4a65c yJx4a65c_add_9ea2d yJx4a65c_add_9ea2d ∈ AL := al_at 464 (by decide +kernel) rfl
theorem wc_Jx4a65c_add_9ea2d : Cond.code yJx4a65c_add_9ea2d cJx4a65c_add_9ea2d 2 (some .boolean) ∈ AL := al_at 465 (by decide +kernel) rfl
theorem wf_Jx4a65c_63 : Cond.fieldLink RJx4a65c 63 "java/util/ArrayList" "modCount" "I" ∈ AL := al_at 91 (by decide +kernel) rfl
theorem ws_java_util_ArrayList_java_util_AbstractList_modCount_I : Cond.sameField "java/util/ArrayList" "java/util/AbstractList" "modCount" "I" ∈ AL := al_at 92 (by decide +kernel) rfl
theorem wm_Jx4a65c_131 : Cond.methodLink RJx4a65c 131 yJx4a65c_add_72be8 ∈ AL := al_at 466 (by decide +kernel) rfl
theorem wi_Jx4a65c_add_72be8 : Cond.instanceMethod yJx4a65c_add_72be8 ∈ AL := al_at 468 (by decide +kernel) rfl
theorem wl_Jx4a65c_add_72be8 : Cond.selects RJx4a65c yJx4a65c_add_72be8 yJx4a65c_add_72be8 ∈ AL := al_at 6 (by decide +kernel) rfl
theorem wc_Jx4a65c_add_72be8 : Cond.code yJx4a65c_add_72be8 cJx4a65c_add_72be8 4 none ∈ AL := al_at 469 (by decide +kernel) rfl
theorem wm_Jx4a65c_129 : Cond.methodLink RJx4a65c 129 yJx4a65c_grow_d5877 ∈ AL := al_at 470 (by decide +kernel) rfl
theorem wi_Jx4a65c_grow_d5877 : Cond.instanceMethod yJx4a65c_grow_d5877 ∈ AL := al_at 472 (by decide +kernel) rfl
theorem wl_Jx4a65c_grow_d5877 : Cond.selects RJx4a65c yJx4a65c_grow_d5877 yJx4a65c_grow_d5877 ∈ AL := al_at 7 (by decide +kernel) rfl
theorem wc_Jx4a65c_grow_d5877 : Cond.code yJx4a65c_grow_d5877 cJx4a65c_grow_d5877 1 (some (.array (.object "java/lang/Object"))) ∈ AL := al_at 473 (by decide +kernel) rfl
theorem wm_Jx4a65c_69 : Cond.methodLink RJx4a65c 69 yJx4a65c_grow_92f84 ∈ AL := al_at 474 (by decide +kernel) rfl
theorem wi_Jx4a65c_grow_92f84 : Cond.instanceMethod yJx4a65c_grow_92f84 ∈ AL := al_at 476 (by decide +kernel) rfl
theorem wl_Jx4a65c_grow_92f84 : Cond.selects RJx4a65c yJx4a65c_grow_92f84 yJx4a65c_grow_92f84 ∈ AL := al_at 8 (by decide +kernel) rfl
theorem wc_Jx4a65c_grow_92f84 : Cond.code yJx4a65c_grow_92f84 cJx4a65c_grow_92f84 4 (some (.array (.object "java/lang/Object"))) ∈ AL := al_at 477 (by decide +kernel) rfl
theorem wm_Jx4a65c_79 : Cond.methodLink RJx4a65c 79 Lib.Math.max.name ∈ AL := al_at 516 (by decide +kernel) rfl
theorem wt_mmax : Cond.static Lib.Math.max.name ∈ AL := al_at 417 (by decide +kernel) rfl
theorem wn_java_lang_Math : Cond.initialized "java/lang/Math" ∈ AL := al_at 51 (by decide +kernel) rfl
theorem wc_mmax : Cond.code Lib.Math.max.name Lib.Math.max.code 2 (some .int) ∈ AL := al_at 418 (by decide +kernel) rfl
theorem wk_Jx4a65c_7 : Cond.classLink RJx4a65c 7 "java/lang/Object" ∈ AL := al_at 517 (by decide +kernel) rfl
theorem wm_Jx4a65c_73 : Cond.methodLink RJx4a65c 73 yJ8_newLength_cabcc ∈ AL := al_at 478 (by decide +kernel) rfl
theorem wt_J8_newLength_cabcc : Cond.static yJ8_newLength_cabcc ∈ AL := al_at 479 (by decide +kernel) rfl
theorem wn_J8 : Cond.initialized RJ8 ∈ AL := al_at 50 (by decide +kernel) rfl
theorem wc_J8_newLength_cabcc : Cond.code yJ8_newLength_cabcc cJ8_newLength_cabcc 4 (some .int) ∈ AL := al_at 480 (by decide +kernel) rfl
theorem wm_J8_194 : Cond.methodLink RJ8 194 Lib.Math.max.name ∈ AL := al_at 481 (by decide +kernel) rfl
theorem wq_J8_200 : Cond.constant RJ8 200 (2147483639) ∈ AL := al_at 482 (by decide +kernel) rfl
theorem wm_J8_201 : Cond.methodLink RJ8 201 yJ8_hugeLength_7cf53 ∈ AL := al_at 483 (by decide +kernel) rfl
theorem wt_J8_hugeLength_7cf53 : Cond.static yJ8_hugeLength_7cf53 ∈ AL := al_at 484 (by decide +kernel) rfl
theorem wc_J8_hugeLength_7cf53 : Cond.code yJ8_hugeLength_7cf53 cJ8_hugeLength_7cf53 3 (some .int) ∈ AL := al_at 485 (by decide +kernel) rfl
theorem wm_Jx4a65c_66 : Cond.methodLink RJx4a65c 66 yJ7_copyOf_1904c ∈ AL := al_at 486 (by decide +kernel) rfl
theorem wt_J7_copyOf_1904c : Cond.static yJ7_copyOf_1904c ∈ AL := al_at 487 (by decide +kernel) rfl
theorem wn_J7 : Cond.initialized RJ7 ∈ AL := al_at 52 (by decide +kernel) rfl
theorem wc_J7_copyOf_1904c : Cond.code yJ7_copyOf_1904c cJ7_copyOf_1904c 2 (some (.array (.object "java/lang/Object"))) ∈ AL := al_at 488 (by decide +kernel) rfl
theorem wm_J7_86 : Cond.methodLink RJ7 86 ⟨"java/lang/Object", "getClass", "()Ljava/lang/Class;"⟩ ∈ AL := al_at 489 (by decide +kernel) rfl
theorem wl_getClass_on_arr : Cond.selects "[Ljava/lang/Object;" ⟨"java/lang/Object", "getClass", "()Ljava/lang/Class;"⟩ ⟨"java/lang/Object", "getClass", "()Ljava/lang/Class;"⟩ ∈ AL := al_at 1348 (by decide +kernel) rfl
theorem wi_getClass : Cond.instanceMethod ⟨"java/lang/Object", "getClass", "()Ljava/lang/Class;"⟩ ∈ AL := al_at 490 (by decide +kernel) rfl
theorem wv_getClass : Cond.native ⟨"java/lang/Object", "getClass", "()Ljava/lang/Class;"⟩ ∈ AL := al_at 505 (by decide +kernel) rfl
theorem wm_J7_300 : Cond.methodLink RJ7 300 yJ7_copyOf_6403c ∈ AL := al_at 506 (by decide +kernel) rfl
theorem wt_J7_copyOf_6403c : Cond.static yJ7_copyOf_6403c ∈ AL := al_at 507 (by decide +kernel) rfl
theorem wc_J7_copyOf_6403c : Cond.code yJ7_copyOf_6403c cJ7_copyOf_6403c 4 (some (.array (.object "java/lang/Object"))) ∈ AL := al_at 508 (by decide +kernel) rfl
theorem wk_J7_110 : Cond.classLink RJ7 110 "[Ljava/lang/Object;" ∈ AL := al_at 509 (by decide +kernel) rfl
theorem wk_J7_2 : Cond.classLink RJ7 2 "java/lang/Object" ∈ AL := al_at 511 (by decide +kernel) rfl
theorem wm_J7_304 : Cond.methodLink RJ7 304 Lib.Math.min.name ∈ AL := al_at 512 (by decide +kernel) rfl
theorem wt_mmin : Cond.static Lib.Math.min.name ∈ AL := al_at 410 (by decide +kernel) rfl
theorem wc_mmin : Cond.code Lib.Math.min.name Lib.Math.min.code 2 (some .int) ∈ AL := al_at 411 (by decide +kernel) rfl
theorem wm_J7_150 : Cond.methodLink RJ7 150 arraycopyName ∈ AL := al_at 513 (by decide +kernel) rfl
theorem wv_acopy : Cond.native arraycopyName ∈ AL := al_at 515 (by decide +kernel) rfl
theorem wt_acopy : Cond.static arraycopyName ∈ AL := al_at 514 (by decide +kernel) rfl
theorem wn_java_lang_System : Cond.initialized "java/lang/System" ∈ AL := al_at 53 (by decide +kernel) rfl
theorem wm_L_97 : Cond.methodLink RL 97 yX8_field ∈ AL := al_at 1083 (by decide +kernel) rfl
theorem wi_X8_field : Cond.instanceMethod yX8_field ∈ AL := al_at 1084 (by decide +kernel) rfl
theorem wl_X8_field : Cond.selects RX8 yX8_field yX8_field ∈ AL := al_at 1085 (by decide +kernel) rfl
theorem wc_X8_field : Cond.code yX8_field cX8_field 7 (some .int) ∈ AL := al_at 1086 (by decide +kernel) rfl
theorem wf_X8_30 : Cond.fieldLink RX8 30 "WheatRunModel" "thrown" "I" ∈ AL := al_at 1060 (by decide +kernel) rfl
theorem wf_X8_33 : Cond.fieldLink RX8 33 "WheatRunModel$Land" "fieldCount" "I" ∈ AL := al_at 1031 (by decide +kernel) rfl
theorem wf_X8_57 : Cond.fieldLink RX8 57 "WheatRunModel$Land" "fields" "[[I" ∈ AL := al_at 1019 (by decide +kernel) rfl
theorem wm_X8_61 : Cond.methodLink RX8 61 arraycopyName ∈ AL := al_at 1097 (by decide +kernel) rfl
theorem wm_X8_36 : Cond.methodLink RX8 36 yX8_in ∈ AL := al_at 1087 (by decide +kernel) rfl
theorem wt_X8_in : Cond.static yX8_in ∈ AL := al_at 1088 (by decide +kernel) rfl
theorem wc_X8_in : Cond.code yX8_in cX8_in 3 (some .boolean) ∈ AL := al_at 1089 (by decide +kernel) rfl
theorem wm_X8_49 : Cond.methodLink RX8 49 yX8_no ∈ AL := al_at 1090 (by decide +kernel) rfl
theorem wi_X8_no : Cond.instanceMethod yX8_no ∈ AL := al_at 1092 (by decide +kernel) rfl
theorem wl_X8_no : Cond.selects RX8 yX8_no yX8_no ∈ AL := al_at 17 (by decide +kernel) rfl
theorem wc_X8_no : Cond.code yX8_no cX8_no 2 (some .int) ∈ AL := al_at 1093 (by decide +kernel) rfl
theorem wm_X8_53 : Cond.methodLink RX8 53 yX8_isMile ∈ AL := al_at 1094 (by decide +kernel) rfl
theorem wt_X8_isMile : Cond.static yX8_isMile ∈ AL := al_at 1095 (by decide +kernel) rfl
theorem wc_X8_isMile : Cond.code yX8_isMile cX8_isMile 1 (some .boolean) ∈ AL := al_at 1096 (by decide +kernel) rfl
theorem wm_L_98 : Cond.methodLink RL 98 yX8_thrown ∈ AL := al_at 1079 (by decide +kernel) rfl
theorem wi_X8_thrown : Cond.instanceMethod yX8_thrown ∈ AL := al_at 1080 (by decide +kernel) rfl
theorem wl_X8_thrown : Cond.selects RX8 yX8_thrown yX8_thrown ∈ AL := al_at 1081 (by decide +kernel) rfl
theorem wc_X8_thrown : Cond.code yX8_thrown cX8_thrown 1 (some .int) ∈ AL := al_at 1082 (by decide +kernel) rfl
theorem wm_L_102 : Cond.methodLink RL 102 yL_crop ∈ AL := al_at 860 (by decide +kernel) rfl
theorem wt_L_crop : Cond.static yL_crop ∈ AL := al_at 861 (by decide +kernel) rfl
theorem wx_L_crop : Cond.codeWith yL_crop cL_crop 6 (some .int) [(0, 12, 15, 13), (0, 12, 19, 15)] ∈ AL := al_at 862 (by decide +kernel) rfl
theorem wm_L_19 : Cond.methodLink RL 19 yX6_crop ∈ AL := al_at 863 (by decide +kernel) rfl
theorem wi_X6_crop : Cond.instanceMethod yX6_crop ∈ AL := al_at 864 (by decide +kernel) rfl
theorem wl_X6_crop : Cond.selects RX6 yX6_crop yX6_crop ∈ AL := al_at 865 (by decide +kernel) rfl
theorem wc_X6_crop : Cond.code yX6_crop cX6_crop 6 (some .int) ∈ AL := al_at 866 (by decide +kernel) rfl
theorem wf_X6_73 : Cond.fieldLink RX6 73 "WheatRun$Field" "ripe" "I" ∈ AL := al_at 155 (by decide +kernel) rfl
theorem wf_X6_77 : Cond.fieldLink RX6 77 "WheatRun$Field" "damp" "I" ∈ AL := al_at 157 (by decide +kernel) rfl
theorem wm_X6_65 : Cond.methodLink RX6 65 yX3_fieldAt ∈ AL := al_at 349 (by decide +kernel) rfl
theorem wi_X3_fieldAt : Cond.instanceMethod yX3_fieldAt ∈ AL := al_at 350 (by decide +kernel) rfl
theorem wl_X3_fieldAt : Cond.selects RX3 yX3_fieldAt yX3_fieldAt ∈ AL := al_at 351 (by decide +kernel) rfl
theorem wc_X3_fieldAt : Cond.code yX3_fieldAt cX3_fieldAt 2 (some (.object "WheatRun$Field")) ∈ AL := al_at 352 (by decide +kernel) rfl
theorem wk_X3_56 : Cond.classLink RX3 56 "WheatRun$Field" ∈ AL := al_at 233 (by decide +kernel) rfl
theorem wm_X3_48 : Cond.methodLink RX3 48 yJx4a65c_size_8abf5 ∈ AL := al_at 215 (by decide +kernel) rfl
theorem wm_X3_52 : Cond.methodLink RX3 52 yJx4a65c_get_915e3 ∈ AL := al_at 219 (by decide +kernel) rfl
theorem wi_Jx4a65c_get_915e3 : Cond.instanceMethod yJx4a65c_get_915e3 ∈ AL := al_at 220 (by decide +kernel) rfl
theorem wl_Jx4a65c_get_915e3 : Cond.selects RJx4a65c yJx4a65c_get_915e3 yJx4a65c_get_915e3 ∈ AL := al_at 221 (by decide +kernel) rfl
theorem wc_Jx4a65c_get_915e3 : Cond.code yJx4a65c_get_915e3 cJx4a65c_get_915e3 2 (some (.object "java/lang/Object")) ∈ AL := al_at 222 (by decide +kernel) rfl
theorem wm_Jx4a65c_118 : Cond.methodLink RJx4a65c 118 yJ15_checkIndex_7cf53 ∈ AL := al_at 223 (by decide +kernel) rfl
theorem wt_J15_checkIndex_7cf53 : Cond.static yJ15_checkIndex_7cf53 ∈ AL := al_at 224 (by decide +kernel) rfl
theorem wn_J15 : Cond.initialized RJ15 ∈ AL := al_at 54 (by decide +kernel) rfl
theorem wc_J15_checkIndex_7cf53 : Cond.code yJ15_checkIndex_7cf53 cJ15_checkIndex_7cf53 2 (some .int) ∈ AL := al_at 225 (by decide +kernel) rfl
theorem wm_J15_105 : Cond.methodLink RJ15 105 yJ3_checkIndex_8e157 ∈ AL := al_at 226 (by decide +kernel) rfl
theorem wt_J3_checkIndex_8e157 : Cond.static yJ3_checkIndex_8e157 ∈ AL := al_at 227 (by decide +kernel) rfl
theorem wn_J3 : Cond.initialized RJ3 ∈ AL := al_at 55 (by decide +kernel) rfl
theorem wc_J3_checkIndex_8e157 : Cond.code yJ3_checkIndex_8e157 cJ3_checkIndex_8e157 3 (some .int) ∈ AL := al_at 228 (by decide +kernel) rfl
theorem wm_Jx4a65c_123 : Cond.methodLink RJx4a65c 123 yJx4a65c_elementData_915e3 ∈ AL := al_at 229 (by decide +kernel) rfl
theorem wi_Jx4a65c_elementData_915e3 : Cond.instanceMethod yJx4a65c_elementData_915e3 ∈ AL := al_at 230 (by decide +kernel) rfl
theorem wl_Jx4a65c_elementData_915e3 : Cond.selects RJx4a65c yJx4a65c_elementData_915e3 yJx4a65c_elementData_915e3 ∈ AL := al_at 231 (by decide +kernel) rfl
theorem wc_Jx4a65c_elementData_915e3 : Cond.code yJx4a65c_elementData_915e3 cJx4a65c_elementData_915e3 2 (some (.object "java/lang/Object")) ∈ AL := al_at 232 (by decide +kernel) rfl
theorem wm_L_105 : Cond.methodLink RL 105 yX8_crop ∈ AL := al_at 1098 (by decide +kernel) rfl
theorem wi_X8_crop : Cond.instanceMethod yX8_crop ∈ AL := al_at 1099 (by decide +kernel) rfl
theorem wl_X8_crop : Cond.selects RX8 yX8_crop yX8_crop ∈ AL := al_at 1100 (by decide +kernel) rfl
theorem wc_X8_crop : Cond.code yX8_crop cX8_crop 5 (some .int) ∈ AL := al_at 1101 (by decide +kernel) rfl
theorem wm_X8_67 : Cond.methodLink RX8 67 yX8_isField ∈ AL := al_at 1102 (by decide +kernel) rfl
theorem wi_X8_isField : Cond.instanceMethod yX8_isField ∈ AL := al_at 1104 (by decide +kernel) rfl
theorem wl_X8_isField : Cond.selects RX8 yX8_isField yX8_isField ∈ AL := al_at 18 (by decide +kernel) rfl
theorem wc_X8_isField : Cond.code yX8_isField cX8_isField 2 (some .boolean) ∈ AL := al_at 1105 (by decide +kernel) rfl
theorem wm_L_106 : Cond.methodLink RL 106 yL_combine ∈ AL := al_at 868 (by decide +kernel) rfl
theorem wt_L_combine : Cond.static yL_combine ∈ AL := al_at 869 (by decide +kernel) rfl
theorem wx_L_combine : Cond.codeWith yL_combine cL_combine 5 (some .int) [(0, 10, 13, 15), (0, 10, 17, 17)] ∈ AL := al_at 870 (by decide +kernel) rfl
theorem wm_L_23 : Cond.methodLink RL 23 yX6_combine ∈ AL := al_at 871 (by decide +kernel) rfl
theorem wi_X6_combine : Cond.instanceMethod yX6_combine ∈ AL := al_at 872 (by decide +kernel) rfl
theorem wl_X6_combine : Cond.selects RX6 yX6_combine yX6_combine ∈ AL := al_at 873 (by decide +kernel) rfl
theorem wc_X6_combine : Cond.code yX6_combine cX6_combine 3 (some .int) ∈ AL := al_at 874 (by decide +kernel) rfl
theorem wf_X6_82 : Cond.fieldLink RX6 82 "WheatRun$Land" "combines" "Ljava/util/ArrayList;" ∈ AL := al_at 103 (by decide +kernel) rfl
theorem wk_X6_87 : Cond.classLink RX6 87 RX0 ∈ AL := al_at 877 (by decide +kernel) rfl
theorem wb_X0 : Cond.instantiable RX0 12 ∈ AL := al_at 518 (by decide +kernel) rfl
theorem wn_X0 : Cond.initialized RX0 ∈ AL := al_at 56 (by decide +kernel) rfl
theorem wm_X6_89 : Cond.methodLink RX6 89 yX0_init ∈ AL := al_at 878 (by decide +kernel) rfl
theorem wi_X0_init : Cond.instanceMethod yX0_init ∈ AL := al_at 520 (by decide +kernel) rfl
theorem wc_X0_init : Cond.code yX0_init cX0_init 4 none ∈ AL := al_at 521 (by decide +kernel) rfl
theorem wm_X0_3 : Cond.methodLink RX0 3 objectInit ∈ AL := al_at 522 (by decide +kernel) rfl
theorem wf_X0_9 : Cond.fieldLink RX0 9 "WheatRun$Combine" "tankField" "I" ∈ AL := al_at 532 (by decide +kernel) rfl
theorem wf_X0_15 : Cond.fieldLink RX0 15 "WheatRun$Combine" "goal" "I" ∈ AL := al_at 546 (by decide +kernel) rfl
theorem wf_X0_18 : Cond.fieldLink RX0 18 "WheatRun$Combine" "number" "I" ∈ AL := al_at 523 (by decide +kernel) rfl
theorem wf_X0_21 : Cond.fieldLink RX0 21 "WheatRun$Combine" "mile" "I" ∈ AL := al_at 524 (by decide +kernel) rfl
theorem wf_X0_24 : Cond.fieldLink RX0 24 "WheatRun$Combine" "pace" "I" ∈ AL := al_at 527 (by decide +kernel) rfl
theorem wm_L_109 : Cond.methodLink RL 109 yX8_combine ∈ AL := al_at 1106 (by decide +kernel) rfl
theorem wi_X8_combine : Cond.instanceMethod yX8_combine ∈ AL := al_at 1107 (by decide +kernel) rfl
theorem wl_X8_combine : Cond.selects RX8 yX8_combine yX8_combine ∈ AL := al_at 1108 (by decide +kernel) rfl
theorem wc_X8_combine : Cond.code yX8_combine cX8_combine 4 (some .int) ∈ AL := al_at 1109 (by decide +kernel) rfl
theorem wf_X8_40 : Cond.fieldLink RX8 40 "WheatRunModel$Land" "combineCount" "I" ∈ AL := al_at 1033 (by decide +kernel) rfl
theorem wf_X8_70 : Cond.fieldLink RX8 70 "WheatRunModel$Land" "combines" "[[I" ∈ AL := al_at 1021 (by decide +kernel) rfl
theorem wm_L_110 : Cond.methodLink RL 110 yL_truck ∈ AL := al_at 879 (by decide +kernel) rfl
theorem wt_L_truck : Cond.static yL_truck ∈ AL := al_at 880 (by decide +kernel) rfl
theorem wx_L_truck : Cond.codeWith yL_truck cL_truck 4 (some .int) [(0, 9, 12, 15), (0, 9, 15, 17)] ∈ AL := al_at 881 (by decide +kernel) rfl
theorem wm_L_27 : Cond.methodLink RL 27 yX6_truck ∈ AL := al_at 882 (by decide +kernel) rfl
theorem wi_X6_truck : Cond.instanceMethod yX6_truck ∈ AL := al_at 883 (by decide +kernel) rfl
theorem wl_X6_truck : Cond.selects RX6 yX6_truck yX6_truck ∈ AL := al_at 884 (by decide +kernel) rfl
theorem wc_X6_truck : Cond.code yX6_truck cX6_truck 2 (some .int) ∈ AL := al_at 885 (by decide +kernel) rfl
theorem wf_X6_94 : Cond.fieldLink RX6 94 "WheatRun$Land" "trucks" "Ljava/util/ArrayList;" ∈ AL := al_at 105 (by decide +kernel) rfl
theorem wk_X6_99 : Cond.classLink RX6 99 RX5 ∈ AL := al_at 888 (by decide +kernel) rfl
theorem wb_X5 : Cond.instantiable RX5 10 ∈ AL := al_at 578 (by decide +kernel) rfl
theorem wn_X5 : Cond.initialized RX5 ∈ AL := al_at 57 (by decide +kernel) rfl
theorem wm_X6_101 : Cond.methodLink RX6 101 yX5_init ∈ AL := al_at 889 (by decide +kernel) rfl
theorem wi_X5_init : Cond.instanceMethod yX5_init ∈ AL := al_at 580 (by decide +kernel) rfl
theorem wc_X5_init : Cond.code yX5_init cX5_init 2 none ∈ AL := al_at 581 (by decide +kernel) rfl
theorem wm_X5_3 : Cond.methodLink RX5 3 objectInit ∈ AL := al_at 582 (by decide +kernel) rfl
theorem wf_X5_9 : Cond.fieldLink RX5 9 "WheatRun$Truck" "loadField" "I" ∈ AL := al_at 593 (by decide +kernel) rfl
theorem wf_X5_15 : Cond.fieldLink RX5 15 "WheatRun$Truck" "toCombine" "I" ∈ AL := al_at 607 (by decide +kernel) rfl
theorem wf_X5_18 : Cond.fieldLink RX5 18 "WheatRun$Truck" "toElevator" "I" ∈ AL := al_at 610 (by decide +kernel) rfl
theorem wf_X5_21 : Cond.fieldLink RX5 21 "WheatRun$Truck" "mile" "I" ∈ AL := al_at 583 (by decide +kernel) rfl
theorem wm_L_113 : Cond.methodLink RL 113 yX8_truck ∈ AL := al_at 1110 (by decide +kernel) rfl
theorem wi_X8_truck : Cond.instanceMethod yX8_truck ∈ AL := al_at 1111 (by decide +kernel) rfl
theorem wl_X8_truck : Cond.selects RX8 yX8_truck yX8_truck ∈ AL := al_at 1112 (by decide +kernel) rfl
theorem wc_X8_truck : Cond.code yX8_truck cX8_truck 3 (some .int) ∈ AL := al_at 1113 (by decide +kernel) rfl
theorem wf_X8_43 : Cond.fieldLink RX8 43 "WheatRunModel$Land" "truckCount" "I" ∈ AL := al_at 1035 (by decide +kernel) rfl
theorem wf_X8_73 : Cond.fieldLink RX8 73 "WheatRunModel$Land" "trucks" "[[I" ∈ AL := al_at 1023 (by decide +kernel) rfl
theorem wm_L_114 : Cond.methodLink RL 114 yL_elevator ∈ AL := al_at 890 (by decide +kernel) rfl
theorem wt_L_elevator : Cond.static yL_elevator ∈ AL := al_at 891 (by decide +kernel) rfl
theorem wx_L_elevator : Cond.codeWith yL_elevator cL_elevator 9 (some .int) [(0, 18, 21, 15), (0, 18, 25, 17)] ∈ AL := al_at 892 (by decide +kernel) rfl
theorem wm_L_31 : Cond.methodLink RL 31 yX6_elevator ∈ AL := al_at 893 (by decide +kernel) rfl
theorem wi_X6_elevator : Cond.instanceMethod yX6_elevator ∈ AL := al_at 894 (by decide +kernel) rfl
theorem wl_X6_elevator : Cond.selects RX6 yX6_elevator yX6_elevator ∈ AL := al_at 895 (by decide +kernel) rfl
theorem wc_X6_elevator : Cond.code yX6_elevator cX6_elevator 7 (some .int) ∈ AL := al_at 896 (by decide +kernel) rfl
theorem wf_X6_110 : Cond.fieldLink RX6 110 "WheatRun$Land" "elevators" "Ljava/util/ArrayList;" ∈ AL := al_at 107 (by decide +kernel) rfl
theorem wk_X6_115 : Cond.classLink RX6 115 RX1 ∈ AL := al_at 901 (by decide +kernel) rfl
theorem wb_X1 : Cond.instantiable RX1 6 ∈ AL := al_at 637 (by decide +kernel) rfl
theorem wn_X1 : Cond.initialized RX1 ∈ AL := al_at 58 (by decide +kernel) rfl
theorem wm_X6_117 : Cond.methodLink RX6 117 yX1_init ∈ AL := al_at 902 (by decide +kernel) rfl
theorem wi_X1_init : Cond.instanceMethod yX1_init ∈ AL := al_at 639 (by decide +kernel) rfl
theorem wc_X1_init : Cond.code yX1_init cX1_init 7 none ∈ AL := al_at 640 (by decide +kernel) rfl
theorem wm_X1_1 : Cond.methodLink RX1 1 objectInit ∈ AL := al_at 641 (by decide +kernel) rfl
theorem wf_X1_7 : Cond.fieldLink RX1 7 "WheatRun$Elevator" "mile" "I" ∈ AL := al_at 642 (by decide +kernel) rfl
theorem wf_X1_13 : Cond.fieldLink RX1 13 "WheatRun$Elevator" "room" "I" ∈ AL := al_at 645 (by decide +kernel) rfl
theorem wf_X1_16 : Cond.fieldLink RX1 16 "WheatRun$Elevator" "from" "I" ∈ AL := al_at 648 (by decide +kernel) rfl
theorem wf_X1_19 : Cond.fieldLink RX1 19 "WheatRun$Elevator" "to" "I" ∈ AL := al_at 649 (by decide +kernel) rfl
theorem wf_X1_22 : Cond.fieldLink RX1 22 "WheatRun$Elevator" "least" "I" ∈ AL := al_at 650 (by decide +kernel) rfl
theorem wf_X1_25 : Cond.fieldLink RX1 25 "WheatRun$Elevator" "greatest" "I" ∈ AL := al_at 651 (by decide +kernel) rfl
theorem wm_L_117 : Cond.methodLink RL 117 yX8_elevator ∈ AL := al_at 1114 (by decide +kernel) rfl
theorem wi_X8_elevator : Cond.instanceMethod yX8_elevator ∈ AL := al_at 1115 (by decide +kernel) rfl
theorem wl_X8_elevator : Cond.selects RX8 yX8_elevator yX8_elevator ∈ AL := al_at 1116 (by decide +kernel) rfl
theorem wc_X8_elevator : Cond.code yX8_elevator cX8_elevator 8 (some .int) ∈ AL := al_at 1117 (by decide +kernel) rfl
theorem wf_X8_46 : Cond.fieldLink RX8 46 "WheatRunModel$Land" "elevatorCount" "I" ∈ AL := al_at 1037 (by decide +kernel) rfl
theorem wf_X8_76 : Cond.fieldLink RX8 76 "WheatRunModel$Land" "elevators" "[[I" ∈ AL := al_at 1025 (by decide +kernel) rfl
theorem wm_L_118 : Cond.methodLink RL 118 yL_price ∈ AL := al_at 903 (by decide +kernel) rfl
theorem wt_L_price : Cond.static yL_price ∈ AL := al_at 904 (by decide +kernel) rfl
theorem wx_L_price : Cond.codeWith yL_price cL_price 4 (some .int) [(0, 9, 12, 15)] ∈ AL := al_at 905 (by decide +kernel) rfl
theorem wm_L_35 : Cond.methodLink RL 35 yX6_price ∈ AL := al_at 906 (by decide +kernel) rfl
theorem wi_X6_price : Cond.instanceMethod yX6_price ∈ AL := al_at 907 (by decide +kernel) rfl
theorem wl_X6_price : Cond.selects RX6 yX6_price yX6_price ∈ AL := al_at 908 (by decide +kernel) rfl
theorem wc_X6_price : Cond.code yX6_price cX6_price 3 (some .int) ∈ AL := al_at 909 (by decide +kernel) rfl
theorem wf_X6_122 : Cond.fieldLink RX6 122 "WheatRun$Land" "price" "I" ∈ AL := al_at 114 (by decide +kernel) rfl
theorem wm_L_120 : Cond.methodLink RL 120 yX8_price ∈ AL := al_at 1118 (by decide +kernel) rfl
theorem wi_X8_price : Cond.instanceMethod yX8_price ∈ AL := al_at 1119 (by decide +kernel) rfl
theorem wl_X8_price : Cond.selects RX8 yX8_price yX8_price ∈ AL := al_at 1120 (by decide +kernel) rfl
theorem wc_X8_price : Cond.code yX8_price cX8_price 3 (some .int) ∈ AL := al_at 1121 (by decide +kernel) rfl
theorem wm_L_121 : Cond.methodLink RL 121 yL_cut ∈ AL := al_at 911 (by decide +kernel) rfl
theorem wt_L_cut : Cond.static yL_cut ∈ AL := al_at 912 (by decide +kernel) rfl
theorem wx_L_cut : Cond.codeWith yL_cut cL_cut 5 (some .int) [(0, 10, 13, 13)] ∈ AL := al_at 913 (by decide +kernel) rfl
theorem wm_L_38 : Cond.methodLink RL 38 yX6_cut ∈ AL := al_at 914 (by decide +kernel) rfl
theorem wi_X6_cut : Cond.instanceMethod yX6_cut ∈ AL := al_at 915 (by decide +kernel) rfl
theorem wl_X6_cut : Cond.selects RX6 yX6_cut yX6_cut ∈ AL := al_at 916 (by decide +kernel) rfl
theorem wc_X6_cut : Cond.code yX6_cut cX6_cut 4 (some .int) ∈ AL := al_at 917 (by decide +kernel) rfl
theorem wf_X6_131 : Cond.fieldLink RX6 131 "WheatRun$Combine" "goal" "I" ∈ AL := al_at 547 (by decide +kernel) rfl
theorem wm_X6_125 : Cond.methodLink RX6 125 yX3_combineAt ∈ AL := al_at 439 (by decide +kernel) rfl
theorem wi_X3_combineAt : Cond.instanceMethod yX3_combineAt ∈ AL := al_at 440 (by decide +kernel) rfl
theorem wl_X3_combineAt : Cond.selects RX3 yX3_combineAt yX3_combineAt ∈ AL := al_at 441 (by decide +kernel) rfl
theorem wc_X3_combineAt : Cond.code yX3_combineAt cX3_combineAt 2 (some (.object "WheatRun$Combine")) ∈ AL := al_at 442 (by decide +kernel) rfl
theorem wk_X3_62 : Cond.classLink RX3 62 "WheatRun$Combine" ∈ AL := al_at 326 (by decide +kernel) rfl
theorem wm_X6_134 : Cond.methodLink RX6 134 yX3_combinesSentTo ∈ AL := al_at 377 (by decide +kernel) rfl
theorem wi_X3_combinesSentTo : Cond.instanceMethod yX3_combinesSentTo ∈ AL := al_at 378 (by decide +kernel) rfl
theorem wl_X3_combinesSentTo : Cond.selects RX3 yX3_combinesSentTo yX3_combinesSentTo ∈ AL := al_at 379 (by decide +kernel) rfl
theorem wc_X3_combinesSentTo : Cond.code yX3_combinesSentTo cX3_combinesSentTo 4 (some .int) ∈ AL := al_at 380 (by decide +kernel) rfl
theorem wf_X3_102 : Cond.fieldLink RX3 102 "WheatRun$Combine" "goal" "I" ∈ AL := al_at 548 (by decide +kernel) rfl
theorem wm_L_123 : Cond.methodLink RL 123 yX8_cut ∈ AL := al_at 1122 (by decide +kernel) rfl
theorem wi_X8_cut : Cond.instanceMethod yX8_cut ∈ AL := al_at 1123 (by decide +kernel) rfl
theorem wl_X8_cut : Cond.selects RX8 yX8_cut yX8_cut ∈ AL := al_at 1124 (by decide +kernel) rfl
theorem wc_X8_cut : Cond.code yX8_cut cX8_cut 3 (some .int) ∈ AL := al_at 1125 (by decide +kernel) rfl
theorem wm_X8_79 : Cond.methodLink RX8 79 yX8_isCombine ∈ AL := al_at 1126 (by decide +kernel) rfl
theorem wi_X8_isCombine : Cond.instanceMethod yX8_isCombine ∈ AL := al_at 1128 (by decide +kernel) rfl
theorem wl_X8_isCombine : Cond.selects RX8 yX8_isCombine yX8_isCombine ∈ AL := al_at 19 (by decide +kernel) rfl
theorem wc_X8_isCombine : Cond.code yX8_isCombine cX8_isCombine 2 (some .boolean) ∈ AL := al_at 1129 (by decide +kernel) rfl
theorem wm_X8_82 : Cond.methodLink RX8 82 yX7_sentTo ∈ AL := al_at 1130 (by decide +kernel) rfl
theorem wi_X7_sentTo : Cond.instanceMethod yX7_sentTo ∈ AL := al_at 1131 (by decide +kernel) rfl
theorem wl_X7_sentTo : Cond.selects RX7 yX7_sentTo yX7_sentTo ∈ AL := al_at 1132 (by decide +kernel) rfl
theorem wc_X7_sentTo : Cond.code yX7_sentTo cX7_sentTo 4 (some .int) ∈ AL := al_at 1133 (by decide +kernel) rfl
theorem wf_X7_43 : Cond.fieldLink RX7 43 "WheatRunModel$Land" "combineCount" "I" ∈ AL := al_at 1032 (by decide +kernel) rfl
theorem wm_L_124 : Cond.methodLink RL 124 yL_fetch ∈ AL := al_at 918 (by decide +kernel) rfl
theorem wt_L_fetch : Cond.static yL_fetch ∈ AL := al_at 919 (by decide +kernel) rfl
theorem wx_L_fetch : Cond.codeWith yL_fetch cL_fetch 5 (some .int) [(0, 10, 13, 13)] ∈ AL := al_at 920 (by decide +kernel) rfl
theorem wm_L_41 : Cond.methodLink RL 41 yX6_fetch ∈ AL := al_at 921 (by decide +kernel) rfl
theorem wi_X6_fetch : Cond.instanceMethod yX6_fetch ∈ AL := al_at 922 (by decide +kernel) rfl
theorem wl_X6_fetch : Cond.selects RX6 yX6_fetch yX6_fetch ∈ AL := al_at 923 (by decide +kernel) rfl
theorem wc_X6_fetch : Cond.code yX6_fetch cX6_fetch 5 (some .int) ∈ AL := al_at 924 (by decide +kernel) rfl
theorem wf_X6_144 : Cond.fieldLink RX6 144 "WheatRun$Truck" "toCombine" "I" ∈ AL := al_at 608 (by decide +kernel) rfl
theorem wf_X6_147 : Cond.fieldLink RX6 147 "WheatRun$Truck" "toElevator" "I" ∈ AL := al_at 612 (by decide +kernel) rfl
theorem wf_X6_150 : Cond.fieldLink RX6 150 "WheatRun$Combine" "mile" "I" ∈ AL := al_at 525 (by decide +kernel) rfl
theorem wf_X6_153 : Cond.fieldLink RX6 153 "WheatRun$Truck" "mile" "I" ∈ AL := al_at 584 (by decide +kernel) rfl
theorem wm_X6_154 : Cond.methodLink RX6 154 Lib.Math.abs.name ∈ AL := al_at 925 (by decide +kernel) rfl
theorem wt_mabs : Cond.static Lib.Math.abs.name ∈ AL := al_at 738 (by decide +kernel) rfl
theorem wc_mabs : Cond.code Lib.Math.abs.name Lib.Math.abs.code 1 (some .int) ∈ AL := al_at 739 (by decide +kernel) rfl
theorem wm_X6_138 : Cond.methodLink RX6 138 yX3_truckAt ∈ AL := al_at 813 (by decide +kernel) rfl
theorem wi_X3_truckAt : Cond.instanceMethod yX3_truckAt ∈ AL := al_at 814 (by decide +kernel) rfl
theorem wl_X3_truckAt : Cond.selects RX3 yX3_truckAt yX3_truckAt ∈ AL := al_at 815 (by decide +kernel) rfl
theorem wc_X3_truckAt : Cond.code yX3_truckAt cX3_truckAt 2 (some (.object "WheatRun$Truck")) ∈ AL := al_at 816 (by decide +kernel) rfl
theorem wk_X3_67 : Cond.classLink RX3 67 "WheatRun$Truck" ∈ AL := al_at 336 (by decide +kernel) rfl
theorem wm_L_126 : Cond.methodLink RL 126 yX8_fetch ∈ AL := al_at 1134 (by decide +kernel) rfl
theorem wi_X8_fetch : Cond.instanceMethod yX8_fetch ∈ AL := al_at 1135 (by decide +kernel) rfl
theorem wl_X8_fetch : Cond.selects RX8 yX8_fetch yX8_fetch ∈ AL := al_at 1136 (by decide +kernel) rfl
theorem wc_X8_fetch : Cond.code yX8_fetch cX8_fetch 3 (some .int) ∈ AL := al_at 1137 (by decide +kernel) rfl
theorem wm_X8_90 : Cond.methodLink RX8 90 yX8_isTruck ∈ AL := al_at 1138 (by decide +kernel) rfl
theorem wi_X8_isTruck : Cond.instanceMethod yX8_isTruck ∈ AL := al_at 1140 (by decide +kernel) rfl
theorem wl_X8_isTruck : Cond.selects RX8 yX8_isTruck yX8_isTruck ∈ AL := al_at 20 (by decide +kernel) rfl
theorem wc_X8_isTruck : Cond.code yX8_isTruck cX8_isTruck 2 (some .boolean) ∈ AL := al_at 1141 (by decide +kernel) rfl
theorem wm_X8_93 : Cond.methodLink RX8 93 yX8_send ∈ AL := al_at 1142 (by decide +kernel) rfl
theorem wi_X8_send : Cond.instanceMethod yX8_send ∈ AL := al_at 1144 (by decide +kernel) rfl
theorem wl_X8_send : Cond.selects RX8 yX8_send yX8_send ∈ AL := al_at 21 (by decide +kernel) rfl
theorem wc_X8_send : Cond.code yX8_send cX8_send 6 (some .int) ∈ AL := al_at 1145 (by decide +kernel) rfl
theorem wm_X8_85 : Cond.methodLink RX8 85 Lib.Math.abs.name ∈ AL := al_at 1146 (by decide +kernel) rfl
theorem wm_L_127 : Cond.methodLink RL 127 yL_haul ∈ AL := al_at 926 (by decide +kernel) rfl
theorem wt_L_haul : Cond.static yL_haul ∈ AL := al_at 927 (by decide +kernel) rfl
theorem wx_L_haul : Cond.codeWith yL_haul cL_haul 5 (some .int) [(0, 10, 13, 13)] ∈ AL := al_at 928 (by decide +kernel) rfl
theorem wm_L_44 : Cond.methodLink RL 44 yX6_haul ∈ AL := al_at 929 (by decide +kernel) rfl
theorem wi_X6_haul : Cond.instanceMethod yX6_haul ∈ AL := al_at 930 (by decide +kernel) rfl
theorem wl_X6_haul : Cond.selects RX6 yX6_haul yX6_haul ∈ AL := al_at 931 (by decide +kernel) rfl
theorem wc_X6_haul : Cond.code yX6_haul cX6_haul 5 (some .int) ∈ AL := al_at 932 (by decide +kernel) rfl
theorem wf_X6_165 : Cond.fieldLink RX6 165 "WheatRun$Elevator" "mile" "I" ∈ AL := al_at 643 (by decide +kernel) rfl
theorem wm_X6_159 : Cond.methodLink RX6 159 yX3_elevatorAt ∈ AL := al_at 933 (by decide +kernel) rfl
theorem wi_X3_elevatorAt : Cond.instanceMethod yX3_elevatorAt ∈ AL := al_at 721 (by decide +kernel) rfl
theorem wl_X3_elevatorAt : Cond.selects RX3 yX3_elevatorAt yX3_elevatorAt ∈ AL := al_at 722 (by decide +kernel) rfl
theorem wc_X3_elevatorAt : Cond.code yX3_elevatorAt cX3_elevatorAt 2 (some (.object "WheatRun$Elevator")) ∈ AL := al_at 723 (by decide +kernel) rfl
theorem wk_X3_72 : Cond.classLink RX3 72 "WheatRun$Elevator" ∈ AL := al_at 331 (by decide +kernel) rfl
theorem wm_L_129 : Cond.methodLink RL 129 yX8_haul ∈ AL := al_at 1147 (by decide +kernel) rfl
theorem wi_X8_haul : Cond.instanceMethod yX8_haul ∈ AL := al_at 1148 (by decide +kernel) rfl
theorem wl_X8_haul : Cond.selects RX8 yX8_haul yX8_haul ∈ AL := al_at 1149 (by decide +kernel) rfl
theorem wc_X8_haul : Cond.code yX8_haul cX8_haul 3 (some .int) ∈ AL := al_at 1150 (by decide +kernel) rfl
theorem wm_X8_97 : Cond.methodLink RX8 97 yX8_isElevator ∈ AL := al_at 1151 (by decide +kernel) rfl
theorem wi_X8_isElevator : Cond.instanceMethod yX8_isElevator ∈ AL := al_at 1153 (by decide +kernel) rfl
theorem wl_X8_isElevator : Cond.selects RX8 yX8_isElevator yX8_isElevator ∈ AL := al_at 22 (by decide +kernel) rfl
theorem wc_X8_isElevator : Cond.code yX8_isElevator cX8_isElevator 2 (some .boolean) ∈ AL := al_at 1154 (by decide +kernel) rfl
theorem wm_L_130 : Cond.methodLink RL 130 yL_stop ∈ AL := al_at 935 (by decide +kernel) rfl
theorem wt_L_stop : Cond.static yL_stop ∈ AL := al_at 936 (by decide +kernel) rfl
theorem wx_L_stop : Cond.codeWith yL_stop cL_stop 4 (some .int) [(0, 9, 12, 13)] ∈ AL := al_at 937 (by decide +kernel) rfl
theorem wm_L_47 : Cond.methodLink RL 47 yX6_stop ∈ AL := al_at 938 (by decide +kernel) rfl
theorem wi_X6_stop : Cond.instanceMethod yX6_stop ∈ AL := al_at 939 (by decide +kernel) rfl
theorem wl_X6_stop : Cond.selects RX6 yX6_stop yX6_stop ∈ AL := al_at 940 (by decide +kernel) rfl
theorem wc_X6_stop : Cond.code yX6_stop cX6_stop 3 (some .int) ∈ AL := al_at 941 (by decide +kernel) rfl
theorem wf_X6_166 : Cond.fieldLink RX6 166 "WheatRun$Truck" "hours" "I" ∈ AL := al_at 587 (by decide +kernel) rfl
theorem wm_L_132 : Cond.methodLink RL 132 yX8_stop ∈ AL := al_at 1155 (by decide +kernel) rfl
theorem wi_X8_stop : Cond.instanceMethod yX8_stop ∈ AL := al_at 1156 (by decide +kernel) rfl
theorem wl_X8_stop : Cond.selects RX8 yX8_stop yX8_stop ∈ AL := al_at 1157 (by decide +kernel) rfl
theorem wc_X8_stop : Cond.code yX8_stop cX8_stop 2 (some .int) ∈ AL := al_at 1158 (by decide +kernel) rfl
theorem wm_L_133 : Cond.methodLink RL 133 yL_mend ∈ AL := al_at 942 (by decide +kernel) rfl
theorem wt_L_mend : Cond.static yL_mend ∈ AL := al_at 943 (by decide +kernel) rfl
theorem wx_L_mend : Cond.codeWith yL_mend cL_mend 4 (some .int) [(0, 9, 12, 13), (0, 9, 15, 17)] ∈ AL := al_at 944 (by decide +kernel) rfl
theorem wm_L_50 : Cond.methodLink RL 50 yX6_mend ∈ AL := al_at 945 (by decide +kernel) rfl
theorem wi_X6_mend : Cond.instanceMethod yX6_mend ∈ AL := al_at 946 (by decide +kernel) rfl
theorem wl_X6_mend : Cond.selects RX6 yX6_mend yX6_mend ∈ AL := al_at 947 (by decide +kernel) rfl
theorem wc_X6_mend : Cond.code yX6_mend cX6_mend 4 (some .int) ∈ AL := al_at 948 (by decide +kernel) rfl
theorem wf_X6_169 : Cond.fieldLink RX6 169 "WheatRun$Combine" "wear" "I" ∈ AL := al_at 539 (by decide +kernel) rfl
theorem wf_X6_172 : Cond.fieldLink RX6 172 "WheatRun$Land" "money" "I" ∈ AL := al_at 116 (by decide +kernel) rfl
theorem wf_X6_177 : Cond.fieldLink RX6 177 "WheatRun$Combine" "isBroken" "Z" ∈ AL := al_at 541 (by decide +kernel) rfl
theorem wm_L_135 : Cond.methodLink RL 135 yX8_mend ∈ AL := al_at 1159 (by decide +kernel) rfl
theorem wi_X8_mend : Cond.instanceMethod yX8_mend ∈ AL := al_at 1160 (by decide +kernel) rfl
theorem wl_X8_mend : Cond.selects RX8 yX8_mend yX8_mend ∈ AL := al_at 1161 (by decide +kernel) rfl
theorem wc_X8_mend : Cond.code yX8_mend cX8_mend 4 (some .int) ∈ AL := al_at 1162 (by decide +kernel) rfl
theorem wm_L_136 : Cond.methodLink RL 136 yL_train ∈ AL := al_at 950 (by decide +kernel) rfl
theorem wt_L_train : Cond.static yL_train ∈ AL := al_at 951 (by decide +kernel) rfl
theorem wx_L_train : Cond.codeWith yL_train cL_train 5 (some .int) [(0, 10, 13, 13), (0, 10, 17, 15)] ∈ AL := al_at 952 (by decide +kernel) rfl
theorem wm_L_53 : Cond.methodLink RL 53 yX6_train ∈ AL := al_at 953 (by decide +kernel) rfl
theorem wi_X6_train : Cond.instanceMethod yX6_train ∈ AL := al_at 954 (by decide +kernel) rfl
theorem wl_X6_train : Cond.selects RX6 yX6_train yX6_train ∈ AL := al_at 955 (by decide +kernel) rfl
theorem wc_X6_train : Cond.code yX6_train cX6_train 4 (some .int) ∈ AL := al_at 956 (by decide +kernel) rfl
theorem wf_X6_183 : Cond.fieldLink RX6 183 "WheatRun$Elevator" "room" "I" ∈ AL := al_at 647 (by decide +kernel) rfl
theorem wm_X6_186 : Cond.methodLink RX6 186 Lib.Math.min.name ∈ AL := al_at 692 (by decide +kernel) rfl
theorem wm_L_138 : Cond.methodLink RL 138 yX8_train ∈ AL := al_at 1163 (by decide +kernel) rfl
theorem wi_X8_train : Cond.instanceMethod yX8_train ∈ AL := al_at 1164 (by decide +kernel) rfl
theorem wl_X8_train : Cond.selects RX8 yX8_train yX8_train ∈ AL := al_at 1165 (by decide +kernel) rfl
theorem wc_X8_train : Cond.code yX8_train cX8_train 4 (some .int) ∈ AL := al_at 1166 (by decide +kernel) rfl
theorem wm_X8_100 : Cond.methodLink RX8 100 Lib.Math.min.name ∈ AL := al_at 1167 (by decide +kernel) rfl
theorem wm_L_139 : Cond.methodLink RL 139 yL_pass ∈ AL := al_at 958 (by decide +kernel) rfl
theorem wt_L_pass : Cond.static yL_pass ∈ AL := al_at 959 (by decide +kernel) rfl
theorem wx_L_pass : Cond.codeWith yL_pass cL_pass 7 (some .int) [(0, 14, 17, 15), (0, 14, 21, 17)] ∈ AL := al_at 960 (by decide +kernel) rfl
theorem wm_L_56 : Cond.methodLink RL 56 yX6_pass ∈ AL := al_at 961 (by decide +kernel) rfl
theorem wi_X6_pass : Cond.instanceMethod yX6_pass ∈ AL := al_at 962 (by decide +kernel) rfl
theorem wl_X6_pass : Cond.selects RX6 yX6_pass yX6_pass ∈ AL := al_at 963 (by decide +kernel) rfl
theorem wc_X6_pass : Cond.code yX6_pass cX6_pass 7 (some .int) ∈ AL := al_at 964 (by decide +kernel) rfl
theorem wf_X6_196 : Cond.fieldLink RX6 196 "WheatRun$Land" "now" "I" ∈ AL := al_at 112 (by decide +kernel) rfl
theorem wf_X6_201 : Cond.fieldLink RX6 201 "WheatRun$Land" "tickets" "Ljava/util/ArrayList;" ∈ AL := al_at 109 (by decide +kernel) rfl
theorem wm_X6_190 : Cond.methodLink RX6 190 yX6_isNoForecast ∈ AL := al_at 427 (by decide +kernel) rfl
theorem wt_X6_isNoForecast : Cond.static yX6_isNoForecast ∈ AL := al_at 428 (by decide +kernel) rfl
theorem wc_X6_isNoForecast : Cond.code yX6_isNoForecast cX6_isNoForecast 4 (some .boolean) ∈ AL := al_at 429 (by decide +kernel) rfl
theorem wm_X6_318 : Cond.methodLink RX6 318 yX6_isNoWeather ∈ AL := al_at 385 (by decide +kernel) rfl
theorem wt_X6_isNoWeather : Cond.static yX6_isNoWeather ∈ AL := al_at 386 (by decide +kernel) rfl
theorem wc_X6_isNoWeather : Cond.code yX6_isNoWeather cX6_isNoWeather 3 (some .boolean) ∈ AL := al_at 387 (by decide +kernel) rfl
theorem wm_X6_204 : Cond.methodLink RX6 204 yX3_passHour ∈ AL := al_at 678 (by decide +kernel) rfl
theorem wi_X3_passHour : Cond.instanceMethod yX3_passHour ∈ AL := al_at 679 (by decide +kernel) rfl
theorem wl_X3_passHour : Cond.selects RX3 yX3_passHour yX3_passHour ∈ AL := al_at 680 (by decide +kernel) rfl
theorem wc_X3_passHour : Cond.code yX3_passHour cX3_passHour 6 none ∈ AL := al_at 681 (by decide +kernel) rfl
theorem wf_X3_41 : Cond.fieldLink RX3 41 "WheatRun$Land" "now" "I" ∈ AL := al_at 111 (by decide +kernel) rfl
theorem wm_X3_95 : Cond.methodLink RX3 95 yX3_clock ∈ AL := al_at 682 (by decide +kernel) rfl
theorem wi_X3_clock : Cond.instanceMethod yX3_clock ∈ AL := al_at 394 (by decide +kernel) rfl
theorem wl_X3_clock : Cond.selects RX3 yX3_clock yX3_clock ∈ AL := al_at 395 (by decide +kernel) rfl
theorem wc_X3_clock : Cond.code yX3_clock cX3_clock 1 (some .int) ∈ AL := al_at 396 (by decide +kernel) rfl
theorem wm_X3_98 : Cond.methodLink RX3 98 yX2_passHour ∈ AL := al_at 683 (by decide +kernel) rfl
theorem wi_X2_passHour : Cond.instanceMethod yX2_passHour ∈ AL := al_at 402 (by decide +kernel) rfl
theorem wl_X2_passHour : Cond.selects RX2 yX2_passHour yX2_passHour ∈ AL := al_at 403 (by decide +kernel) rfl
theorem wc_X2_passHour : Cond.code yX2_passHour cX2_passHour 5 none ∈ AL := al_at 404 (by decide +kernel) rfl
theorem wm_X2_51 : Cond.methodLink RX2 51 yX2_ripen ∈ AL := al_at 405 (by decide +kernel) rfl
theorem wi_X2_ripen : Cond.instanceMethod yX2_ripen ∈ AL := al_at 407 (by decide +kernel) rfl
theorem wl_X2_ripen : Cond.selects RX2 yX2_ripen yX2_ripen ∈ AL := al_at 1 (by decide +kernel) rfl
theorem wc_X2_ripen : Cond.code yX2_ripen cX2_ripen 3 none ∈ AL := al_at 408 (by decide +kernel) rfl
theorem wf_X2_33 : Cond.fieldLink RX2 33 "WheatRun$Field" "ripe" "I" ∈ AL := al_at 154 (by decide +kernel) rfl
theorem wm_X2_62 : Cond.methodLink RX2 62 Lib.Math.min.name ∈ AL := al_at 409 (by decide +kernel) rfl
theorem wm_X2_55 : Cond.methodLink RX2 55 yX2_soakOrDry ∈ AL := al_at 412 (by decide +kernel) rfl
theorem wi_X2_soakOrDry : Cond.instanceMethod yX2_soakOrDry ∈ AL := al_at 414 (by decide +kernel) rfl
theorem wl_X2_soakOrDry : Cond.selects RX2 yX2_soakOrDry yX2_soakOrDry ∈ AL := al_at 2 (by decide +kernel) rfl
theorem wc_X2_soakOrDry : Cond.code yX2_soakOrDry cX2_soakOrDry 3 none ∈ AL := al_at 415 (by decide +kernel) rfl
theorem wm_X2_68 : Cond.methodLink RX2 68 Lib.Math.max.name ∈ AL := al_at 416 (by decide +kernel) rfl
theorem wm_X2_59 : Cond.methodLink RX2 59 yX2_shatter ∈ AL := al_at 419 (by decide +kernel) rfl
theorem wi_X2_shatter : Cond.instanceMethod yX2_shatter ∈ AL := al_at 421 (by decide +kernel) rfl
theorem wl_X2_shatter : Cond.selects RX2 yX2_shatter yX2_shatter ∈ AL := al_at 3 (by decide +kernel) rfl
theorem wc_X2_shatter : Cond.code yX2_shatter cX2_shatter 3 none ∈ AL := al_at 422 (by decide +kernel) rfl
theorem wf_X2_36 : Cond.fieldLink RX2 36 "WheatRun$Field" "lost" "I" ∈ AL := al_at 159 (by decide +kernel) rfl
theorem wm_X3_105 : Cond.methodLink RX3 105 yX3_fieldAt ∈ AL := al_at 684 (by decide +kernel) rfl
theorem wm_X3_109 : Cond.methodLink RX3 109 yX0_passHour ∈ AL := al_at 685 (by decide +kernel) rfl
theorem wi_X0_passHour : Cond.instanceMethod yX0_passHour ∈ AL := al_at 686 (by decide +kernel) rfl
theorem wl_X0_passHour : Cond.selects RX0 yX0_passHour yX0_passHour ∈ AL := al_at 687 (by decide +kernel) rfl
theorem wc_X0_passHour : Cond.code yX0_passHour cX0_passHour 5 none ∈ AL := al_at 688 (by decide +kernel) rfl
theorem wf_X0_36 : Cond.fieldLink RX0 36 "WheatRun$Combine" "isBroken" "Z" ∈ AL := al_at 540 (by decide +kernel) rfl
theorem wf_X0_49 : Cond.fieldLink RX0 49 "WheatRun$Field" "mile" "I" ∈ AL := al_at 145 (by decide +kernel) rfl
theorem wf_X0_40 : Cond.fieldLink RX0 40 "WheatRun$Combine" "idle" "I" ∈ AL := al_at 543 (by decide +kernel) rfl
theorem wt_X6_towards : Cond.static yX6_towards ∈ AL := al_at 690 (by decide +kernel) rfl
theorem wc_X6_towards : Cond.code yX6_towards cX6_towards 3 (some .int) ∈ AL := al_at 691 (by decide +kernel) rfl
theorem wm_X6_380 : Cond.methodLink RX6 380 Lib.Math.max.name ∈ AL := al_at 693 (by decide +kernel) rfl
theorem wm_X0_56 : Cond.methodLink RX0 56 yX0_acresAtOnce ∈ AL := al_at 694 (by decide +kernel) rfl
theorem wi_X0_acresAtOnce : Cond.instanceMethod yX0_acresAtOnce ∈ AL := al_at 696 (by decide +kernel) rfl
theorem wl_X0_acresAtOnce : Cond.selects RX0 yX0_acresAtOnce yX0_acresAtOnce ∈ AL := al_at 9 (by decide +kernel) rfl
theorem wc_X0_acresAtOnce : Cond.code yX0_acresAtOnce cX0_acresAtOnce 4 (some .int) ∈ AL := al_at 697 (by decide +kernel) rfl
theorem wm_X0_76 : Cond.methodLink RX0 76 Lib.Math.min.name ∈ AL := al_at 699 (by decide +kernel) rfl
theorem wf_X0_27 : Cond.fieldLink RX0 27 "WheatRun$Combine" "tank" "I" ∈ AL := al_at 528 (by decide +kernel) rfl
theorem wm_X0_72 : Cond.methodLink RX0 72 yX2_uncut ∈ AL := al_at 698 (by decide +kernel) rfl
theorem wi_X2_uncut : Cond.instanceMethod yX2_uncut ∈ AL := al_at 235 (by decide +kernel) rfl
theorem wl_X2_uncut : Cond.selects RX2 yX2_uncut yX2_uncut ∈ AL := al_at 236 (by decide +kernel) rfl
theorem wc_X2_uncut : Cond.code yX2_uncut cX2_uncut 1 (some .int) ∈ AL := al_at 237 (by decide +kernel) rfl
theorem wf_X2_30 : Cond.fieldLink RX2 30 "WheatRun$Field" "acresCut" "I" ∈ AL := al_at 151 (by decide +kernel) rfl
theorem wm_X0_82 : Cond.methodLink RX0 82 yX2_brings ∈ AL := al_at 700 (by decide +kernel) rfl
theorem wi_X2_brings : Cond.instanceMethod yX2_brings ∈ AL := al_at 432 (by decide +kernel) rfl
theorem wl_X2_brings : Cond.selects RX2 yX2_brings yX2_brings ∈ AL := al_at 433 (by decide +kernel) rfl
theorem wc_X2_brings : Cond.code yX2_brings cX2_brings 1 (some .int) ∈ AL := al_at 434 (by decide +kernel) rfl
theorem wm_X0_60 : Cond.methodLink RX0 60 yX2_isFit ∈ AL := al_at 701 (by decide +kernel) rfl
theorem wi_X2_isFit : Cond.instanceMethod yX2_isFit ∈ AL := al_at 398 (by decide +kernel) rfl
theorem wl_X2_isFit : Cond.selects RX2 yX2_isFit yX2_isFit ∈ AL := al_at 399 (by decide +kernel) rfl
theorem wc_X2_isFit : Cond.code yX2_isFit cX2_isFit 2 (some .boolean) ∈ AL := al_at 400 (by decide +kernel) rfl
theorem wm_X0_64 : Cond.methodLink RX0 64 yX0_holdsAnother ∈ AL := al_at 702 (by decide +kernel) rfl
theorem wi_X0_holdsAnother : Cond.instanceMethod yX0_holdsAnother ∈ AL := al_at 704 (by decide +kernel) rfl
theorem wl_X0_holdsAnother : Cond.selects RX0 yX0_holdsAnother yX0_holdsAnother ∈ AL := al_at 10 (by decide +kernel) rfl
theorem wc_X0_holdsAnother : Cond.code yX0_holdsAnother cX0_holdsAnother 1 (some .boolean) ∈ AL := al_at 705 (by decide +kernel) rfl
theorem wm_X0_68 : Cond.methodLink RX0 68 yX0_harvest ∈ AL := al_at 706 (by decide +kernel) rfl
theorem wi_X0_harvest : Cond.instanceMethod yX0_harvest ∈ AL := al_at 708 (by decide +kernel) rfl
theorem wl_X0_harvest : Cond.selects RX0 yX0_harvest yX0_harvest ∈ AL := al_at 11 (by decide +kernel) rfl
theorem wc_X0_harvest : Cond.code yX0_harvest cX0_harvest 4 none ∈ AL := al_at 709 (by decide +kernel) rfl
theorem wf_X0_85 : Cond.fieldLink RX0 85 "WheatRun$Field" "acresCut" "I" ∈ AL := al_at 152 (by decide +kernel) rfl
theorem wf_X0_86 : Cond.fieldLink RX0 86 "WheatRun$Field" "map" "I" ∈ AL := al_at 162 (by decide +kernel) rfl
theorem wf_X0_30 : Cond.fieldLink RX0 30 "WheatRun$Combine" "tankDamp" "I" ∈ AL := al_at 536 (by decide +kernel) rfl
theorem wf_X0_93 : Cond.fieldLink RX0 93 "WheatRun$Field" "damp" "I" ∈ AL := al_at 158 (by decide +kernel) rfl
theorem wm_X0_96 : Cond.methodLink RX0 96 Lib.Math.max.name ∈ AL := al_at 714 (by decide +kernel) rfl
theorem wf_X0_43 : Cond.fieldLink RX0 43 "WheatRun$Combine" "acresCut" "I" ∈ AL := al_at 549 (by decide +kernel) rfl
theorem wf_X0_46 : Cond.fieldLink RX0 46 "WheatRun$Combine" "bushelsCut" "I" ∈ AL := al_at 551 (by decide +kernel) rfl
theorem wf_X0_33 : Cond.fieldLink RX0 33 "WheatRun$Combine" "wear" "I" ∈ AL := al_at 538 (by decide +kernel) rfl
theorem wm_X0_89 : Cond.methodLink RX0 89 yX0_metered ∈ AL := al_at 710 (by decide +kernel) rfl
theorem wi_X0_metered : Cond.instanceMethod yX0_metered ∈ AL := al_at 712 (by decide +kernel) rfl
theorem wl_X0_metered : Cond.selects RX0 yX0_metered yX0_metered ∈ AL := al_at 12 (by decide +kernel) rfl
theorem wc_X0_metered : Cond.code yX0_metered cX0_metered 3 (some .int) ∈ AL := al_at 713 (by decide +kernel) rfl
theorem wm_X3_112 : Cond.methodLink RX3 112 yX3_passTruckHour ∈ AL := al_at 715 (by decide +kernel) rfl
theorem wi_X3_passTruckHour : Cond.instanceMethod yX3_passTruckHour ∈ AL := al_at 717 (by decide +kernel) rfl
theorem wl_X3_passTruckHour : Cond.selects RX3 yX3_passTruckHour yX3_passTruckHour ∈ AL := al_at 13 (by decide +kernel) rfl
theorem wc_X3_passTruckHour : Cond.code yX3_passTruckHour cX3_passTruckHour 4 none ∈ AL := al_at 718 (by decide +kernel) rfl
theorem wf_X3_115 : Cond.fieldLink RX3 115 "WheatRun$Truck" "toCombine" "I" ∈ AL := al_at 609 (by decide +kernel) rfl
theorem wf_X3_122 : Cond.fieldLink RX3 122 "WheatRun$Truck" "toElevator" "I" ∈ AL := al_at 613 (by decide +kernel) rfl
theorem wf_X3_136 : Cond.fieldLink RX3 136 "WheatRun$Truck" "mile" "I" ∈ AL := al_at 585 (by decide +kernel) rfl
theorem wf_X3_139 : Cond.fieldLink RX3 139 "WheatRun$Combine" "mile" "I" ∈ AL := al_at 526 (by decide +kernel) rfl
theorem wf_X3_146 : Cond.fieldLink RX3 146 "WheatRun$Elevator" "mile" "I" ∈ AL := al_at 644 (by decide +kernel) rfl
theorem wf_X3_147 : Cond.fieldLink RX3 147 "WheatRun$Truck" "load" "I" ∈ AL := al_at 591 (by decide +kernel) rfl
theorem wm_X3_118 : Cond.methodLink RX3 118 yX3_combineAt ∈ AL := al_at 719 (by decide +kernel) rfl
theorem wm_X3_125 : Cond.methodLink RX3 125 yX3_elevatorAt ∈ AL := al_at 720 (by decide +kernel) rfl
theorem wm_X3_129 : Cond.methodLink RX3 129 yX5_mustRest ∈ AL := al_at 724 (by decide +kernel) rfl
theorem wi_X5_mustRest : Cond.instanceMethod yX5_mustRest ∈ AL := al_at 725 (by decide +kernel) rfl
theorem wl_X5_mustRest : Cond.selects RX5 yX5_mustRest yX5_mustRest ∈ AL := al_at 726 (by decide +kernel) rfl
theorem wc_X5_mustRest : Cond.code yX5_mustRest cX5_mustRest 2 (some .boolean) ∈ AL := al_at 727 (by decide +kernel) rfl
theorem wf_X5_24 : Cond.fieldLink RX5 24 "WheatRun$Truck" "hours" "I" ∈ AL := al_at 586 (by decide +kernel) rfl
theorem wm_X3_133 : Cond.methodLink RX3 133 yX5_sleepHour ∈ AL := al_at 728 (by decide +kernel) rfl
theorem wi_X5_sleepHour : Cond.instanceMethod yX5_sleepHour ∈ AL := al_at 729 (by decide +kernel) rfl
theorem wl_X5_sleepHour : Cond.selects RX5 yX5_sleepHour yX5_sleepHour ∈ AL := al_at 730 (by decide +kernel) rfl
theorem wc_X5_sleepHour : Cond.code yX5_sleepHour cX5_sleepHour 1 none ∈ AL := al_at 731 (by decide +kernel) rfl
theorem wf_X5_33 : Cond.fieldLink RX5 33 "WheatRun$Truck" "rest" "I" ∈ AL := al_at 602 (by decide +kernel) rfl
theorem wm_X3_140 : Cond.methodLink RX3 140 yX5_drive ∈ AL := al_at 732 (by decide +kernel) rfl
theorem wi_X5_drive : Cond.instanceMethod yX5_drive ∈ AL := al_at 733 (by decide +kernel) rfl
theorem wl_X5_drive : Cond.selects RX5 yX5_drive yX5_drive ∈ AL := al_at 734 (by decide +kernel) rfl
theorem wc_X5_drive : Cond.code yX5_drive cX5_drive 3 none ∈ AL := al_at 735 (by decide +kernel) rfl
theorem wf_X5_39 : Cond.fieldLink RX5 39 "WheatRun$Truck" "driven" "I" ∈ AL := al_at 614 (by decide +kernel) rfl
theorem wm_X5_46 : Cond.methodLink RX5 46 Lib.Math.abs.name ∈ AL := al_at 737 (by decide +kernel) rfl
theorem wm_X3_143 : Cond.methodLink RX3 143 yX5_takeFrom ∈ AL := al_at 740 (by decide +kernel) rfl
theorem wi_X5_takeFrom : Cond.instanceMethod yX5_takeFrom ∈ AL := al_at 741 (by decide +kernel) rfl
theorem wl_X5_takeFrom : Cond.selects RX5 yX5_takeFrom yX5_takeFrom ∈ AL := al_at 742 (by decide +kernel) rfl
theorem wc_X5_takeFrom : Cond.code yX5_takeFrom cX5_takeFrom 3 none ∈ AL := al_at 743 (by decide +kernel) rfl
theorem wf_X5_27 : Cond.fieldLink RX5 27 "WheatRun$Truck" "load" "I" ∈ AL := al_at 589 (by decide +kernel) rfl
theorem wf_X5_52 : Cond.fieldLink RX5 52 "WheatRun$Combine" "tankField" "I" ∈ AL := al_at 533 (by decide +kernel) rfl
theorem wf_X5_57 : Cond.fieldLink RX5 57 "WheatRun$Combine" "tank" "I" ∈ AL := al_at 529 (by decide +kernel) rfl
theorem wm_X5_60 : Cond.methodLink RX5 60 Lib.Math.min.name ∈ AL := al_at 744 (by decide +kernel) rfl
theorem wf_X5_30 : Cond.fieldLink RX5 30 "WheatRun$Truck" "damp" "I" ∈ AL := al_at 598 (by decide +kernel) rfl
theorem wf_X5_64 : Cond.fieldLink RX5 64 "WheatRun$Combine" "tankDamp" "I" ∈ AL := al_at 537 (by decide +kernel) rfl
theorem wm_X5_67 : Cond.methodLink RX5 67 Lib.Math.max.name ∈ AL := al_at 745 (by decide +kernel) rfl
theorem wm_X3_150 : Cond.methodLink RX3 150 yX3_unload ∈ AL := al_at 746 (by decide +kernel) rfl
theorem wi_X3_unload : Cond.instanceMethod yX3_unload ∈ AL := al_at 748 (by decide +kernel) rfl
theorem wl_X3_unload : Cond.selects RX3 yX3_unload yX3_unload ∈ AL := al_at 14 (by decide +kernel) rfl
theorem wc_X3_unload : Cond.code yX3_unload cX3_unload 3 none ∈ AL := al_at 749 (by decide +kernel) rfl
theorem wf_X3_158 : Cond.fieldLink RX3 158 "WheatRun$Truck" "queued" "I" ∈ AL := al_at 605 (by decide +kernel) rfl
theorem wf_X3_161 : Cond.fieldLink RX3 161 "WheatRun$Elevator" "room" "I" ∈ AL := al_at 646 (by decide +kernel) rfl
theorem wm_X3_154 : Cond.methodLink RX3 154 yX1_takes ∈ AL := al_at 750 (by decide +kernel) rfl
theorem wi_X1_takes : Cond.instanceMethod yX1_takes ∈ AL := al_at 751 (by decide +kernel) rfl
theorem wl_X1_takes : Cond.selects RX1 yX1_takes yX1_takes ∈ AL := al_at 752 (by decide +kernel) rfl
theorem wc_X1_takes : Cond.code yX1_takes cX1_takes 3 (some .boolean) ∈ AL := al_at 753 (by decide +kernel) rfl
theorem wf_X1_32 : Cond.fieldLink RX1 32 "WheatRun$Truck" "damp" "I" ∈ AL := al_at 599 (by decide +kernel) rfl
theorem wf_X1_37 : Cond.fieldLink RX1 37 "WheatRun$Truck" "load" "I" ∈ AL := al_at 590 (by decide +kernel) rfl
theorem wm_X1_28 : Cond.methodLink RX1 28 yX1_isOpen ∈ AL := al_at 754 (by decide +kernel) rfl
theorem wi_X1_isOpen : Cond.instanceMethod yX1_isOpen ∈ AL := al_at 756 (by decide +kernel) rfl
theorem wl_X1_isOpen : Cond.selects RX1 yX1_isOpen yX1_isOpen ∈ AL := al_at 15 (by decide +kernel) rfl
theorem wc_X1_isOpen : Cond.code yX1_isOpen cX1_isOpen 2 (some .boolean) ∈ AL := al_at 757 (by decide +kernel) rfl
theorem wm_X3_164 : Cond.methodLink RX3 164 yX3_writeTicket ∈ AL := al_at 758 (by decide +kernel) rfl
theorem wi_X3_writeTicket : Cond.instanceMethod yX3_writeTicket ∈ AL := al_at 760 (by decide +kernel) rfl
theorem wl_X3_writeTicket : Cond.selects RX3 yX3_writeTicket yX3_writeTicket ∈ AL := al_at 16 (by decide +kernel) rfl
theorem wc_X3_writeTicket : Cond.code yX3_writeTicket cX3_writeTicket 5 none ∈ AL := al_at 761 (by decide +kernel) rfl
theorem wk_X3_93 : Cond.classLink RX3 93 RX4 ∈ AL := al_at 762 (by decide +kernel) rfl
theorem wb_X4 : Cond.instantiable RX4 7 ∈ AL := al_at 763 (by decide +kernel) rfl
theorem wn_X4 : Cond.initialized RX4 ∈ AL := al_at 59 (by decide +kernel) rfl
theorem wf_X3_167 : Cond.fieldLink RX3 167 "WheatRun$Truck" "damp" "I" ∈ AL := al_at 600 (by decide +kernel) rfl
theorem wf_X3_177 : Cond.fieldLink RX3 177 "WheatRun$Ticket" "bushels" "I" ∈ AL := al_at 777 (by decide +kernel) rfl
theorem wf_X3_180 : Cond.fieldLink RX3 180 "WheatRun$Ticket" "field" "I" ∈ AL := al_at 774 (by decide +kernel) rfl
theorem wf_X3_183 : Cond.fieldLink RX3 183 "WheatRun$Ticket" "worth" "I" ∈ AL := al_at 788 (by decide +kernel) rfl
theorem wm_X3_170 : Cond.methodLink RX3 170 yX1_discount ∈ AL := al_at 764 (by decide +kernel) rfl
theorem wi_X1_discount : Cond.instanceMethod yX1_discount ∈ AL := al_at 765 (by decide +kernel) rfl
theorem wl_X1_discount : Cond.selects RX1 yX1_discount yX1_discount ∈ AL := al_at 766 (by decide +kernel) rfl
theorem wc_X1_discount : Cond.code yX1_discount cX1_discount 2 (some .int) ∈ AL := al_at 767 (by decide +kernel) rfl
theorem wm_X1_40 : Cond.methodLink RX1 40 Lib.Math.max.name ∈ AL := al_at 768 (by decide +kernel) rfl
theorem wm_X3_174 : Cond.methodLink RX3 174 yX4_init ∈ AL := al_at 769 (by decide +kernel) rfl
theorem wi_X4_init : Cond.instanceMethod yX4_init ∈ AL := al_at 770 (by decide +kernel) rfl
theorem wc_X4_init : Cond.code yX4_init cX4_init 5 none ∈ AL := al_at 771 (by decide +kernel) rfl
theorem wm_X4_1 : Cond.methodLink RX4 1 objectInit ∈ AL := al_at 772 (by decide +kernel) rfl
theorem wf_X4_7 : Cond.fieldLink RX4 7 "WheatRun$Truck" "loadField" "I" ∈ AL := al_at 594 (by decide +kernel) rfl
theorem wf_X4_13 : Cond.fieldLink RX4 13 "WheatRun$Ticket" "field" "I" ∈ AL := al_at 773 (by decide +kernel) rfl
theorem wf_X4_18 : Cond.fieldLink RX4 18 "WheatRun$Truck" "load" "I" ∈ AL := al_at 588 (by decide +kernel) rfl
theorem wf_X4_21 : Cond.fieldLink RX4 21 "WheatRun$Ticket" "bushels" "I" ∈ AL := al_at 776 (by decide +kernel) rfl
theorem wf_X4_24 : Cond.fieldLink RX4 24 "WheatRun$Truck" "damp" "I" ∈ AL := al_at 597 (by decide +kernel) rfl
theorem wf_X4_27 : Cond.fieldLink RX4 27 "WheatRun$Ticket" "damp" "I" ∈ AL := al_at 779 (by decide +kernel) rfl
theorem wf_X4_28 : Cond.fieldLink RX4 28 "WheatRun$Ticket" "discount" "I" ∈ AL := al_at 781 (by decide +kernel) rfl
theorem wf_X4_31 : Cond.fieldLink RX4 31 "WheatRun$Truck" "toElevator" "I" ∈ AL := al_at 611 (by decide +kernel) rfl
theorem wf_X4_34 : Cond.fieldLink RX4 34 "WheatRun$Ticket" "elevator" "I" ∈ AL := al_at 783 (by decide +kernel) rfl
theorem wf_X4_37 : Cond.fieldLink RX4 37 "WheatRun$Ticket" "hour" "I" ∈ AL := al_at 785 (by decide +kernel) rfl
theorem wf_X4_40 : Cond.fieldLink RX4 40 "WheatRun$Ticket" "worth" "I" ∈ AL := al_at 787 (by decide +kernel) rfl
theorem wm_X3_80 : Cond.methodLink RX3 80 yJx4a65c_add_9ea2d ∈ AL := al_at 462 (by decide +kernel) rfl
theorem wm_X3_186 : Cond.methodLink RX3 186 yX2_credit ∈ AL := al_at 805 (by decide +kernel) rfl
theorem wi_X2_credit : Cond.instanceMethod yX2_credit ∈ AL := al_at 806 (by decide +kernel) rfl
theorem wl_X2_credit : Cond.selects RX2 yX2_credit yX2_credit ∈ AL := al_at 807 (by decide +kernel) rfl
theorem wc_X2_credit : Cond.code yX2_credit cX2_credit 4 none ∈ AL := al_at 808 (by decide +kernel) rfl
theorem wf_X2_42 : Cond.fieldLink RX2 42 "WheatRun$Field" "sold" "I" ∈ AL := al_at 164 (by decide +kernel) rfl
theorem wf_X2_48 : Cond.fieldLink RX2 48 "WheatRun$Field" "forLandlord" "I" ∈ AL := al_at 168 (by decide +kernel) rfl
theorem wf_X2_45 : Cond.fieldLink RX2 45 "WheatRun$Field" "forFarmer" "I" ∈ AL := al_at 166 (by decide +kernel) rfl
theorem wm_L_142 : Cond.methodLink RL 142 yX8_pass ∈ AL := al_at 1168 (by decide +kernel) rfl
theorem wi_X8_pass : Cond.instanceMethod yX8_pass ∈ AL := al_at 1169 (by decide +kernel) rfl
theorem wl_X8_pass : Cond.selects RX8 yX8_pass yX8_pass ∈ AL := al_at 1170 (by decide +kernel) rfl
theorem wc_X8_pass : Cond.code yX8_pass cX8_pass 9 (some .int) ∈ AL := al_at 1171 (by decide +kernel) rfl
theorem wf_X8_107 : Cond.fieldLink RX8 107 "WheatRunModel$Land" "now" "I" ∈ AL := al_at 1029 (by decide +kernel) rfl
theorem wf_X8_110 : Cond.fieldLink RX8 110 "WheatRunModel$Land" "tickets" "Ljava/util/List;" ∈ AL := al_at 1027 (by decide +kernel) rfl
theorem wk_X8_128 : Cond.classLink RX8 128 "[I" ∈ AL := al_at 1238 (by decide +kernel) rfl
theorem wm_X8_104 : Cond.methodLink RX8 104 yX8_isWeather ∈ AL := al_at 1172 (by decide +kernel) rfl
theorem wt_X8_isWeather : Cond.static yX8_isWeather ∈ AL := al_at 1173 (by decide +kernel) rfl
theorem wc_X8_isWeather : Cond.code yX8_isWeather cX8_isWeather 3 (some .boolean) ∈ AL := al_at 1174 (by decide +kernel) rfl
theorem wm_X8_114 : Cond.methodLink RX8 114 ⟨"java/util/List", "size", "()I"⟩ ∈ AL := al_at 1176 (by decide +kernel) rfl
theorem wl_Jx4a65c_size_8abf5_by_List_size : Cond.selects RJx4a65c ⟨"java/util/List", "size", "()I"⟩ yJx4a65c_size_8abf5 ∈ AL := al_at 1180 (by decide +kernel) rfl
theorem wm_X8_120 : Cond.methodLink RX8 120 yX7_go ∈ AL := al_at 1183 (by decide +kernel) rfl
theorem wi_X7_go : Cond.instanceMethod yX7_go ∈ AL := al_at 1184 (by decide +kernel) rfl
theorem wl_X7_go : Cond.selects RX7 yX7_go yX7_go ∈ AL := al_at 1185 (by decide +kernel) rfl
theorem wc_X7_go : Cond.code yX7_go cX7_go 6 (some .int) ∈ AL := al_at 1186 (by decide +kernel) rfl
theorem wf_X7_52 : Cond.fieldLink RX7 52 "WheatRunModel$Land" "now" "I" ∈ AL := al_at 1028 (by decide +kernel) rfl
theorem wf_X7_33 : Cond.fieldLink RX7 33 "WheatRunModel$Land" "fieldCount" "I" ∈ AL := al_at 1030 (by decide +kernel) rfl
theorem wf_X7_46 : Cond.fieldLink RX7 46 "WheatRunModel$Land" "truckCount" "I" ∈ AL := al_at 1034 (by decide +kernel) rfl
theorem wm_X7_64 : Cond.methodLink RX7 64 yX7_clock ∈ AL := al_at 1187 (by decide +kernel) rfl
theorem wi_X7_clock : Cond.instanceMethod yX7_clock ∈ AL := al_at 1188 (by decide +kernel) rfl
theorem wl_X7_clock : Cond.selects RX7 yX7_clock yX7_clock ∈ AL := al_at 1189 (by decide +kernel) rfl
theorem wc_X7_clock : Cond.code yX7_clock cX7_clock 1 (some .int) ∈ AL := al_at 1190 (by decide +kernel) rfl
theorem wm_X7_68 : Cond.methodLink RX7 68 yX7_ripen ∈ AL := al_at 1191 (by decide +kernel) rfl
theorem wt_X7_ripen : Cond.static yX7_ripen ∈ AL := al_at 1192 (by decide +kernel) rfl
theorem wc_X7_ripen : Cond.code yX7_ripen cX7_ripen 6 none ∈ AL := al_at 1193 (by decide +kernel) rfl
theorem wm_X7_55 : Cond.methodLink RX7 55 Lib.Math.min.name ∈ AL := al_at 1194 (by decide +kernel) rfl
theorem wm_X7_61 : Cond.methodLink RX7 61 Lib.Math.max.name ∈ AL := al_at 1195 (by decide +kernel) rfl
theorem wm_X7_72 : Cond.methodLink RX7 72 yX7_work ∈ AL := al_at 1196 (by decide +kernel) rfl
theorem wi_X7_work : Cond.instanceMethod yX7_work ∈ AL := al_at 1198 (by decide +kernel) rfl
theorem wl_X7_work : Cond.selects RX7 yX7_work yX7_work ∈ AL := al_at 23 (by decide +kernel) rfl
theorem wc_X7_work : Cond.code yX7_work cX7_work 8 none ∈ AL := al_at 1199 (by decide +kernel) rfl
theorem wm_X7_85 : Cond.methodLink RX7 85 yX7_towards ∈ AL := al_at 1200 (by decide +kernel) rfl
theorem wt_X7_towards : Cond.static yX7_towards ∈ AL := al_at 1201 (by decide +kernel) rfl
theorem wc_X7_towards : Cond.code yX7_towards cX7_towards 3 none ∈ AL := al_at 1202 (by decide +kernel) rfl
theorem wm_X7_89 : Cond.methodLink RX7 89 yX7_brings ∈ AL := al_at 1203 (by decide +kernel) rfl
theorem wt_X7_brings : Cond.static yX7_brings ∈ AL := al_at 1204 (by decide +kernel) rfl
theorem wc_X7_brings : Cond.code yX7_brings cX7_brings 1 (some .int) ∈ AL := al_at 1205 (by decide +kernel) rfl
theorem wm_X7_76 : Cond.methodLink RX7 76 ⟨"java/util/List", "size", "()I"⟩ ∈ AL := al_at 1207 (by decide +kernel) rfl
theorem wm_X7_81 : Cond.methodLink RX7 81 yX7_drive ∈ AL := al_at 1208 (by decide +kernel) rfl
theorem wi_X7_drive : Cond.instanceMethod yX7_drive ∈ AL := al_at 1210 (by decide +kernel) rfl
theorem wl_X7_drive : Cond.selects RX7 yX7_drive yX7_drive ∈ AL := al_at 24 (by decide +kernel) rfl
theorem wc_X7_drive : Cond.code yX7_drive cX7_drive 4 none ∈ AL := al_at 1211 (by decide +kernel) rfl
theorem wm_X7_93 : Cond.methodLink RX7 93 Lib.Math.abs.name ∈ AL := al_at 1212 (by decide +kernel) rfl
theorem wm_X7_97 : Cond.methodLink RX7 97 yX7_load ∈ AL := al_at 1213 (by decide +kernel) rfl
theorem wt_X7_load : Cond.static yX7_load ∈ AL := al_at 1214 (by decide +kernel) rfl
theorem wc_X7_load : Cond.code yX7_load cX7_load 3 none ∈ AL := al_at 1215 (by decide +kernel) rfl
theorem wm_X7_101 : Cond.methodLink RX7 101 yX7_sell ∈ AL := al_at 1216 (by decide +kernel) rfl
theorem wi_X7_sell : Cond.instanceMethod yX7_sell ∈ AL := al_at 1218 (by decide +kernel) rfl
theorem wl_X7_sell : Cond.selects RX7 yX7_sell yX7_sell ∈ AL := al_at 25 (by decide +kernel) rfl
theorem wc_X7_sell : Cond.code yX7_sell cX7_sell 4 none ∈ AL := al_at 1219 (by decide +kernel) rfl
theorem wm_X7_104 : Cond.methodLink RX7 104 yX7_isOpen ∈ AL := al_at 1220 (by decide +kernel) rfl
theorem wi_X7_isOpen : Cond.instanceMethod yX7_isOpen ∈ AL := al_at 1222 (by decide +kernel) rfl
theorem wl_X7_isOpen : Cond.selects RX7 yX7_isOpen yX7_isOpen ∈ AL := al_at 26 (by decide +kernel) rfl
theorem wc_X7_isOpen : Cond.code yX7_isOpen cX7_isOpen 2 (some .boolean) ∈ AL := al_at 1223 (by decide +kernel) rfl
theorem wm_X7_108 : Cond.methodLink RX7 108 ⟨"java/util/List", "add", "(Ljava/lang/Object;)Z"⟩ ∈ AL := al_at 1225 (by decide +kernel) rfl
theorem wl_Jx4a65c_add_9ea2d_by_List_add : Cond.selects RJx4a65c ⟨"java/util/List", "add", "(Ljava/lang/Object;)Z"⟩ yJx4a65c_add_9ea2d ∈ AL := al_at 1228 (by decide +kernel) rfl
theorem wm_X8_124 : Cond.methodLink RX8 124 ⟨"java/util/List", "get", "(I)Ljava/lang/Object;"⟩ ∈ AL := al_at 1232 (by decide +kernel) rfl
theorem wl_Jx4a65c_get_915e3_by_List_get : Cond.selects RJx4a65c ⟨"java/util/List", "get", "(I)Ljava/lang/Object;"⟩ yJx4a65c_get_915e3 ∈ AL := al_at 1235 (by decide +kernel) rfl
theorem wm_X8_129 : Cond.methodLink RX8 129 yX8_pay ∈ AL := al_at 1239 (by decide +kernel) rfl
theorem wi_X8_pay : Cond.instanceMethod yX8_pay ∈ AL := al_at 1241 (by decide +kernel) rfl
theorem wl_X8_pay : Cond.selects RX8 yX8_pay yX8_pay ∈ AL := al_at 27 (by decide +kernel) rfl
theorem wc_X8_pay : Cond.code yX8_pay cX8_pay 4 none ∈ AL := al_at 1242 (by decide +kernel) rfl
theorem wm_L_143 : Cond.methodLink RL 143 yL_ofField ∈ AL := al_at 966 (by decide +kernel) rfl
theorem wt_L_ofField : Cond.static yL_ofField ∈ AL := al_at 967 (by decide +kernel) rfl
theorem wx_L_ofField : Cond.codeWith yL_ofField cL_ofField 5 (some .int) [(0, 10, 13, 13), (0, 10, 17, 15)] ∈ AL := al_at 968 (by decide +kernel) rfl
theorem wm_L_60 : Cond.methodLink RL 60 yX6_ofField ∈ AL := al_at 969 (by decide +kernel) rfl
theorem wi_X6_ofField : Cond.instanceMethod yX6_ofField ∈ AL := al_at 346 (by decide +kernel) rfl
theorem wl_X6_ofField : Cond.selects RX6 yX6_ofField yX6_ofField ∈ AL := al_at 347 (by decide +kernel) rfl
theorem wc_X6_ofField : Cond.code yX6_ofField cX6_ofField 4 (some .int) ∈ AL := al_at 348 (by decide +kernel) rfl
theorem wf_X6_209 : Cond.fieldLink RX6 209 "WheatRun$Field" "farmer" "I" ∈ AL := al_at 143 (by decide +kernel) rfl
theorem wf_X6_212 : Cond.fieldLink RX6 212 "WheatRun$Field" "mile" "I" ∈ AL := al_at 146 (by decide +kernel) rfl
theorem wf_X6_213 : Cond.fieldLink RX6 213 "WheatRun$Field" "acres" "I" ∈ AL := al_at 148 (by decide +kernel) rfl
theorem wf_X6_216 : Cond.fieldLink RX6 216 "WheatRun$Field" "acresCut" "I" ∈ AL := al_at 153 (by decide +kernel) rfl
theorem wf_X6_219 : Cond.fieldLink RX6 219 "WheatRun$Field" "lost" "I" ∈ AL := al_at 160 (by decide +kernel) rfl
theorem wf_X6_222 : Cond.fieldLink RX6 222 "WheatRun$Field" "map" "I" ∈ AL := al_at 163 (by decide +kernel) rfl
theorem wf_X6_225 : Cond.fieldLink RX6 225 "WheatRun$Field" "sold" "I" ∈ AL := al_at 165 (by decide +kernel) rfl
theorem wm_X6_228 : Cond.methodLink RX6 228 yX3_onTheWay ∈ AL := al_at 369 (by decide +kernel) rfl
theorem wi_X3_onTheWay : Cond.instanceMethod yX3_onTheWay ∈ AL := al_at 370 (by decide +kernel) rfl
theorem wl_X3_onTheWay : Cond.selects RX3 yX3_onTheWay yX3_onTheWay ∈ AL := al_at 371 (by decide +kernel) rfl
theorem wc_X3_onTheWay : Cond.code yX3_onTheWay cX3_onTheWay 5 (some .int) ∈ AL := al_at 372 (by decide +kernel) rfl
theorem wf_X3_190 : Cond.fieldLink RX3 190 "WheatRun$Combine" "tankField" "I" ∈ AL := al_at 534 (by decide +kernel) rfl
theorem wf_X3_193 : Cond.fieldLink RX3 193 "WheatRun$Combine" "tank" "I" ∈ AL := al_at 530 (by decide +kernel) rfl
theorem wf_X3_196 : Cond.fieldLink RX3 196 "WheatRun$Truck" "loadField" "I" ∈ AL := al_at 595 (by decide +kernel) rfl
theorem wm_X6_231 : Cond.methodLink RX6 231 yX2_correction ∈ AL := al_at 373 (by decide +kernel) rfl
theorem wi_X2_correction : Cond.instanceMethod yX2_correction ∈ AL := al_at 374 (by decide +kernel) rfl
theorem wl_X2_correction : Cond.selects RX2 yX2_correction yX2_correction ∈ AL := al_at 375 (by decide +kernel) rfl
theorem wc_X2_correction : Cond.code yX2_correction cX2_correction 2 (some .int) ∈ AL := al_at 376 (by decide +kernel) rfl
theorem wf_X2_39 : Cond.fieldLink RX2 39 "WheatRun$Field" "map" "I" ∈ AL := al_at 161 (by decide +kernel) rfl
theorem wm_L_145 : Cond.methodLink RL 145 yX8_ofField ∈ AL := al_at 1243 (by decide +kernel) rfl
theorem wi_X8_ofField : Cond.instanceMethod yX8_ofField ∈ AL := al_at 1244 (by decide +kernel) rfl
theorem wl_X8_ofField : Cond.selects RX8 yX8_ofField yX8_ofField ∈ AL := al_at 1245 (by decide +kernel) rfl
theorem wc_X8_ofField : Cond.code yX8_ofField cX8_ofField 3 (some .int) ∈ AL := al_at 1246 (by decide +kernel) rfl
theorem wm_X8_136 : Cond.methodLink RX8 136 yX8_fieldNow ∈ AL := al_at 1247 (by decide +kernel) rfl
theorem wi_X8_fieldNow : Cond.instanceMethod yX8_fieldNow ∈ AL := al_at 1249 (by decide +kernel) rfl
theorem wl_X8_fieldNow : Cond.selects RX8 yX8_fieldNow yX8_fieldNow ∈ AL := al_at 28 (by decide +kernel) rfl
theorem wc_X8_fieldNow : Cond.code yX8_fieldNow cX8_fieldNow 4 (some .int) ∈ AL := al_at 1250 (by decide +kernel) rfl
theorem wm_X8_133 : Cond.methodLink RX8 133 yX7_between ∈ AL := al_at 1251 (by decide +kernel) rfl
theorem wi_X7_between : Cond.instanceMethod yX7_between ∈ AL := al_at 1252 (by decide +kernel) rfl
theorem wl_X7_between : Cond.selects RX7 yX7_between yX7_between ∈ AL := al_at 1253 (by decide +kernel) rfl
theorem wc_X7_between : Cond.code yX7_between cX7_between 4 (some .int) ∈ AL := al_at 1254 (by decide +kernel) rfl
theorem wm_L_146 : Cond.methodLink RL 146 yL_ofCombine ∈ AL := al_at 970 (by decide +kernel) rfl
theorem wt_L_ofCombine : Cond.static yL_ofCombine ∈ AL := al_at 971 (by decide +kernel) rfl
theorem wx_L_ofCombine : Cond.codeWith yL_ofCombine cL_ofCombine 5 (some .int) [(0, 10, 13, 13), (0, 10, 17, 15)] ∈ AL := al_at 972 (by decide +kernel) rfl
theorem wm_L_63 : Cond.methodLink RL 63 yX6_ofCombine ∈ AL := al_at 973 (by decide +kernel) rfl
theorem wi_X6_ofCombine : Cond.instanceMethod yX6_ofCombine ∈ AL := al_at 436 (by decide +kernel) rfl
theorem wl_X6_ofCombine : Cond.selects RX6 yX6_ofCombine yX6_ofCombine ∈ AL := al_at 437 (by decide +kernel) rfl
theorem wc_X6_ofCombine : Cond.code yX6_ofCombine cX6_ofCombine 4 (some .int) ∈ AL := al_at 438 (by decide +kernel) rfl
theorem wf_X6_234 : Cond.fieldLink RX6 234 "WheatRun$Combine" "tank" "I" ∈ AL := al_at 531 (by decide +kernel) rfl
theorem wf_X6_237 : Cond.fieldLink RX6 237 "WheatRun$Combine" "tankField" "I" ∈ AL := al_at 535 (by decide +kernel) rfl
theorem wf_X6_240 : Cond.fieldLink RX6 240 "WheatRun$Combine" "acresCut" "I" ∈ AL := al_at 550 (by decide +kernel) rfl
theorem wf_X6_241 : Cond.fieldLink RX6 241 "WheatRun$Combine" "idle" "I" ∈ AL := al_at 544 (by decide +kernel) rfl
theorem wm_L_148 : Cond.methodLink RL 148 yX8_ofCombine ∈ AL := al_at 1255 (by decide +kernel) rfl
theorem wi_X8_ofCombine : Cond.instanceMethod yX8_ofCombine ∈ AL := al_at 1256 (by decide +kernel) rfl
theorem wl_X8_ofCombine : Cond.selects RX8 yX8_ofCombine yX8_ofCombine ∈ AL := al_at 1257 (by decide +kernel) rfl
theorem wc_X8_ofCombine : Cond.code yX8_ofCombine cX8_ofCombine 3 (some .int) ∈ AL := al_at 1258 (by decide +kernel) rfl
theorem wm_X8_139 : Cond.methodLink RX8 139 yX8_combineNow ∈ AL := al_at 1259 (by decide +kernel) rfl
theorem wi_X8_combineNow : Cond.instanceMethod yX8_combineNow ∈ AL := al_at 1261 (by decide +kernel) rfl
theorem wl_X8_combineNow : Cond.selects RX8 yX8_combineNow yX8_combineNow ∈ AL := al_at 29 (by decide +kernel) rfl
theorem wc_X8_combineNow : Cond.code yX8_combineNow cX8_combineNow 5 (some .int) ∈ AL := al_at 1262 (by decide +kernel) rfl
theorem wm_L_149 : Cond.methodLink RL 149 yL_ofTruck ∈ AL := al_at 974 (by decide +kernel) rfl
theorem wt_L_ofTruck : Cond.static yL_ofTruck ∈ AL := al_at 975 (by decide +kernel) rfl
theorem wx_L_ofTruck : Cond.codeWith yL_ofTruck cL_ofTruck 5 (some .int) [(0, 10, 13, 13), (0, 10, 17, 15)] ∈ AL := al_at 976 (by decide +kernel) rfl
theorem wm_L_66 : Cond.methodLink RL 66 yX6_ofTruck ∈ AL := al_at 977 (by decide +kernel) rfl
theorem wi_X6_ofTruck : Cond.instanceMethod yX6_ofTruck ∈ AL := al_at 810 (by decide +kernel) rfl
theorem wl_X6_ofTruck : Cond.selects RX6 yX6_ofTruck yX6_ofTruck ∈ AL := al_at 811 (by decide +kernel) rfl
theorem wc_X6_ofTruck : Cond.code yX6_ofTruck cX6_ofTruck 4 (some .int) ∈ AL := al_at 812 (by decide +kernel) rfl
theorem wf_X6_244 : Cond.fieldLink RX6 244 "WheatRun$Truck" "load" "I" ∈ AL := al_at 592 (by decide +kernel) rfl
theorem wf_X6_247 : Cond.fieldLink RX6 247 "WheatRun$Truck" "loadField" "I" ∈ AL := al_at 596 (by decide +kernel) rfl
theorem wf_X6_250 : Cond.fieldLink RX6 250 "WheatRun$Truck" "damp" "I" ∈ AL := al_at 601 (by decide +kernel) rfl
theorem wf_X6_251 : Cond.fieldLink RX6 251 "WheatRun$Truck" "rest" "I" ∈ AL := al_at 603 (by decide +kernel) rfl
theorem wf_X6_254 : Cond.fieldLink RX6 254 "WheatRun$Truck" "queued" "I" ∈ AL := al_at 606 (by decide +kernel) rfl
theorem wf_X6_257 : Cond.fieldLink RX6 257 "WheatRun$Truck" "driven" "I" ∈ AL := al_at 615 (by decide +kernel) rfl
theorem wm_L_151 : Cond.methodLink RL 151 yX8_ofTruck ∈ AL := al_at 1263 (by decide +kernel) rfl
theorem wi_X8_ofTruck : Cond.instanceMethod yX8_ofTruck ∈ AL := al_at 1264 (by decide +kernel) rfl
theorem wl_X8_ofTruck : Cond.selects RX8 yX8_ofTruck yX8_ofTruck ∈ AL := al_at 1265 (by decide +kernel) rfl
theorem wc_X8_ofTruck : Cond.code yX8_ofTruck cX8_ofTruck 3 (some .int) ∈ AL := al_at 1266 (by decide +kernel) rfl
theorem wm_X8_142 : Cond.methodLink RX8 142 yX8_truckNow ∈ AL := al_at 1267 (by decide +kernel) rfl
theorem wi_X8_truckNow : Cond.instanceMethod yX8_truckNow ∈ AL := al_at 1269 (by decide +kernel) rfl
theorem wl_X8_truckNow : Cond.selects RX8 yX8_truckNow yX8_truckNow ∈ AL := al_at 30 (by decide +kernel) rfl
theorem wc_X8_truckNow : Cond.code yX8_truckNow cX8_truckNow 5 (some .int) ∈ AL := al_at 1270 (by decide +kernel) rfl
theorem wm_L_152 : Cond.methodLink RL 152 yL_ofTicket ∈ AL := al_at 978 (by decide +kernel) rfl
theorem wt_L_ofTicket : Cond.static yL_ofTicket ∈ AL := al_at 979 (by decide +kernel) rfl
theorem wx_L_ofTicket : Cond.codeWith yL_ofTicket cL_ofTicket 5 (some .int) [(0, 10, 13, 13), (0, 10, 17, 15)] ∈ AL := al_at 980 (by decide +kernel) rfl
theorem wm_L_69 : Cond.methodLink RL 69 yX6_ofTicket ∈ AL := al_at 981 (by decide +kernel) rfl
theorem wi_X6_ofTicket : Cond.instanceMethod yX6_ofTicket ∈ AL := al_at 819 (by decide +kernel) rfl
theorem wl_X6_ofTicket : Cond.selects RX6 yX6_ofTicket yX6_ofTicket ∈ AL := al_at 820 (by decide +kernel) rfl
theorem wc_X6_ofTicket : Cond.code yX6_ofTicket cX6_ofTicket 4 (some .int) ∈ AL := al_at 821 (by decide +kernel) rfl
theorem wf_X6_266 : Cond.fieldLink RX6 266 "WheatRun$Ticket" "field" "I" ∈ AL := al_at 775 (by decide +kernel) rfl
theorem wf_X6_271 : Cond.fieldLink RX6 271 "WheatRun$Ticket" "bushels" "I" ∈ AL := al_at 778 (by decide +kernel) rfl
theorem wf_X6_274 : Cond.fieldLink RX6 274 "WheatRun$Ticket" "damp" "I" ∈ AL := al_at 780 (by decide +kernel) rfl
theorem wf_X6_275 : Cond.fieldLink RX6 275 "WheatRun$Ticket" "discount" "I" ∈ AL := al_at 782 (by decide +kernel) rfl
theorem wf_X6_278 : Cond.fieldLink RX6 278 "WheatRun$Ticket" "elevator" "I" ∈ AL := al_at 784 (by decide +kernel) rfl
theorem wf_X6_281 : Cond.fieldLink RX6 281 "WheatRun$Ticket" "hour" "I" ∈ AL := al_at 786 (by decide +kernel) rfl
theorem wf_X6_284 : Cond.fieldLink RX6 284 "WheatRun$Ticket" "worth" "I" ∈ AL := al_at 789 (by decide +kernel) rfl
theorem wm_X6_260 : Cond.methodLink RX6 260 yX3_ticketAt ∈ AL := al_at 822 (by decide +kernel) rfl
theorem wi_X3_ticketAt : Cond.instanceMethod yX3_ticketAt ∈ AL := al_at 823 (by decide +kernel) rfl
theorem wl_X3_ticketAt : Cond.selects RX3 yX3_ticketAt yX3_ticketAt ∈ AL := al_at 824 (by decide +kernel) rfl
theorem wc_X3_ticketAt : Cond.code yX3_ticketAt cX3_ticketAt 2 (some (.object "WheatRun$Ticket")) ∈ AL := al_at 825 (by decide +kernel) rfl
theorem wm_L_154 : Cond.methodLink RL 154 yX8_ofTicket ∈ AL := al_at 1271 (by decide +kernel) rfl
theorem wi_X8_ofTicket : Cond.instanceMethod yX8_ofTicket ∈ AL := al_at 1272 (by decide +kernel) rfl
theorem wl_X8_ofTicket : Cond.selects RX8 yX8_ofTicket yX8_ofTicket ∈ AL := al_at 1273 (by decide +kernel) rfl
theorem wc_X8_ofTicket : Cond.code yX8_ofTicket cX8_ofTicket 3 (some .int) ∈ AL := al_at 1274 (by decide +kernel) rfl
theorem wm_L_155 : Cond.methodLink RL 155 yL_owed ∈ AL := al_at 982 (by decide +kernel) rfl
theorem wt_L_owed : Cond.static yL_owed ∈ AL := al_at 983 (by decide +kernel) rfl
theorem wx_L_owed : Cond.codeWith yL_owed cL_owed 5 (some .int) [(0, 10, 13, 13)] ∈ AL := al_at 984 (by decide +kernel) rfl
theorem wm_L_72 : Cond.methodLink RL 72 yX6_owed ∈ AL := al_at 985 (by decide +kernel) rfl
theorem wi_X6_owed : Cond.instanceMethod yX6_owed ∈ AL := al_at 828 (by decide +kernel) rfl
theorem wl_X6_owed : Cond.selects RX6 yX6_owed yX6_owed ∈ AL := al_at 829 (by decide +kernel) rfl
theorem wc_X6_owed : Cond.code yX6_owed cX6_owed 6 (some .int) ∈ AL := al_at 830 (by decide +kernel) rfl
theorem wf_X6_291 : Cond.fieldLink RX6 291 "WheatRun$Field" "forLandlord" "I" ∈ AL := al_at 169 (by decide +kernel) rfl
theorem wf_X6_294 : Cond.fieldLink RX6 294 "WheatRun$Field" "forFarmer" "I" ∈ AL := al_at 167 (by decide +kernel) rfl
theorem wm_X6_287 : Cond.methodLink RX6 287 yJx4a65c_get_915e3 ∈ AL := al_at 239 (by decide +kernel) rfl
theorem wm_L_158 : Cond.methodLink RL 158 yX8_owed ∈ AL := al_at 1275 (by decide +kernel) rfl
theorem wi_X8_owed : Cond.instanceMethod yX8_owed ∈ AL := al_at 1276 (by decide +kernel) rfl
theorem wl_X8_owed : Cond.selects RX8 yX8_owed yX8_owed ∈ AL := al_at 1277 (by decide +kernel) rfl
theorem wc_X8_owed : Cond.code yX8_owed cX8_owed 3 (some .int) ∈ AL := al_at 1278 (by decide +kernel) rfl
theorem wm_L_159 : Cond.methodLink RL 159 yL_many ∈ AL := al_at 986 (by decide +kernel) rfl
theorem wt_L_many : Cond.static yL_many ∈ AL := al_at 987 (by decide +kernel) rfl
theorem wx_L_many : Cond.codeWith yL_many cL_many 4 (some .int) [(0, 9, 12, 15)] ∈ AL := al_at 988 (by decide +kernel) rfl
theorem wm_L_76 : Cond.methodLink RL 76 yX6_many ∈ AL := al_at 989 (by decide +kernel) rfl
theorem wi_X6_many : Cond.instanceMethod yX6_many ∈ AL := al_at 248 (by decide +kernel) rfl
theorem wl_X6_many : Cond.selects RX6 yX6_many yX6_many ∈ AL := al_at 249 (by decide +kernel) rfl
theorem wc_X6_many : Cond.code yX6_many cX6_many 2 (some .int) ∈ AL := al_at 250 (by decide +kernel) rfl
theorem wm_X6_297 : Cond.methodLink RX6 297 yX3_uncutAcres ∈ AL := al_at 211 (by decide +kernel) rfl
theorem wi_X3_uncutAcres : Cond.instanceMethod yX3_uncutAcres ∈ AL := al_at 212 (by decide +kernel) rfl
theorem wl_X3_uncutAcres : Cond.selects RX3 yX3_uncutAcres yX3_uncutAcres ∈ AL := al_at 213 (by decide +kernel) rfl
theorem wc_X3_uncutAcres : Cond.code yX3_uncutAcres cX3_uncutAcres 3 (some .int) ∈ AL := al_at 214 (by decide +kernel) rfl
theorem wm_X3_199 : Cond.methodLink RX3 199 yX2_uncut ∈ AL := al_at 234 (by decide +kernel) rfl
theorem wm_X6_300 : Cond.methodLink RX6 300 yX3_brokenCombines ∈ AL := al_at 322 (by decide +kernel) rfl
theorem wi_X3_brokenCombines : Cond.instanceMethod yX3_brokenCombines ∈ AL := al_at 323 (by decide +kernel) rfl
theorem wl_X3_brokenCombines : Cond.selects RX3 yX3_brokenCombines yX3_brokenCombines ∈ AL := al_at 324 (by decide +kernel) rfl
theorem wc_X3_brokenCombines : Cond.code yX3_brokenCombines cX3_brokenCombines 3 (some .int) ∈ AL := al_at 325 (by decide +kernel) rfl
theorem wf_X3_202 : Cond.fieldLink RX3 202 "WheatRun$Combine" "isBroken" "Z" ∈ AL := al_at 542 (by decide +kernel) rfl
theorem wm_X6_303 : Cond.methodLink RX6 303 yX3_allRoom ∈ AL := al_at 327 (by decide +kernel) rfl
theorem wi_X3_allRoom : Cond.instanceMethod yX3_allRoom ∈ AL := al_at 328 (by decide +kernel) rfl
theorem wl_X3_allRoom : Cond.selects RX3 yX3_allRoom yX3_allRoom ∈ AL := al_at 329 (by decide +kernel) rfl
theorem wc_X3_allRoom : Cond.code yX3_allRoom cX3_allRoom 3 (some .int) ∈ AL := al_at 330 (by decide +kernel) rfl
theorem wm_X6_306 : Cond.methodLink RX6 306 yX3_allOnTheWay ∈ AL := al_at 332 (by decide +kernel) rfl
theorem wi_X3_allOnTheWay : Cond.instanceMethod yX3_allOnTheWay ∈ AL := al_at 333 (by decide +kernel) rfl
theorem wl_X3_allOnTheWay : Cond.selects RX3 yX3_allOnTheWay yX3_allOnTheWay ∈ AL := al_at 334 (by decide +kernel) rfl
theorem wc_X3_allOnTheWay : Cond.code yX3_allOnTheWay cX3_allOnTheWay 3 (some .int) ∈ AL := al_at 335 (by decide +kernel) rfl
theorem wm_X6_309 : Cond.methodLink RX6 309 yX3_allIdle ∈ AL := al_at 337 (by decide +kernel) rfl
theorem wi_X3_allIdle : Cond.instanceMethod yX3_allIdle ∈ AL := al_at 338 (by decide +kernel) rfl
theorem wl_X3_allIdle : Cond.selects RX3 yX3_allIdle yX3_allIdle ∈ AL := al_at 339 (by decide +kernel) rfl
theorem wc_X3_allIdle : Cond.code yX3_allIdle cX3_allIdle 3 (some .int) ∈ AL := al_at 340 (by decide +kernel) rfl
theorem wf_X3_205 : Cond.fieldLink RX3 205 "WheatRun$Combine" "idle" "I" ∈ AL := al_at 545 (by decide +kernel) rfl
theorem wm_X6_312 : Cond.methodLink RX6 312 yX3_allQueued ∈ AL := al_at 341 (by decide +kernel) rfl
theorem wi_X3_allQueued : Cond.instanceMethod yX3_allQueued ∈ AL := al_at 342 (by decide +kernel) rfl
theorem wl_X3_allQueued : Cond.selects RX3 yX3_allQueued yX3_allQueued ∈ AL := al_at 343 (by decide +kernel) rfl
theorem wc_X3_allQueued : Cond.code yX3_allQueued cX3_allQueued 3 (some .int) ∈ AL := al_at 344 (by decide +kernel) rfl
theorem wm_L_161 : Cond.methodLink RL 161 yX8_many ∈ AL := al_at 1279 (by decide +kernel) rfl
theorem wi_X8_many : Cond.instanceMethod yX8_many ∈ AL := al_at 1280 (by decide +kernel) rfl
theorem wl_X8_many : Cond.selects RX8 yX8_many yX8_many ∈ AL := al_at 1281 (by decide +kernel) rfl
theorem wc_X8_many : Cond.code yX8_many cX8_many 2 (some .int) ∈ AL := al_at 1282 (by decide +kernel) rfl
theorem wm_X8_145 : Cond.methodLink RX8 145 yX8_manyNow ∈ AL := al_at 1283 (by decide +kernel) rfl
theorem wi_X8_manyNow : Cond.instanceMethod yX8_manyNow ∈ AL := al_at 1285 (by decide +kernel) rfl
theorem wl_X8_manyNow : Cond.selects RX8 yX8_manyNow yX8_manyNow ∈ AL := al_at 31 (by decide +kernel) rfl
theorem wc_X8_manyNow : Cond.code yX8_manyNow cX8_manyNow 8 (some .int) ∈ AL := al_at 1286 (by decide +kernel) rfl
theorem wm_L_162 : Cond.methodLink RL 162 yX6_meanDamp ∈ AL := al_at 207 (by decide +kernel) rfl
theorem wi_X6_meanDamp : Cond.instanceMethod yX6_meanDamp ∈ AL := al_at 208 (by decide +kernel) rfl
theorem wl_X6_meanDamp : Cond.selects RX6 yX6_meanDamp yX6_meanDamp ∈ AL := al_at 209 (by decide +kernel) rfl
theorem wc_X6_meanDamp : Cond.code yX6_meanDamp cX6_meanDamp 5 (some .double) ∈ AL := al_at 210 (by decide +kernel) rfl
theorem wm_X6_315 : Cond.methodLink RX6 315 yX2_uncut ∈ AL := al_at 240 (by decide +kernel) rfl
theorem wm_L_166 : Cond.methodLink RL 166 yX8_meanDamp ∈ AL := al_at 1287 (by decide +kernel) rfl
theorem wi_X8_meanDamp : Cond.instanceMethod yX8_meanDamp ∈ AL := al_at 1288 (by decide +kernel) rfl
theorem wl_X8_meanDamp : Cond.selects RX8 yX8_meanDamp yX8_meanDamp ∈ AL := al_at 1289 (by decide +kernel) rfl
theorem wc_X8_meanDamp : Cond.code yX8_meanDamp cX8_meanDamp 5 (some .double) ∈ AL := al_at 1290 (by decide +kernel) rfl
theorem wm_L_167 : Cond.methodLink RL 167 yL_readyIn ∈ AL := al_at 990 (by decide +kernel) rfl
theorem wt_L_readyIn : Cond.static yL_readyIn ∈ AL := al_at 991 (by decide +kernel) rfl
theorem wx_L_readyIn : Cond.codeWith yL_readyIn cL_readyIn 6 (some .int) [(0, 12, 15, 13), (0, 12, 19, 15)] ∈ AL := al_at 992 (by decide +kernel) rfl
theorem wm_L_79 : Cond.methodLink RL 79 yX6_readyIn ∈ AL := al_at 993 (by decide +kernel) rfl
theorem wi_X6_readyIn : Cond.instanceMethod yX6_readyIn ∈ AL := al_at 382 (by decide +kernel) rfl
theorem wl_X6_readyIn : Cond.selects RX6 yX6_readyIn yX6_readyIn ∈ AL := al_at 383 (by decide +kernel) rfl
theorem wc_X6_readyIn : Cond.code yX6_readyIn cX6_readyIn 7 (some .int) ∈ AL := al_at 384 (by decide +kernel) rfl
theorem wm_X6_323 : Cond.methodLink RX6 323 yX2_copyFrom ∈ AL := al_at 389 (by decide +kernel) rfl
theorem wi_X2_copyFrom : Cond.instanceMethod yX2_copyFrom ∈ AL := al_at 390 (by decide +kernel) rfl
theorem wl_X2_copyFrom : Cond.selects RX2 yX2_copyFrom yX2_copyFrom ∈ AL := al_at 391 (by decide +kernel) rfl
theorem wc_X2_copyFrom : Cond.code yX2_copyFrom cX2_copyFrom 2 none ∈ AL := al_at 392 (by decide +kernel) rfl
theorem wm_X6_327 : Cond.methodLink RX6 327 yX3_clock ∈ AL := al_at 393 (by decide +kernel) rfl
theorem wm_X6_330 : Cond.methodLink RX6 330 yX2_isFit ∈ AL := al_at 397 (by decide +kernel) rfl
theorem wm_X6_334 : Cond.methodLink RX6 334 yX2_passHour ∈ AL := al_at 401 (by decide +kernel) rfl
theorem wm_L_169 : Cond.methodLink RL 169 yX8_readyIn ∈ AL := al_at 1291 (by decide +kernel) rfl
theorem wi_X8_readyIn : Cond.instanceMethod yX8_readyIn ∈ AL := al_at 1292 (by decide +kernel) rfl
theorem wl_X8_readyIn : Cond.selects RX8 yX8_readyIn yX8_readyIn ∈ AL := al_at 1293 (by decide +kernel) rfl
theorem wc_X8_readyIn : Cond.code yX8_readyIn cX8_readyIn 4 (some .int) ∈ AL := al_at 1294 (by decide +kernel) rfl
theorem wm_X8_152 : Cond.methodLink RX8 152 yX8_readyNow ∈ AL := al_at 1295 (by decide +kernel) rfl
theorem wi_X8_readyNow : Cond.instanceMethod yX8_readyNow ∈ AL := al_at 1297 (by decide +kernel) rfl
theorem wl_X8_readyNow : Cond.selects RX8 yX8_readyNow yX8_readyNow ∈ AL := al_at 32 (by decide +kernel) rfl
theorem wc_X8_readyNow : Cond.code yX8_readyNow cX8_readyNow 7 (some .int) ∈ AL := al_at 1298 (by decide +kernel) rfl
theorem wm_X8_148 : Cond.methodLink RX8 148 yX7_ripen ∈ AL := al_at 1299 (by decide +kernel) rfl
theorem wm_L_170 : Cond.methodLink RL 170 yL_nextField ∈ AL := al_at 994 (by decide +kernel) rfl
theorem wt_L_nextField : Cond.static yL_nextField ∈ AL := al_at 995 (by decide +kernel) rfl
theorem wx_L_nextField : Cond.codeWith yL_nextField cL_nextField 7 (some .int) [(0, 14, 17, 13), (0, 14, 21, 15)] ∈ AL := al_at 996 (by decide +kernel) rfl
theorem wm_L_82 : Cond.methodLink RL 82 yX6_nextField ∈ AL := al_at 997 (by decide +kernel) rfl
theorem wi_X6_nextField : Cond.instanceMethod yX6_nextField ∈ AL := al_at 445 (by decide +kernel) rfl
theorem wl_X6_nextField : Cond.selects RX6 yX6_nextField yX6_nextField ∈ AL := al_at 446 (by decide +kernel) rfl
theorem wc_X6_nextField : Cond.code yX6_nextField cX6_nextField 11 (some .int) ∈ AL := al_at 447 (by decide +kernel) rfl
theorem wm_X6_339 : Cond.methodLink RX6 339 yX6_bushelsIfSent ∈ AL := al_at 449 (by decide +kernel) rfl
theorem wi_X6_bushelsIfSent : Cond.instanceMethod yX6_bushelsIfSent ∈ AL := al_at 451 (by decide +kernel) rfl
theorem wl_X6_bushelsIfSent : Cond.selects RX6 yX6_bushelsIfSent yX6_bushelsIfSent ∈ AL := al_at 4 (by decide +kernel) rfl
theorem wc_X6_bushelsIfSent : Cond.code yX6_bushelsIfSent cX6_bushelsIfSent 9 (some .int) ∈ AL := al_at 452 (by decide +kernel) rfl
theorem wf_X6_386 : Cond.fieldLink RX6 386 "WheatRun$Combine" "bushelsCut" "I" ∈ AL := al_at 552 (by decide +kernel) rfl
theorem wm_X6_383 : Cond.methodLink RX6 383 yX3_copyFrom ∈ AL := al_at 453 (by decide +kernel) rfl
theorem wi_X3_copyFrom : Cond.instanceMethod yX3_copyFrom ∈ AL := al_at 454 (by decide +kernel) rfl
theorem wl_X3_copyFrom : Cond.selects RX3 yX3_copyFrom yX3_copyFrom ∈ AL := al_at 455 (by decide +kernel) rfl
theorem wc_X3_copyFrom : Cond.code yX3_copyFrom cX3_copyFrom 3 none ∈ AL := al_at 456 (by decide +kernel) rfl
theorem wm_X3_44 : Cond.methodLink RX3 44 yX3_addRowsAs ∈ AL := al_at 457 (by decide +kernel) rfl
theorem wi_X3_addRowsAs : Cond.instanceMethod yX3_addRowsAs ∈ AL := al_at 459 (by decide +kernel) rfl
theorem wl_X3_addRowsAs : Cond.selects RX3 yX3_addRowsAs yX3_addRowsAs ∈ AL := al_at 5 (by decide +kernel) rfl
theorem wc_X3_addRowsAs : Cond.code yX3_addRowsAs cX3_addRowsAs 3 none ∈ AL := al_at 460 (by decide +kernel) rfl
theorem wm_X3_77 : Cond.methodLink RX3 77 yX2_init ∈ AL := al_at 461 (by decide +kernel) rfl
theorem wm_X3_84 : Cond.methodLink RX3 84 yX0_init ∈ AL := al_at 519 (by decide +kernel) rfl
theorem wm_X3_87 : Cond.methodLink RX3 87 yX5_init ∈ AL := al_at 579 (by decide +kernel) rfl
theorem wm_X3_90 : Cond.methodLink RX3 90 yX1_init ∈ AL := al_at 638 (by decide +kernel) rfl
theorem wm_X3_58 : Cond.methodLink RX3 58 yX2_copyFrom ∈ AL := al_at 665 (by decide +kernel) rfl
theorem wm_X3_64 : Cond.methodLink RX3 64 yX0_copyFrom ∈ AL := al_at 666 (by decide +kernel) rfl
theorem wi_X0_copyFrom : Cond.instanceMethod yX0_copyFrom ∈ AL := al_at 667 (by decide +kernel) rfl
theorem wl_X0_copyFrom : Cond.selects RX0 yX0_copyFrom yX0_copyFrom ∈ AL := al_at 668 (by decide +kernel) rfl
theorem wc_X0_copyFrom : Cond.code yX0_copyFrom cX0_copyFrom 2 none ∈ AL := al_at 669 (by decide +kernel) rfl
theorem wm_X3_69 : Cond.methodLink RX3 69 yX5_copyFrom ∈ AL := al_at 670 (by decide +kernel) rfl
theorem wi_X5_copyFrom : Cond.instanceMethod yX5_copyFrom ∈ AL := al_at 671 (by decide +kernel) rfl
theorem wl_X5_copyFrom : Cond.selects RX5 yX5_copyFrom yX5_copyFrom ∈ AL := al_at 672 (by decide +kernel) rfl
theorem wc_X5_copyFrom : Cond.code yX5_copyFrom cX5_copyFrom 2 none ∈ AL := al_at 673 (by decide +kernel) rfl
theorem wf_X5_36 : Cond.fieldLink RX5 36 "WheatRun$Truck" "queued" "I" ∈ AL := al_at 604 (by decide +kernel) rfl
theorem wm_X3_74 : Cond.methodLink RX3 74 yX1_copyFrom ∈ AL := al_at 674 (by decide +kernel) rfl
theorem wi_X1_copyFrom : Cond.instanceMethod yX1_copyFrom ∈ AL := al_at 675 (by decide +kernel) rfl
theorem wl_X1_copyFrom : Cond.selects RX1 yX1_copyFrom yX1_copyFrom ∈ AL := al_at 676 (by decide +kernel) rfl
theorem wc_X1_copyFrom : Cond.code yX1_copyFrom cX1_copyFrom 2 none ∈ AL := al_at 677 (by decide +kernel) rfl
theorem wm_L_172 : Cond.methodLink RL 172 yX8_nextField ∈ AL := al_at 1300 (by decide +kernel) rfl
theorem wi_X8_nextField : Cond.instanceMethod yX8_nextField ∈ AL := al_at 1301 (by decide +kernel) rfl
theorem wl_X8_nextField : Cond.selects RX8 yX8_nextField yX8_nextField ∈ AL := al_at 1302 (by decide +kernel) rfl
theorem wc_X8_nextField : Cond.code yX8_nextField cX8_nextField 5 (some .int) ∈ AL := al_at 1303 (by decide +kernel) rfl
theorem wm_X8_159 : Cond.methodLink RX8 159 yX8_nextNow ∈ AL := al_at 1304 (by decide +kernel) rfl
theorem wi_X8_nextNow : Cond.instanceMethod yX8_nextNow ∈ AL := al_at 1306 (by decide +kernel) rfl
theorem wl_X8_nextNow : Cond.selects RX8 yX8_nextNow yX8_nextNow ∈ AL := al_at 33 (by decide +kernel) rfl
theorem wc_X8_nextNow : Cond.code yX8_nextNow cX8_nextNow 11 (some .int) ∈ AL := al_at 1307 (by decide +kernel) rfl
theorem wm_X8_155 : Cond.methodLink RX8 155 yX7_copy ∈ AL := al_at 1308 (by decide +kernel) rfl
theorem wi_X7_copy : Cond.instanceMethod yX7_copy ∈ AL := al_at 1309 (by decide +kernel) rfl
theorem wl_X7_copy : Cond.selects RX7 yX7_copy yX7_copy ∈ AL := al_at 1310 (by decide +kernel) rfl
theorem wc_X7_copy : Cond.code yX7_copy cX7_copy 3 (some (.object "WheatRunModel$Land")) ∈ AL := al_at 1311 (by decide +kernel) rfl
theorem wk_X7_12 : Cond.classLink RX7 12 RX7 ∈ AL := al_at 1312 (by decide +kernel) rfl
theorem wm_X7_37 : Cond.methodLink RX7 37 arraycopyName ∈ AL := al_at 1314 (by decide +kernel) rfl
theorem wf_X7_49 : Cond.fieldLink RX7 49 "WheatRunModel$Land" "elevatorCount" "I" ∈ AL := al_at 1036 (by decide +kernel) rfl
theorem wm_X7_32 : Cond.methodLink RX7 32 yX7_init ∈ AL := al_at 1313 (by decide +kernel) rfl
theorem wm_L_173 : Cond.methodLink RL 173 yL_waiting ∈ AL := al_at 998 (by decide +kernel) rfl
theorem wt_L_waiting : Cond.static yL_waiting ∈ AL := al_at 999 (by decide +kernel) rfl
theorem wx_L_waiting : Cond.codeWith yL_waiting cL_waiting 8 (some .int) [(0, 16, 19, 13), (0, 16, 23, 15)] ∈ AL := al_at 1000 (by decide +kernel) rfl
theorem wm_L_85 : Cond.methodLink RL 85 yX6_waiting ∈ AL := al_at 1001 (by decide +kernel) rfl
theorem wi_X6_waiting : Cond.instanceMethod yX6_waiting ∈ AL := al_at 424 (by decide +kernel) rfl
theorem wl_X6_waiting : Cond.selects RX6 yX6_waiting yX6_waiting ∈ AL := al_at 425 (by decide +kernel) rfl
theorem wc_X6_waiting : Cond.code yX6_waiting cX6_waiting 8 (some .int) ∈ AL := al_at 426 (by decide +kernel) rfl
theorem wm_X6_343 : Cond.methodLink RX6 343 yX2_brings ∈ AL := al_at 431 (by decide +kernel) rfl
theorem wm_L_175 : Cond.methodLink RL 175 yX8_waiting ∈ AL := al_at 1315 (by decide +kernel) rfl
theorem wi_X8_waiting : Cond.instanceMethod yX8_waiting ∈ AL := al_at 1316 (by decide +kernel) rfl
theorem wl_X8_waiting : Cond.selects RX8 yX8_waiting yX8_waiting ∈ AL := al_at 1317 (by decide +kernel) rfl
theorem wc_X8_waiting : Cond.code yX8_waiting cX8_waiting 6 (some .int) ∈ AL := al_at 1318 (by decide +kernel) rfl
theorem wm_X8_166 : Cond.methodLink RX8 166 yX8_waitingNow ∈ AL := al_at 1319 (by decide +kernel) rfl
theorem wi_X8_waitingNow : Cond.instanceMethod yX8_waitingNow ∈ AL := al_at 1321 (by decide +kernel) rfl
theorem wl_X8_waitingNow : Cond.selects RX8 yX8_waitingNow yX8_waitingNow ∈ AL := al_at 34 (by decide +kernel) rfl
theorem wc_X8_waitingNow : Cond.code yX8_waitingNow cX8_waitingNow 9 (some .int) ∈ AL := al_at 1322 (by decide +kernel) rfl
theorem wm_X8_162 : Cond.methodLink RX8 162 yX7_brings ∈ AL := al_at 1323 (by decide +kernel) rfl
theorem wm_L_176 : Cond.methodLink RL 176 yX6_digest ∈ AL := al_at 241 (by decide +kernel) rfl
theorem wi_X6_digest : Cond.instanceMethod yX6_digest ∈ AL := al_at 242 (by decide +kernel) rfl
theorem wl_X6_digest : Cond.selects RX6 yX6_digest yX6_digest ∈ AL := al_at 243 (by decide +kernel) rfl
theorem wc_X6_digest : Cond.code yX6_digest cX6_digest 5 (some .long) ∈ AL := al_at 244 (by decide +kernel) rfl
theorem wq_X6_346 : Cond.constantLong RX6 346 (7812) ∈ AL := al_at 245 (by decide +kernel) rfl
theorem wq_X6_348 : Cond.constantLong RX6 348 (31) ∈ AL := al_at 246 (by decide +kernel) rfl
theorem wm_X6_350 : Cond.methodLink RX6 350 yX6_many ∈ AL := al_at 247 (by decide +kernel) rfl
theorem wm_X6_353 : Cond.methodLink RX6 353 yX6_ofField ∈ AL := al_at 345 (by decide +kernel) rfl
theorem wm_X6_356 : Cond.methodLink RX6 356 yX6_readyIn ∈ AL := al_at 381 (by decide +kernel) rfl
theorem wm_X6_360 : Cond.methodLink RX6 360 yX6_waiting ∈ AL := al_at 423 (by decide +kernel) rfl
theorem wm_X6_363 : Cond.methodLink RX6 363 yX6_ofCombine ∈ AL := al_at 435 (by decide +kernel) rfl
theorem wm_X6_366 : Cond.methodLink RX6 366 yX6_nextField ∈ AL := al_at 444 (by decide +kernel) rfl
theorem wm_X6_370 : Cond.methodLink RX6 370 yX6_ofTruck ∈ AL := al_at 809 (by decide +kernel) rfl
theorem wm_X6_373 : Cond.methodLink RX6 373 yX6_ofTicket ∈ AL := al_at 818 (by decide +kernel) rfl
theorem wm_X6_376 : Cond.methodLink RX6 376 yX6_owed ∈ AL := al_at 827 (by decide +kernel) rfl
theorem wm_L_180 : Cond.methodLink RL 180 yX8_digest ∈ AL := al_at 1324 (by decide +kernel) rfl
theorem wi_X8_digest : Cond.instanceMethod yX8_digest ∈ AL := al_at 1325 (by decide +kernel) rfl
theorem wl_X8_digest : Cond.selects RX8 yX8_digest yX8_digest ∈ AL := al_at 1326 (by decide +kernel) rfl
theorem wc_X8_digest : Cond.code yX8_digest cX8_digest 5 (some .long) ∈ AL := al_at 1327 (by decide +kernel) rfl
theorem wq_X8_170 : Cond.constantLong RX8 170 (7812) ∈ AL := al_at 1328 (by decide +kernel) rfl
theorem wq_X8_172 : Cond.constantLong RX8 172 (31) ∈ AL := al_at 1329 (by decide +kernel) rfl
end
section
theorem dX0_init_0 : decode cX0_init 0 = .ok (.aload_n 0, 1) := by decide +kernel
theorem dX0_init_1 : decode cX0_init 1 = .ok (.invokespecial 3, 3) := by decide +kernel
theorem dX0_init_4 : decode cX0_init 4 = .ok (.aload_n 0, 1) := by decide +kernel
theorem dX0_init_5 : decode cX0_init 5 = .ok (.iconst (-1), 1) := by decide +kernel
theorem dX0_init_6 : decode cX0_init 6 = .ok (.putfield 9, 3) := by decide +kernel
theorem dX0_init_9 : decode cX0_init 9 = .ok (.aload_n 0, 1) := by decide +kernel
theorem dX0_init_10 : decode cX0_init 10 = .ok (.iconst (-1), 1) := by decide +kernel
theorem dX0_init_11 : decode cX0_init 11 = .ok (.putfield 15, 3) := by decide +kernel
theorem dX0_init_14 : decode cX0_init 14 = .ok (.aload_n 0, 1) := by decide +kernel
theorem dX0_init_15 : decode cX0_init 15 = .ok (.iload_n 1, 1) := by decide +kernel
theorem dX0_init_16 : decode cX0_init 16 = .ok (.putfield 18, 3) := by decide +kernel
theorem dX0_init_19 : decode cX0_init 19 = .ok (.aload_n 0, 1) := by decide +kernel
theorem dX0_init_20 : decode cX0_init 20 = .ok (.iload_n 2, 1) := by decide +kernel
theorem dX0_init_21 : decode cX0_init 21 = .ok (.putfield 21, 3) := by decide +kernel
theorem dX0_init_24 : decode cX0_init 24 = .ok (.aload_n 0, 1) := by decide +kernel
theorem dX0_init_25 : decode cX0_init 25 = .ok (.iload_n 3, 1) := by decide +kernel
theorem dX0_init_26 : decode cX0_init 26 = .ok (.putfield 24, 3) := by decide +kernel
theorem dX0_init_29 : decode cX0_init 29 = .ok (.return_, 1) := by decide +kernel
theorem dX0_copyFrom_0 : decode cX0_copyFrom 0 = .ok (.aload_n 0, 1) := by decide +kernel
theorem dX0_copyFrom_1 : decode cX0_copyFrom 1 = .ok (.aload_n 1, 1) := by decide +kernel
theorem dX0_copyFrom_2 : decode cX0_copyFrom 2 = .ok (.getfield 18, 3) := by decide +kernel
theorem dX0_copyFrom_5 : decode cX0_copyFrom 5 = .ok (.putfield 18, 3) := by decide +kernel
theorem dX0_copyFrom_8 : decode cX0_copyFrom 8 = .ok (.aload_n 0, 1) := by decide +kernel
theorem dX0_copyFrom_9 : decode cX0_copyFrom 9 = .ok (.aload_n 1, 1) := by decide +kernel
theorem dX0_copyFrom_10 : decode cX0_copyFrom 10 = .ok (.getfield 21, 3) := by decide +kernel
theorem dX0_copyFrom_13 : decode cX0_copyFrom 13 = .ok (.putfield 21, 3) := by decide +kernel
theorem dX0_copyFrom_16 : decode cX0_copyFrom 16 = .ok (.aload_n 0, 1) := by decide +kernel
theorem dX0_copyFrom_17 : decode cX0_copyFrom 17 = .ok (.aload_n 1, 1) := by decide +kernel
theorem dX0_copyFrom_18 : decode cX0_copyFrom 18 = .ok (.getfield 24, 3) := by decide +kernel
theorem dX0_copyFrom_21 : decode cX0_copyFrom 21 = .ok (.putfield 24, 3) := by decide +kernel
theorem dX0_copyFrom_24 : decode cX0_copyFrom 24 = .ok (.aload_n 0, 1) := by decide +kernel
theorem dX0_copyFrom_25 : decode cX0_copyFrom 25 = .ok (.aload_n 1, 1) := by decide +kernel
theorem dX0_copyFrom_26 : decode cX0_copyFrom 26 = .ok (.getfield 27, 3) := by decide +kernel
theorem dX0_copyFrom_29 : decode cX0_copyFrom 29 = .ok (.putfield 27, 3) := by decide +kernel
theorem dX0_copyFrom_32 : decode cX0_copyFrom 32 = .ok (.aload_n 0, 1) := by decide +kernel
theorem dX0_copyFrom_33 : decode cX0_copyFrom 33 = .ok (.aload_n 1, 1) := by decide +kernel
theorem dX0_copyFrom_34 : decode cX0_copyFrom 34 = .ok (.getfield 9, 3) := by decide +kernel
theorem dX0_copyFrom_37 : decode cX0_copyFrom 37 = .ok (.putfield 9, 3) := by decide +kernel
theorem dX0_copyFrom_40 : decode cX0_copyFrom 40 = .ok (.aload_n 0, 1) := by decide +kernel
theorem dX0_copyFrom_41 : decode cX0_copyFrom 41 = .ok (.aload_n 1, 1) := by decide +kernel
theorem dX0_copyFrom_42 : decode cX0_copyFrom 42 = .ok (.getfield 30, 3) := by decide +kernel
theorem dX0_copyFrom_45 : decode cX0_copyFrom 45 = .ok (.putfield 30, 3) := by decide +kernel
theorem dX0_copyFrom_48 : decode cX0_copyFrom 48 = .ok (.aload_n 0, 1) := by decide +kernel
theorem dX0_copyFrom_49 : decode cX0_copyFrom 49 = .ok (.aload_n 1, 1) := by decide +kernel
theorem dX0_copyFrom_50 : decode cX0_copyFrom 50 = .ok (.getfield 33, 3) := by decide +kernel
theorem dX0_copyFrom_53 : decode cX0_copyFrom 53 = .ok (.putfield 33, 3) := by decide +kernel
theorem dX0_copyFrom_56 : decode cX0_copyFrom 56 = .ok (.aload_n 0, 1) := by decide +kernel
theorem dX0_copyFrom_57 : decode cX0_copyFrom 57 = .ok (.aload_n 1, 1) := by decide +kernel
theorem dX0_copyFrom_58 : decode cX0_copyFrom 58 = .ok (.getfield 36, 3) := by decide +kernel
theorem dX0_copyFrom_61 : decode cX0_copyFrom 61 = .ok (.putfield 36, 3) := by decide +kernel
theorem dX0_copyFrom_64 : decode cX0_copyFrom 64 = .ok (.aload_n 0, 1) := by decide +kernel
theorem dX0_copyFrom_65 : decode cX0_copyFrom 65 = .ok (.aload_n 1, 1) := by decide +kernel
theorem dX0_copyFrom_66 : decode cX0_copyFrom 66 = .ok (.getfield 40, 3) := by decide +kernel
theorem dX0_copyFrom_69 : decode cX0_copyFrom 69 = .ok (.putfield 40, 3) := by decide +kernel
theorem dX0_copyFrom_72 : decode cX0_copyFrom 72 = .ok (.aload_n 0, 1) := by decide +kernel
theorem dX0_copyFrom_73 : decode cX0_copyFrom 73 = .ok (.aload_n 1, 1) := by decide +kernel
theorem dX0_copyFrom_74 : decode cX0_copyFrom 74 = .ok (.getfield 15, 3) := by decide +kernel
theorem dX0_copyFrom_77 : decode cX0_copyFrom 77 = .ok (.putfield 15, 3) := by decide +kernel
theorem dX0_copyFrom_80 : decode cX0_copyFrom 80 = .ok (.aload_n 0, 1) := by decide +kernel
theorem dX0_copyFrom_81 : decode cX0_copyFrom 81 = .ok (.aload_n 1, 1) := by decide +kernel
theorem dX0_copyFrom_82 : decode cX0_copyFrom 82 = .ok (.getfield 43, 3) := by decide +kernel
theorem dX0_copyFrom_85 : decode cX0_copyFrom 85 = .ok (.putfield 43, 3) := by decide +kernel
theorem dX0_copyFrom_88 : decode cX0_copyFrom 88 = .ok (.aload_n 0, 1) := by decide +kernel
theorem dX0_copyFrom_89 : decode cX0_copyFrom 89 = .ok (.aload_n 1, 1) := by decide +kernel
theorem dX0_copyFrom_90 : decode cX0_copyFrom 90 = .ok (.getfield 46, 3) := by decide +kernel
theorem dX0_copyFrom_93 : decode cX0_copyFrom 93 = .ok (.putfield 46, 3) := by decide +kernel
theorem dX0_copyFrom_96 : decode cX0_copyFrom 96 = .ok (.return_, 1) := by decide +kernel
theorem dX0_passHour_0 : decode cX0_passHour 0 = .ok (.aload_n 0, 1) := by decide +kernel
theorem dX0_passHour_1 : decode cX0_passHour 1 = .ok (.getfield 36, 3) := by decide +kernel
theorem dX0_passHour_4 : decode cX0_passHour 4 = .ok (.ifCond .ne 7, 3) := by decide +kernel
theorem dX0_passHour_7 : decode cX0_passHour 7 = .ok (.aload_n 1, 1) := by decide +kernel
theorem dX0_passHour_8 : decode cX0_passHour 8 = .ok (.ifnonnull 4, 3) := by decide +kernel
theorem dX0_passHour_11 : decode cX0_passHour 11 = .ok (.return_, 1) := by decide +kernel
theorem dX0_passHour_12 : decode cX0_passHour 12 = .ok (.aload_n 0, 1) := by decide +kernel
theorem dX0_passHour_13 : decode cX0_passHour 13 = .ok (.getfield 21, 3) := by decide +kernel
theorem dX0_passHour_16 : decode cX0_passHour 16 = .ok (.aload_n 1, 1) := by decide +kernel
theorem dX0_passHour_17 : decode cX0_passHour 17 = .ok (.getfield 49, 3) := by decide +kernel
theorem dX0_passHour_20 : decode cX0_passHour 20 = .ok (.if_icmp .eq 21, 3) := by decide +kernel
theorem dX0_passHour_23 : decode cX0_passHour 23 = .ok (.aload_n 0, 1) := by decide +kernel
theorem dX0_passHour_24 : decode cX0_passHour 24 = .ok (.aload_n 0, 1) := by decide +kernel
theorem dX0_passHour_25 : decode cX0_passHour 25 = .ok (.getfield 21, 3) := by decide +kernel
theorem dX0_passHour_28 : decode cX0_passHour 28 = .ok (.aload_n 1, 1) := by decide +kernel
theorem dX0_passHour_29 : decode cX0_passHour 29 = .ok (.getfield 49, 3) := by decide +kernel
theorem dX0_passHour_32 : decode cX0_passHour 32 = .ok (.bipush 20, 2) := by decide +kernel
theorem dX0_passHour_34 : decode cX0_passHour 34 = .ok (.invokestatic 52, 3) := by decide +kernel
theorem dX0_passHour_37 : decode cX0_passHour 37 = .ok (.putfield 21, 3) := by decide +kernel
theorem dX0_passHour_40 : decode cX0_passHour 40 = .ok (.return_, 1) := by decide +kernel
theorem dX0_passHour_41 : decode cX0_passHour 41 = .ok (.aload_n 0, 1) := by decide +kernel
theorem dX0_passHour_42 : decode cX0_passHour 42 = .ok (.aload_n 1, 1) := by decide +kernel
theorem dX0_passHour_43 : decode cX0_passHour 43 = .ok (.invokevirtual 56, 3) := by decide +kernel
theorem dX0_passHour_46 : decode cX0_passHour 46 = .ok (.istore 4, 2) := by decide +kernel
theorem dX0_passHour_48 : decode cX0_passHour 48 = .ok (.iload_n 3, 1) := by decide +kernel
theorem dX0_passHour_49 : decode cX0_passHour 49 = .ok (.ifCond .gt 23, 3) := by decide +kernel
theorem dX0_passHour_52 : decode cX0_passHour 52 = .ok (.aload_n 1, 1) := by decide +kernel
theorem dX0_passHour_53 : decode cX0_passHour 53 = .ok (.iload_n 2, 1) := by decide +kernel
theorem dX0_passHour_54 : decode cX0_passHour 54 = .ok (.invokevirtual 60, 3) := by decide +kernel
theorem dX0_passHour_57 : decode cX0_passHour 57 = .ok (.ifCond .eq 15, 3) := by decide +kernel
theorem dX0_passHour_60 : decode cX0_passHour 60 = .ok (.aload_n 0, 1) := by decide +kernel
theorem dX0_passHour_61 : decode cX0_passHour 61 = .ok (.invokevirtual 64, 3) := by decide +kernel
theorem dX0_passHour_64 : decode cX0_passHour 64 = .ok (.ifCond .ne 8, 3) := by decide +kernel
theorem dX0_passHour_67 : decode cX0_passHour 67 = .ok (.iload 4, 2) := by decide +kernel
theorem dX0_passHour_69 : decode cX0_passHour 69 = .ok (.ifCond .ne 16, 3) := by decide +kernel
theorem dX0_passHour_72 : decode cX0_passHour 72 = .ok (.aload_n 0, 1) := by decide +kernel
theorem dX0_passHour_73 : decode cX0_passHour 73 = .ok (.dup, 1) := by decide +kernel
theorem dX0_passHour_74 : decode cX0_passHour 74 = .ok (.getfield 40, 3) := by decide +kernel
theorem dX0_passHour_77 : decode cX0_passHour 77 = .ok (.iconst 1, 1) := by decide +kernel
theorem dX0_passHour_78 : decode cX0_passHour 78 = .ok (.iadd, 1) := by decide +kernel
theorem dX0_passHour_79 : decode cX0_passHour 79 = .ok (.putfield 40, 3) := by decide +kernel
theorem dX0_passHour_82 : decode cX0_passHour 82 = .ok (.goto 10, 3) := by decide +kernel
theorem dX0_passHour_85 : decode cX0_passHour 85 = .ok (.aload_n 0, 1) := by decide +kernel
theorem dX0_passHour_86 : decode cX0_passHour 86 = .ok (.aload_n 1, 1) := by decide +kernel
theorem dX0_passHour_87 : decode cX0_passHour 87 = .ok (.iload 4, 2) := by decide +kernel
theorem dX0_passHour_89 : decode cX0_passHour 89 = .ok (.invokevirtual 68, 3) := by decide +kernel
theorem dX0_passHour_92 : decode cX0_passHour 92 = .ok (.return_, 1) := by decide +kernel
theorem dX0_holdsAnother_0 : decode cX0_holdsAnother 0 = .ok (.aload_n 0, 1) := by decide +kernel
theorem dX0_holdsAnother_1 : decode cX0_holdsAnother 1 = .ok (.getfield 27, 3) := by decide +kernel
theorem dX0_holdsAnother_4 : decode cX0_holdsAnother 4 = .ok (.ifCond .le 18, 3) := by decide +kernel
theorem dX0_holdsAnother_7 : decode cX0_holdsAnother 7 = .ok (.aload_n 0, 1) := by decide +kernel
theorem dX0_holdsAnother_8 : decode cX0_holdsAnother 8 = .ok (.getfield 9, 3) := by decide +kernel
theorem dX0_holdsAnother_11 : decode cX0_holdsAnother 11 = .ok (.aload_n 0, 1) := by decide +kernel
theorem dX0_holdsAnother_12 : decode cX0_holdsAnother 12 = .ok (.getfield 15, 3) := by decide +kernel
theorem dX0_holdsAnother_15 : decode cX0_holdsAnother 15 = .ok (.if_icmp .eq 7, 3) := by decide +kernel
theorem dX0_holdsAnother_18 : decode cX0_holdsAnother 18 = .ok (.iconst 1, 1) := by decide +kernel
theorem dX0_holdsAnother_19 : decode cX0_holdsAnother 19 = .ok (.goto 4, 3) := by decide +kernel
theorem dX0_holdsAnother_22 : decode cX0_holdsAnother 22 = .ok (.iconst 0, 1) := by decide +kernel
theorem dX0_holdsAnother_23 : decode cX0_holdsAnother 23 = .ok (.ireturn, 1) := by decide +kernel
theorem dX0_acresAtOnce_0 : decode cX0_acresAtOnce 0 = .ok (.aload_n 0, 1) := by decide +kernel
theorem dX0_acresAtOnce_1 : decode cX0_acresAtOnce 1 = .ok (.getfield 24, 3) := by decide +kernel
theorem dX0_acresAtOnce_4 : decode cX0_acresAtOnce 4 = .ok (.aload_n 1, 1) := by decide +kernel
theorem dX0_acresAtOnce_5 : decode cX0_acresAtOnce 5 = .ok (.invokevirtual 72, 3) := by decide +kernel
theorem dX0_acresAtOnce_8 : decode cX0_acresAtOnce 8 = .ok (.invokestatic 76, 3) := by decide +kernel
theorem dX0_acresAtOnce_11 : decode cX0_acresAtOnce 11 = .ok (.istore_n 2, 1) := by decide +kernel
theorem dX0_acresAtOnce_12 : decode cX0_acresAtOnce 12 = .ok (.aload_n 1, 1) := by decide +kernel
theorem dX0_acresAtOnce_13 : decode cX0_acresAtOnce 13 = .ok (.invokevirtual 82, 3) := by decide +kernel
theorem dX0_acresAtOnce_16 : decode cX0_acresAtOnce 16 = .ok (.istore_n 3, 1) := by decide +kernel
theorem dX0_acresAtOnce_17 : decode cX0_acresAtOnce 17 = .ok (.iload_n 3, 1) := by decide +kernel
theorem dX0_acresAtOnce_18 : decode cX0_acresAtOnce 18 = .ok (.ifCond .le 20, 3) := by decide +kernel
theorem dX0_acresAtOnce_21 : decode cX0_acresAtOnce 21 = .ok (.iload_n 2, 1) := by decide +kernel
theorem dX0_acresAtOnce_22 : decode cX0_acresAtOnce 22 = .ok (.sipush 400, 3) := by decide +kernel
theorem dX0_acresAtOnce_25 : decode cX0_acresAtOnce 25 = .ok (.aload_n 0, 1) := by decide +kernel
theorem dX0_acresAtOnce_26 : decode cX0_acresAtOnce 26 = .ok (.getfield 27, 3) := by decide +kernel
theorem dX0_acresAtOnce_29 : decode cX0_acresAtOnce 29 = .ok (.isub, 1) := by decide +kernel
theorem dX0_acresAtOnce_30 : decode cX0_acresAtOnce 30 = .ok (.iload_n 3, 1) := by decide +kernel
theorem dX0_acresAtOnce_31 : decode cX0_acresAtOnce 31 = .ok (.idiv, 1) := by decide +kernel
theorem dX0_acresAtOnce_32 : decode cX0_acresAtOnce 32 = .ok (.invokestatic 76, 3) := by decide +kernel
theorem dX0_acresAtOnce_35 : decode cX0_acresAtOnce 35 = .ok (.goto 4, 3) := by decide +kernel
theorem dX0_acresAtOnce_38 : decode cX0_acresAtOnce 38 = .ok (.iload_n 2, 1) := by decide +kernel
theorem dX0_acresAtOnce_39 : decode cX0_acresAtOnce 39 = .ok (.ireturn, 1) := by decide +kernel
theorem dX0_harvest_0 : decode cX0_harvest 0 = .ok (.iload_n 2, 1) := by decide +kernel
theorem dX0_harvest_1 : decode cX0_harvest 1 = .ok (.aload_n 1, 1) := by decide +kernel
theorem dX0_harvest_2 : decode cX0_harvest 2 = .ok (.invokevirtual 82, 3) := by decide +kernel
theorem dX0_harvest_5 : decode cX0_harvest 5 = .ok (.imul, 1) := by decide +kernel
theorem dX0_harvest_6 : decode cX0_harvest 6 = .ok (.istore_n 3, 1) := by decide +kernel
theorem dX0_harvest_7 : decode cX0_harvest 7 = .ok (.aload_n 1, 1) := by decide +kernel
theorem dX0_harvest_8 : decode cX0_harvest 8 = .ok (.dup, 1) := by decide +kernel
theorem dX0_harvest_9 : decode cX0_harvest 9 = .ok (.getfield 85, 3) := by decide +kernel
theorem dX0_harvest_12 : decode cX0_harvest 12 = .ok (.iload_n 2, 1) := by decide +kernel
theorem dX0_harvest_13 : decode cX0_harvest 13 = .ok (.iadd, 1) := by decide +kernel
theorem dX0_harvest_14 : decode cX0_harvest 14 = .ok (.putfield 85, 3) := by decide +kernel
theorem dX0_harvest_17 : decode cX0_harvest 17 = .ok (.aload_n 1, 1) := by decide +kernel
theorem dX0_harvest_18 : decode cX0_harvest 18 = .ok (.dup, 1) := by decide +kernel
theorem dX0_harvest_19 : decode cX0_harvest 19 = .ok (.getfield 86, 3) := by decide +kernel
theorem dX0_harvest_22 : decode cX0_harvest 22 = .ok (.aload_n 0, 1) := by decide +kernel
theorem dX0_harvest_23 : decode cX0_harvest 23 = .ok (.iload_n 3, 1) := by decide +kernel
theorem dX0_harvest_24 : decode cX0_harvest 24 = .ok (.invokevirtual 89, 3) := by decide +kernel
theorem dX0_harvest_27 : decode cX0_harvest 27 = .ok (.iadd, 1) := by decide +kernel
theorem dX0_harvest_28 : decode cX0_harvest 28 = .ok (.putfield 86, 3) := by decide +kernel
theorem dX0_harvest_31 : decode cX0_harvest 31 = .ok (.iload_n 3, 1) := by decide +kernel
theorem dX0_harvest_32 : decode cX0_harvest 32 = .ok (.ifCond .le 50, 3) := by decide +kernel
theorem dX0_harvest_35 : decode cX0_harvest 35 = .ok (.aload_n 0, 1) := by decide +kernel
theorem dX0_harvest_36 : decode cX0_harvest 36 = .ok (.aload_n 0, 1) := by decide +kernel
theorem dX0_harvest_37 : decode cX0_harvest 37 = .ok (.getfield 27, 3) := by decide +kernel
theorem dX0_harvest_40 : decode cX0_harvest 40 = .ok (.ifCond .le 17, 3) := by decide +kernel
theorem dX0_harvest_43 : decode cX0_harvest 43 = .ok (.aload_n 0, 1) := by decide +kernel
theorem dX0_harvest_44 : decode cX0_harvest 44 = .ok (.getfield 30, 3) := by decide +kernel
theorem dX0_harvest_47 : decode cX0_harvest 47 = .ok (.aload_n 1, 1) := by decide +kernel
theorem dX0_harvest_48 : decode cX0_harvest 48 = .ok (.getfield 93, 3) := by decide +kernel
theorem dX0_harvest_51 : decode cX0_harvest 51 = .ok (.invokestatic 96, 3) := by decide +kernel
theorem dX0_harvest_54 : decode cX0_harvest 54 = .ok (.goto 7, 3) := by decide +kernel
theorem dX0_harvest_57 : decode cX0_harvest 57 = .ok (.aload_n 1, 1) := by decide +kernel
theorem dX0_harvest_58 : decode cX0_harvest 58 = .ok (.getfield 93, 3) := by decide +kernel
theorem dX0_harvest_61 : decode cX0_harvest 61 = .ok (.putfield 30, 3) := by decide +kernel
theorem dX0_harvest_64 : decode cX0_harvest 64 = .ok (.aload_n 0, 1) := by decide +kernel
theorem dX0_harvest_65 : decode cX0_harvest 65 = .ok (.aload_n 0, 1) := by decide +kernel
theorem dX0_harvest_66 : decode cX0_harvest 66 = .ok (.getfield 15, 3) := by decide +kernel
theorem dX0_harvest_69 : decode cX0_harvest 69 = .ok (.putfield 9, 3) := by decide +kernel
theorem dX0_harvest_72 : decode cX0_harvest 72 = .ok (.aload_n 0, 1) := by decide +kernel
theorem dX0_harvest_73 : decode cX0_harvest 73 = .ok (.dup, 1) := by decide +kernel
theorem dX0_harvest_74 : decode cX0_harvest 74 = .ok (.getfield 27, 3) := by decide +kernel
theorem dX0_harvest_77 : decode cX0_harvest 77 = .ok (.iload_n 3, 1) := by decide +kernel
theorem dX0_harvest_78 : decode cX0_harvest 78 = .ok (.iadd, 1) := by decide +kernel
theorem dX0_harvest_79 : decode cX0_harvest 79 = .ok (.putfield 27, 3) := by decide +kernel
theorem dX0_harvest_82 : decode cX0_harvest 82 = .ok (.aload_n 0, 1) := by decide +kernel
theorem dX0_harvest_83 : decode cX0_harvest 83 = .ok (.dup, 1) := by decide +kernel
theorem dX0_harvest_84 : decode cX0_harvest 84 = .ok (.getfield 43, 3) := by decide +kernel
theorem dX0_harvest_87 : decode cX0_harvest 87 = .ok (.iload_n 2, 1) := by decide +kernel
theorem dX0_harvest_88 : decode cX0_harvest 88 = .ok (.iadd, 1) := by decide +kernel
theorem dX0_harvest_89 : decode cX0_harvest 89 = .ok (.putfield 43, 3) := by decide +kernel
theorem dX0_harvest_92 : decode cX0_harvest 92 = .ok (.aload_n 0, 1) := by decide +kernel
theorem dX0_harvest_93 : decode cX0_harvest 93 = .ok (.dup, 1) := by decide +kernel
theorem dX0_harvest_94 : decode cX0_harvest 94 = .ok (.getfield 46, 3) := by decide +kernel
theorem dX0_harvest_97 : decode cX0_harvest 97 = .ok (.iload_n 3, 1) := by decide +kernel
theorem dX0_harvest_98 : decode cX0_harvest 98 = .ok (.iadd, 1) := by decide +kernel
theorem dX0_harvest_99 : decode cX0_harvest 99 = .ok (.putfield 46, 3) := by decide +kernel
theorem dX0_harvest_102 : decode cX0_harvest 102 = .ok (.aload_n 0, 1) := by decide +kernel
theorem dX0_harvest_103 : decode cX0_harvest 103 = .ok (.dup, 1) := by decide +kernel
theorem dX0_harvest_104 : decode cX0_harvest 104 = .ok (.getfield 33, 3) := by decide +kernel
theorem dX0_harvest_107 : decode cX0_harvest 107 = .ok (.iload_n 2, 1) := by decide +kernel
theorem dX0_harvest_108 : decode cX0_harvest 108 = .ok (.iadd, 1) := by decide +kernel
theorem dX0_harvest_109 : decode cX0_harvest 109 = .ok (.putfield 33, 3) := by decide +kernel
theorem dX0_harvest_112 : decode cX0_harvest 112 = .ok (.aload_n 0, 1) := by decide +kernel
theorem dX0_harvest_113 : decode cX0_harvest 113 = .ok (.aload_n 0, 1) := by decide +kernel
theorem dX0_harvest_114 : decode cX0_harvest 114 = .ok (.getfield 33, 3) := by decide +kernel
theorem dX0_harvest_117 : decode cX0_harvest 117 = .ok (.bipush 100, 2) := by decide +kernel
theorem dX0_harvest_119 : decode cX0_harvest 119 = .ok (.if_icmp .lt 7, 3) := by decide +kernel
theorem dX0_harvest_122 : decode cX0_harvest 122 = .ok (.iconst 1, 1) := by decide +kernel
theorem dX0_harvest_123 : decode cX0_harvest 123 = .ok (.goto 4, 3) := by decide +kernel
theorem dX0_harvest_126 : decode cX0_harvest 126 = .ok (.iconst 0, 1) := by decide +kernel
theorem dX0_harvest_127 : decode cX0_harvest 127 = .ok (.putfield 36, 3) := by decide +kernel
theorem dX0_harvest_130 : decode cX0_harvest 130 = .ok (.return_, 1) := by decide +kernel
theorem dX0_metered_0 : decode cX0_metered 0 = .ok (.iconst 3, 1) := by decide +kernel
theorem dX0_metered_1 : decode cX0_metered 1 = .ok (.aload_n 0, 1) := by decide +kernel
theorem dX0_metered_2 : decode cX0_metered 2 = .ok (.getfield 18, 3) := by decide +kernel
theorem dX0_metered_5 : decode cX0_metered 5 = .ok (.imul, 1) := by decide +kernel
theorem dX0_metered_6 : decode cX0_metered 6 = .ok (.aload_n 0, 1) := by decide +kernel
theorem dX0_metered_7 : decode cX0_metered 7 = .ok (.getfield 33, 3) := by decide +kernel
theorem dX0_metered_10 : decode cX0_metered 10 = .ok (.bipush 20, 2) := by decide +kernel
theorem dX0_metered_12 : decode cX0_metered 12 = .ok (.idiv, 1) := by decide +kernel
theorem dX0_metered_13 : decode cX0_metered 13 = .ok (.iadd, 1) := by decide +kernel
theorem dX0_metered_14 : decode cX0_metered 14 = .ok (.iconst 4, 1) := by decide +kernel
theorem dX0_metered_15 : decode cX0_metered 15 = .ok (.isub, 1) := by decide +kernel
theorem dX0_metered_16 : decode cX0_metered 16 = .ok (.istore_n 2, 1) := by decide +kernel
theorem dX0_metered_17 : decode cX0_metered 17 = .ok (.iload_n 1, 1) := by decide +kernel
theorem dX0_metered_18 : decode cX0_metered 18 = .ok (.bipush 100, 2) := by decide +kernel
theorem dX0_metered_20 : decode cX0_metered 20 = .ok (.iload_n 2, 1) := by decide +kernel
theorem dX0_metered_21 : decode cX0_metered 21 = .ok (.iadd, 1) := by decide +kernel
theorem dX0_metered_22 : decode cX0_metered 22 = .ok (.imul, 1) := by decide +kernel
theorem dX0_metered_23 : decode cX0_metered 23 = .ok (.bipush 100, 2) := by decide +kernel
theorem dX0_metered_25 : decode cX0_metered 25 = .ok (.idiv, 1) := by decide +kernel
theorem dX0_metered_26 : decode cX0_metered 26 = .ok (.ireturn, 1) := by decide +kernel
theorem dX1_init_0 : decode cX1_init 0 = .ok (.aload_n 0, 1) := by decide +kernel
theorem dX1_init_1 : decode cX1_init 1 = .ok (.invokespecial 1, 3) := by decide +kernel
theorem dX1_init_4 : decode cX1_init 4 = .ok (.aload_n 0, 1) := by decide +kernel
theorem dX1_init_5 : decode cX1_init 5 = .ok (.iload_n 1, 1) := by decide +kernel
theorem dX1_init_6 : decode cX1_init 6 = .ok (.putfield 7, 3) := by decide +kernel
theorem dX1_init_9 : decode cX1_init 9 = .ok (.aload_n 0, 1) := by decide +kernel
theorem dX1_init_10 : decode cX1_init 10 = .ok (.iload_n 2, 1) := by decide +kernel
theorem dX1_init_11 : decode cX1_init 11 = .ok (.putfield 13, 3) := by decide +kernel
theorem dX1_init_14 : decode cX1_init 14 = .ok (.aload_n 0, 1) := by decide +kernel
theorem dX1_init_15 : decode cX1_init 15 = .ok (.iload_n 3, 1) := by decide +kernel
theorem dX1_init_16 : decode cX1_init 16 = .ok (.putfield 16, 3) := by decide +kernel
theorem dX1_init_19 : decode cX1_init 19 = .ok (.aload_n 0, 1) := by decide +kernel
theorem dX1_init_20 : decode cX1_init 20 = .ok (.iload 4, 2) := by decide +kernel
theorem dX1_init_22 : decode cX1_init 22 = .ok (.putfield 19, 3) := by decide +kernel
theorem dX1_init_25 : decode cX1_init 25 = .ok (.aload_n 0, 1) := by decide +kernel
theorem dX1_init_26 : decode cX1_init 26 = .ok (.iload 5, 2) := by decide +kernel
theorem dX1_init_28 : decode cX1_init 28 = .ok (.putfield 22, 3) := by decide +kernel
theorem dX1_init_31 : decode cX1_init 31 = .ok (.aload_n 0, 1) := by decide +kernel
theorem dX1_init_32 : decode cX1_init 32 = .ok (.iload 6, 2) := by decide +kernel
theorem dX1_init_34 : decode cX1_init 34 = .ok (.putfield 25, 3) := by decide +kernel
theorem dX1_init_37 : decode cX1_init 37 = .ok (.return_, 1) := by decide +kernel
theorem dX1_copyFrom_0 : decode cX1_copyFrom 0 = .ok (.aload_n 0, 1) := by decide +kernel
theorem dX1_copyFrom_1 : decode cX1_copyFrom 1 = .ok (.aload_n 1, 1) := by decide +kernel
theorem dX1_copyFrom_2 : decode cX1_copyFrom 2 = .ok (.getfield 7, 3) := by decide +kernel
theorem dX1_copyFrom_5 : decode cX1_copyFrom 5 = .ok (.putfield 7, 3) := by decide +kernel
theorem dX1_copyFrom_8 : decode cX1_copyFrom 8 = .ok (.aload_n 0, 1) := by decide +kernel
theorem dX1_copyFrom_9 : decode cX1_copyFrom 9 = .ok (.aload_n 1, 1) := by decide +kernel
theorem dX1_copyFrom_10 : decode cX1_copyFrom 10 = .ok (.getfield 13, 3) := by decide +kernel
theorem dX1_copyFrom_13 : decode cX1_copyFrom 13 = .ok (.putfield 13, 3) := by decide +kernel
theorem dX1_copyFrom_16 : decode cX1_copyFrom 16 = .ok (.aload_n 0, 1) := by decide +kernel
theorem dX1_copyFrom_17 : decode cX1_copyFrom 17 = .ok (.aload_n 1, 1) := by decide +kernel
theorem dX1_copyFrom_18 : decode cX1_copyFrom 18 = .ok (.getfield 16, 3) := by decide +kernel
theorem dX1_copyFrom_21 : decode cX1_copyFrom 21 = .ok (.putfield 16, 3) := by decide +kernel
theorem dX1_copyFrom_24 : decode cX1_copyFrom 24 = .ok (.aload_n 0, 1) := by decide +kernel
theorem dX1_copyFrom_25 : decode cX1_copyFrom 25 = .ok (.aload_n 1, 1) := by decide +kernel
theorem dX1_copyFrom_26 : decode cX1_copyFrom 26 = .ok (.getfield 19, 3) := by decide +kernel
theorem dX1_copyFrom_29 : decode cX1_copyFrom 29 = .ok (.putfield 19, 3) := by decide +kernel
theorem dX1_copyFrom_32 : decode cX1_copyFrom 32 = .ok (.aload_n 0, 1) := by decide +kernel
theorem dX1_copyFrom_33 : decode cX1_copyFrom 33 = .ok (.aload_n 1, 1) := by decide +kernel
theorem dX1_copyFrom_34 : decode cX1_copyFrom 34 = .ok (.getfield 22, 3) := by decide +kernel
theorem dX1_copyFrom_37 : decode cX1_copyFrom 37 = .ok (.putfield 22, 3) := by decide +kernel
theorem dX1_copyFrom_40 : decode cX1_copyFrom 40 = .ok (.aload_n 0, 1) := by decide +kernel
theorem dX1_copyFrom_41 : decode cX1_copyFrom 41 = .ok (.aload_n 1, 1) := by decide +kernel
theorem dX1_copyFrom_42 : decode cX1_copyFrom 42 = .ok (.getfield 25, 3) := by decide +kernel
theorem dX1_copyFrom_45 : decode cX1_copyFrom 45 = .ok (.putfield 25, 3) := by decide +kernel
theorem dX1_copyFrom_48 : decode cX1_copyFrom 48 = .ok (.return_, 1) := by decide +kernel
theorem dX1_takes_0 : decode cX1_takes 0 = .ok (.aload_n 0, 1) := by decide +kernel
theorem dX1_takes_1 : decode cX1_takes 1 = .ok (.iload_n 2, 1) := by decide +kernel
theorem dX1_takes_2 : decode cX1_takes 2 = .ok (.invokevirtual 28, 3) := by decide +kernel
theorem dX1_takes_5 : decode cX1_takes 5 = .ok (.ifCond .eq 29, 3) := by decide +kernel
theorem dX1_takes_8 : decode cX1_takes 8 = .ok (.aload_n 0, 1) := by decide +kernel
theorem dX1_takes_9 : decode cX1_takes 9 = .ok (.getfield 25, 3) := by decide +kernel
theorem dX1_takes_12 : decode cX1_takes 12 = .ok (.aload_n 1, 1) := by decide +kernel
theorem dX1_takes_13 : decode cX1_takes 13 = .ok (.getfield 32, 3) := by decide +kernel
theorem dX1_takes_16 : decode cX1_takes 16 = .ok (.if_icmp .lt 18, 3) := by decide +kernel
theorem dX1_takes_19 : decode cX1_takes 19 = .ok (.aload_n 0, 1) := by decide +kernel
theorem dX1_takes_20 : decode cX1_takes 20 = .ok (.getfield 13, 3) := by decide +kernel
theorem dX1_takes_23 : decode cX1_takes 23 = .ok (.aload_n 1, 1) := by decide +kernel
theorem dX1_takes_24 : decode cX1_takes 24 = .ok (.getfield 37, 3) := by decide +kernel
theorem dX1_takes_27 : decode cX1_takes 27 = .ok (.if_icmp .lt 7, 3) := by decide +kernel
theorem dX1_takes_30 : decode cX1_takes 30 = .ok (.iconst 1, 1) := by decide +kernel
theorem dX1_takes_31 : decode cX1_takes 31 = .ok (.goto 4, 3) := by decide +kernel
theorem dX1_takes_34 : decode cX1_takes 34 = .ok (.iconst 0, 1) := by decide +kernel
theorem dX1_takes_35 : decode cX1_takes 35 = .ok (.ireturn, 1) := by decide +kernel
theorem dX1_isOpen_0 : decode cX1_isOpen 0 = .ok (.aload_n 0, 1) := by decide +kernel
theorem dX1_isOpen_1 : decode cX1_isOpen 1 = .ok (.getfield 16, 3) := by decide +kernel
theorem dX1_isOpen_4 : decode cX1_isOpen 4 = .ok (.aload_n 0, 1) := by decide +kernel
theorem dX1_isOpen_5 : decode cX1_isOpen 5 = .ok (.getfield 19, 3) := by decide +kernel
theorem dX1_isOpen_8 : decode cX1_isOpen 8 = .ok (.if_icmp .ge 27, 3) := by decide +kernel
theorem dX1_isOpen_11 : decode cX1_isOpen 11 = .ok (.iload_n 1, 1) := by decide +kernel
theorem dX1_isOpen_12 : decode cX1_isOpen 12 = .ok (.aload_n 0, 1) := by decide +kernel
theorem dX1_isOpen_13 : decode cX1_isOpen 13 = .ok (.getfield 16, 3) := by decide +kernel
theorem dX1_isOpen_16 : decode cX1_isOpen 16 = .ok (.if_icmp .lt 15, 3) := by decide +kernel
theorem dX1_isOpen_19 : decode cX1_isOpen 19 = .ok (.iload_n 1, 1) := by decide +kernel
theorem dX1_isOpen_20 : decode cX1_isOpen 20 = .ok (.aload_n 0, 1) := by decide +kernel
theorem dX1_isOpen_21 : decode cX1_isOpen 21 = .ok (.getfield 19, 3) := by decide +kernel
theorem dX1_isOpen_24 : decode cX1_isOpen 24 = .ok (.if_icmp .ge 7, 3) := by decide +kernel
theorem dX1_isOpen_27 : decode cX1_isOpen 27 = .ok (.iconst 1, 1) := by decide +kernel
theorem dX1_isOpen_28 : decode cX1_isOpen 28 = .ok (.goto 28, 3) := by decide +kernel
theorem dX1_isOpen_31 : decode cX1_isOpen 31 = .ok (.iconst 0, 1) := by decide +kernel
theorem dX1_isOpen_32 : decode cX1_isOpen 32 = .ok (.goto 24, 3) := by decide +kernel
theorem dX1_isOpen_35 : decode cX1_isOpen 35 = .ok (.iload_n 1, 1) := by decide +kernel
theorem dX1_isOpen_36 : decode cX1_isOpen 36 = .ok (.aload_n 0, 1) := by decide +kernel
theorem dX1_isOpen_37 : decode cX1_isOpen 37 = .ok (.getfield 16, 3) := by decide +kernel
theorem dX1_isOpen_40 : decode cX1_isOpen 40 = .ok (.if_icmp .ge 11, 3) := by decide +kernel
theorem dX1_isOpen_43 : decode cX1_isOpen 43 = .ok (.iload_n 1, 1) := by decide +kernel
theorem dX1_isOpen_44 : decode cX1_isOpen 44 = .ok (.aload_n 0, 1) := by decide +kernel
theorem dX1_isOpen_45 : decode cX1_isOpen 45 = .ok (.getfield 19, 3) := by decide +kernel
theorem dX1_isOpen_48 : decode cX1_isOpen 48 = .ok (.if_icmp .ge 7, 3) := by decide +kernel
theorem dX1_isOpen_51 : decode cX1_isOpen 51 = .ok (.iconst 1, 1) := by decide +kernel
theorem dX1_isOpen_52 : decode cX1_isOpen 52 = .ok (.goto 4, 3) := by decide +kernel
theorem dX1_isOpen_55 : decode cX1_isOpen 55 = .ok (.iconst 0, 1) := by decide +kernel
theorem dX1_isOpen_56 : decode cX1_isOpen 56 = .ok (.ireturn, 1) := by decide +kernel
theorem dX1_discount_0 : decode cX1_discount 0 = .ok (.iconst 2, 1) := by decide +kernel
theorem dX1_discount_1 : decode cX1_discount 1 = .ok (.iload_n 1, 1) := by decide +kernel
theorem dX1_discount_2 : decode cX1_discount 2 = .ok (.aload_n 0, 1) := by decide +kernel
theorem dX1_discount_3 : decode cX1_discount 3 = .ok (.getfield 22, 3) := by decide +kernel
theorem dX1_discount_6 : decode cX1_discount 6 = .ok (.isub, 1) := by decide +kernel
theorem dX1_discount_7 : decode cX1_discount 7 = .ok (.iconst 0, 1) := by decide +kernel
theorem dX1_discount_8 : decode cX1_discount 8 = .ok (.invokestatic 40, 3) := by decide +kernel
theorem dX1_discount_11 : decode cX1_discount 11 = .ok (.imul, 1) := by decide +kernel
theorem dX1_discount_12 : decode cX1_discount 12 = .ok (.ireturn, 1) := by decide +kernel
theorem dX2_init_0 : decode cX2_init 0 = .ok (.aload_n 0, 1) := by decide +kernel
theorem dX2_init_1 : decode cX2_init 1 = .ok (.invokespecial 3, 3) := by decide +kernel
theorem dX2_init_4 : decode cX2_init 4 = .ok (.aload_n 0, 1) := by decide +kernel
theorem dX2_init_5 : decode cX2_init 5 = .ok (.bipush 30, 2) := by decide +kernel
theorem dX2_init_7 : decode cX2_init 7 = .ok (.putfield 9, 3) := by decide +kernel
theorem dX2_init_10 : decode cX2_init 10 = .ok (.aload_n 0, 1) := by decide +kernel
theorem dX2_init_11 : decode cX2_init 11 = .ok (.iload_n 1, 1) := by decide +kernel
theorem dX2_init_12 : decode cX2_init 12 = .ok (.putfield 15, 3) := by decide +kernel
theorem dX2_init_15 : decode cX2_init 15 = .ok (.aload_n 0, 1) := by decide +kernel
theorem dX2_init_16 : decode cX2_init 16 = .ok (.iload_n 2, 1) := by decide +kernel
theorem dX2_init_17 : decode cX2_init 17 = .ok (.putfield 18, 3) := by decide +kernel
theorem dX2_init_20 : decode cX2_init 20 = .ok (.aload_n 0, 1) := by decide +kernel
theorem dX2_init_21 : decode cX2_init 21 = .ok (.iload_n 3, 1) := by decide +kernel
theorem dX2_init_22 : decode cX2_init 22 = .ok (.putfield 21, 3) := by decide +kernel
theorem dX2_init_25 : decode cX2_init 25 = .ok (.aload_n 0, 1) := by decide +kernel
theorem dX2_init_26 : decode cX2_init 26 = .ok (.iload 4, 2) := by decide +kernel
theorem dX2_init_28 : decode cX2_init 28 = .ok (.putfield 24, 3) := by decide +kernel
theorem dX2_init_31 : decode cX2_init 31 = .ok (.aload_n 0, 1) := by decide +kernel
theorem dX2_init_32 : decode cX2_init 32 = .ok (.iload 5, 2) := by decide +kernel
theorem dX2_init_34 : decode cX2_init 34 = .ok (.putfield 27, 3) := by decide +kernel
theorem dX2_init_37 : decode cX2_init 37 = .ok (.return_, 1) := by decide +kernel
theorem dX2_copyFrom_0 : decode cX2_copyFrom 0 = .ok (.aload_n 0, 1) := by decide +kernel
theorem dX2_copyFrom_1 : decode cX2_copyFrom 1 = .ok (.aload_n 1, 1) := by decide +kernel
theorem dX2_copyFrom_2 : decode cX2_copyFrom 2 = .ok (.getfield 15, 3) := by decide +kernel
theorem dX2_copyFrom_5 : decode cX2_copyFrom 5 = .ok (.putfield 15, 3) := by decide +kernel
theorem dX2_copyFrom_8 : decode cX2_copyFrom 8 = .ok (.aload_n 0, 1) := by decide +kernel
theorem dX2_copyFrom_9 : decode cX2_copyFrom 9 = .ok (.aload_n 1, 1) := by decide +kernel
theorem dX2_copyFrom_10 : decode cX2_copyFrom 10 = .ok (.getfield 18, 3) := by decide +kernel
theorem dX2_copyFrom_13 : decode cX2_copyFrom 13 = .ok (.putfield 18, 3) := by decide +kernel
theorem dX2_copyFrom_16 : decode cX2_copyFrom 16 = .ok (.aload_n 0, 1) := by decide +kernel
theorem dX2_copyFrom_17 : decode cX2_copyFrom 17 = .ok (.aload_n 1, 1) := by decide +kernel
theorem dX2_copyFrom_18 : decode cX2_copyFrom 18 = .ok (.getfield 21, 3) := by decide +kernel
theorem dX2_copyFrom_21 : decode cX2_copyFrom 21 = .ok (.putfield 21, 3) := by decide +kernel
theorem dX2_copyFrom_24 : decode cX2_copyFrom 24 = .ok (.aload_n 0, 1) := by decide +kernel
theorem dX2_copyFrom_25 : decode cX2_copyFrom 25 = .ok (.aload_n 1, 1) := by decide +kernel
theorem dX2_copyFrom_26 : decode cX2_copyFrom 26 = .ok (.getfield 24, 3) := by decide +kernel
theorem dX2_copyFrom_29 : decode cX2_copyFrom 29 = .ok (.putfield 24, 3) := by decide +kernel
theorem dX2_copyFrom_32 : decode cX2_copyFrom 32 = .ok (.aload_n 0, 1) := by decide +kernel
theorem dX2_copyFrom_33 : decode cX2_copyFrom 33 = .ok (.aload_n 1, 1) := by decide +kernel
theorem dX2_copyFrom_34 : decode cX2_copyFrom 34 = .ok (.getfield 27, 3) := by decide +kernel
theorem dX2_copyFrom_37 : decode cX2_copyFrom 37 = .ok (.putfield 27, 3) := by decide +kernel
theorem dX2_copyFrom_40 : decode cX2_copyFrom 40 = .ok (.aload_n 0, 1) := by decide +kernel
theorem dX2_copyFrom_41 : decode cX2_copyFrom 41 = .ok (.aload_n 1, 1) := by decide +kernel
theorem dX2_copyFrom_42 : decode cX2_copyFrom 42 = .ok (.getfield 30, 3) := by decide +kernel
theorem dX2_copyFrom_45 : decode cX2_copyFrom 45 = .ok (.putfield 30, 3) := by decide +kernel
theorem dX2_copyFrom_48 : decode cX2_copyFrom 48 = .ok (.aload_n 0, 1) := by decide +kernel
theorem dX2_copyFrom_49 : decode cX2_copyFrom 49 = .ok (.aload_n 1, 1) := by decide +kernel
theorem dX2_copyFrom_50 : decode cX2_copyFrom 50 = .ok (.getfield 33, 3) := by decide +kernel
theorem dX2_copyFrom_53 : decode cX2_copyFrom 53 = .ok (.putfield 33, 3) := by decide +kernel
theorem dX2_copyFrom_56 : decode cX2_copyFrom 56 = .ok (.aload_n 0, 1) := by decide +kernel
theorem dX2_copyFrom_57 : decode cX2_copyFrom 57 = .ok (.aload_n 1, 1) := by decide +kernel
theorem dX2_copyFrom_58 : decode cX2_copyFrom 58 = .ok (.getfield 9, 3) := by decide +kernel
theorem dX2_copyFrom_61 : decode cX2_copyFrom 61 = .ok (.putfield 9, 3) := by decide +kernel
theorem dX2_copyFrom_64 : decode cX2_copyFrom 64 = .ok (.aload_n 0, 1) := by decide +kernel
theorem dX2_copyFrom_65 : decode cX2_copyFrom 65 = .ok (.aload_n 1, 1) := by decide +kernel
theorem dX2_copyFrom_66 : decode cX2_copyFrom 66 = .ok (.getfield 36, 3) := by decide +kernel
theorem dX2_copyFrom_69 : decode cX2_copyFrom 69 = .ok (.putfield 36, 3) := by decide +kernel
theorem dX2_copyFrom_72 : decode cX2_copyFrom 72 = .ok (.aload_n 0, 1) := by decide +kernel
theorem dX2_copyFrom_73 : decode cX2_copyFrom 73 = .ok (.aload_n 1, 1) := by decide +kernel
theorem dX2_copyFrom_74 : decode cX2_copyFrom 74 = .ok (.getfield 39, 3) := by decide +kernel
theorem dX2_copyFrom_77 : decode cX2_copyFrom 77 = .ok (.putfield 39, 3) := by decide +kernel
theorem dX2_copyFrom_80 : decode cX2_copyFrom 80 = .ok (.aload_n 0, 1) := by decide +kernel
theorem dX2_copyFrom_81 : decode cX2_copyFrom 81 = .ok (.aload_n 1, 1) := by decide +kernel
theorem dX2_copyFrom_82 : decode cX2_copyFrom 82 = .ok (.getfield 42, 3) := by decide +kernel
theorem dX2_copyFrom_85 : decode cX2_copyFrom 85 = .ok (.putfield 42, 3) := by decide +kernel
theorem dX2_copyFrom_88 : decode cX2_copyFrom 88 = .ok (.aload_n 0, 1) := by decide +kernel
theorem dX2_copyFrom_89 : decode cX2_copyFrom 89 = .ok (.aload_n 1, 1) := by decide +kernel
theorem dX2_copyFrom_90 : decode cX2_copyFrom 90 = .ok (.getfield 45, 3) := by decide +kernel
theorem dX2_copyFrom_93 : decode cX2_copyFrom 93 = .ok (.putfield 45, 3) := by decide +kernel
theorem dX2_copyFrom_96 : decode cX2_copyFrom 96 = .ok (.aload_n 0, 1) := by decide +kernel
theorem dX2_copyFrom_97 : decode cX2_copyFrom 97 = .ok (.aload_n 1, 1) := by decide +kernel
theorem dX2_copyFrom_98 : decode cX2_copyFrom 98 = .ok (.getfield 48, 3) := by decide +kernel
theorem dX2_copyFrom_101 : decode cX2_copyFrom 101 = .ok (.putfield 48, 3) := by decide +kernel
theorem dX2_copyFrom_104 : decode cX2_copyFrom 104 = .ok (.return_, 1) := by decide +kernel
theorem dX2_passHour_0 : decode cX2_passHour 0 = .ok (.aload_n 0, 1) := by decide +kernel
theorem dX2_passHour_1 : decode cX2_passHour 1 = .ok (.iload_n 2, 1) := by decide +kernel
theorem dX2_passHour_2 : decode cX2_passHour 2 = .ok (.invokevirtual 51, 3) := by decide +kernel
theorem dX2_passHour_5 : decode cX2_passHour 5 = .ok (.aload_n 0, 1) := by decide +kernel
theorem dX2_passHour_6 : decode cX2_passHour 6 = .ok (.iload_n 3, 1) := by decide +kernel
theorem dX2_passHour_7 : decode cX2_passHour 7 = .ok (.iload 4, 2) := by decide +kernel
theorem dX2_passHour_9 : decode cX2_passHour 9 = .ok (.invokevirtual 55, 3) := by decide +kernel
theorem dX2_passHour_12 : decode cX2_passHour 12 = .ok (.aload_n 0, 1) := by decide +kernel
theorem dX2_passHour_13 : decode cX2_passHour 13 = .ok (.iload_n 1, 1) := by decide +kernel
theorem dX2_passHour_14 : decode cX2_passHour 14 = .ok (.iload 4, 2) := by decide +kernel
theorem dX2_passHour_16 : decode cX2_passHour 16 = .ok (.invokevirtual 59, 3) := by decide +kernel
theorem dX2_passHour_19 : decode cX2_passHour 19 = .ok (.return_, 1) := by decide +kernel
theorem dX2_ripen_0 : decode cX2_ripen 0 = .ok (.iload_n 1, 1) := by decide +kernel
theorem dX2_ripen_1 : decode cX2_ripen 1 = .ok (.bipush 30, 2) := by decide +kernel
theorem dX2_ripen_3 : decode cX2_ripen 3 = .ok (.if_icmp .lt 7, 3) := by decide +kernel
theorem dX2_ripen_6 : decode cX2_ripen 6 = .ok (.iconst 2, 1) := by decide +kernel
theorem dX2_ripen_7 : decode cX2_ripen 7 = .ok (.goto 14, 3) := by decide +kernel
theorem dX2_ripen_10 : decode cX2_ripen 10 = .ok (.iload_n 1, 1) := by decide +kernel
theorem dX2_ripen_11 : decode cX2_ripen 11 = .ok (.bipush 15, 2) := by decide +kernel
theorem dX2_ripen_13 : decode cX2_ripen 13 = .ok (.if_icmp .lt 7, 3) := by decide +kernel
theorem dX2_ripen_16 : decode cX2_ripen 16 = .ok (.iconst 1, 1) := by decide +kernel
theorem dX2_ripen_17 : decode cX2_ripen 17 = .ok (.goto 4, 3) := by decide +kernel
theorem dX2_ripen_20 : decode cX2_ripen 20 = .ok (.iconst 0, 1) := by decide +kernel
theorem dX2_ripen_21 : decode cX2_ripen 21 = .ok (.istore_n 2, 1) := by decide +kernel
theorem dX2_ripen_22 : decode cX2_ripen 22 = .ok (.aload_n 0, 1) := by decide +kernel
theorem dX2_ripen_23 : decode cX2_ripen 23 = .ok (.aload_n 0, 1) := by decide +kernel
theorem dX2_ripen_24 : decode cX2_ripen 24 = .ok (.getfield 33, 3) := by decide +kernel
theorem dX2_ripen_27 : decode cX2_ripen 27 = .ok (.iload_n 2, 1) := by decide +kernel
theorem dX2_ripen_28 : decode cX2_ripen 28 = .ok (.iadd, 1) := by decide +kernel
theorem dX2_ripen_29 : decode cX2_ripen 29 = .ok (.bipush 100, 2) := by decide +kernel
theorem dX2_ripen_31 : decode cX2_ripen 31 = .ok (.invokestatic 62, 3) := by decide +kernel
theorem dX2_ripen_34 : decode cX2_ripen 34 = .ok (.putfield 33, 3) := by decide +kernel
theorem dX2_ripen_37 : decode cX2_ripen 37 = .ok (.return_, 1) := by decide +kernel
theorem dX2_soakOrDry_0 : decode cX2_soakOrDry 0 = .ok (.iload_n 2, 1) := by decide +kernel
theorem dX2_soakOrDry_1 : decode cX2_soakOrDry 1 = .ok (.ifCond .le 21, 3) := by decide +kernel
theorem dX2_soakOrDry_4 : decode cX2_soakOrDry 4 = .ok (.aload_n 0, 1) := by decide +kernel
theorem dX2_soakOrDry_5 : decode cX2_soakOrDry 5 = .ok (.aload_n 0, 1) := by decide +kernel
theorem dX2_soakOrDry_6 : decode cX2_soakOrDry 6 = .ok (.getfield 9, 3) := by decide +kernel
theorem dX2_soakOrDry_9 : decode cX2_soakOrDry 9 = .ok (.iload_n 2, 1) := by decide +kernel
theorem dX2_soakOrDry_10 : decode cX2_soakOrDry 10 = .ok (.iadd, 1) := by decide +kernel
theorem dX2_soakOrDry_11 : decode cX2_soakOrDry 11 = .ok (.bipush 40, 2) := by decide +kernel
theorem dX2_soakOrDry_13 : decode cX2_soakOrDry 13 = .ok (.invokestatic 62, 3) := by decide +kernel
theorem dX2_soakOrDry_16 : decode cX2_soakOrDry 16 = .ok (.putfield 9, 3) := by decide +kernel
theorem dX2_soakOrDry_19 : decode cX2_soakOrDry 19 = .ok (.goto 59, 3) := by decide +kernel
theorem dX2_soakOrDry_22 : decode cX2_soakOrDry 22 = .ok (.aload_n 0, 1) := by decide +kernel
theorem dX2_soakOrDry_23 : decode cX2_soakOrDry 23 = .ok (.getfield 33, 3) := by decide +kernel
theorem dX2_soakOrDry_26 : decode cX2_soakOrDry 26 = .ok (.bipush 60, 2) := by decide +kernel
theorem dX2_soakOrDry_28 : decode cX2_soakOrDry 28 = .ok (.if_icmp .lt 50, 3) := by decide +kernel
theorem dX2_soakOrDry_31 : decode cX2_soakOrDry 31 = .ok (.aload_n 0, 1) := by decide +kernel
theorem dX2_soakOrDry_32 : decode cX2_soakOrDry 32 = .ok (.getfield 9, 3) := by decide +kernel
theorem dX2_soakOrDry_35 : decode cX2_soakOrDry 35 = .ok (.iload_n 1, 1) := by decide +kernel
theorem dX2_soakOrDry_36 : decode cX2_soakOrDry 36 = .ok (.iconst 4, 1) := by decide +kernel
theorem dX2_soakOrDry_37 : decode cX2_soakOrDry 37 = .ok (.idiv, 1) := by decide +kernel
theorem dX2_soakOrDry_38 : decode cX2_soakOrDry 38 = .ok (.if_icmp .ge 16, 3) := by decide +kernel
theorem dX2_soakOrDry_41 : decode cX2_soakOrDry 41 = .ok (.aload_n 0, 1) := by decide +kernel
theorem dX2_soakOrDry_42 : decode cX2_soakOrDry 42 = .ok (.dup, 1) := by decide +kernel
theorem dX2_soakOrDry_43 : decode cX2_soakOrDry 43 = .ok (.getfield 9, 3) := by decide +kernel
theorem dX2_soakOrDry_46 : decode cX2_soakOrDry 46 = .ok (.iconst 1, 1) := by decide +kernel
theorem dX2_soakOrDry_47 : decode cX2_soakOrDry 47 = .ok (.iadd, 1) := by decide +kernel
theorem dX2_soakOrDry_48 : decode cX2_soakOrDry 48 = .ok (.putfield 9, 3) := by decide +kernel
theorem dX2_soakOrDry_51 : decode cX2_soakOrDry 51 = .ok (.goto 27, 3) := by decide +kernel
theorem dX2_soakOrDry_54 : decode cX2_soakOrDry 54 = .ok (.aload_n 0, 1) := by decide +kernel
theorem dX2_soakOrDry_55 : decode cX2_soakOrDry 55 = .ok (.getfield 9, 3) := by decide +kernel
theorem dX2_soakOrDry_58 : decode cX2_soakOrDry 58 = .ok (.iload_n 1, 1) := by decide +kernel
theorem dX2_soakOrDry_59 : decode cX2_soakOrDry 59 = .ok (.iconst 4, 1) := by decide +kernel
theorem dX2_soakOrDry_60 : decode cX2_soakOrDry 60 = .ok (.idiv, 1) := by decide +kernel
theorem dX2_soakOrDry_61 : decode cX2_soakOrDry 61 = .ok (.if_icmp .le 17, 3) := by decide +kernel
theorem dX2_soakOrDry_64 : decode cX2_soakOrDry 64 = .ok (.aload_n 0, 1) := by decide +kernel
theorem dX2_soakOrDry_65 : decode cX2_soakOrDry 65 = .ok (.aload_n 0, 1) := by decide +kernel
theorem dX2_soakOrDry_66 : decode cX2_soakOrDry 66 = .ok (.getfield 9, 3) := by decide +kernel
theorem dX2_soakOrDry_69 : decode cX2_soakOrDry 69 = .ok (.iconst 1, 1) := by decide +kernel
theorem dX2_soakOrDry_70 : decode cX2_soakOrDry 70 = .ok (.isub, 1) := by decide +kernel
theorem dX2_soakOrDry_71 : decode cX2_soakOrDry 71 = .ok (.iconst 5, 1) := by decide +kernel
theorem dX2_soakOrDry_72 : decode cX2_soakOrDry 72 = .ok (.invokestatic 68, 3) := by decide +kernel
theorem dX2_soakOrDry_75 : decode cX2_soakOrDry 75 = .ok (.putfield 9, 3) := by decide +kernel
theorem dX2_soakOrDry_78 : decode cX2_soakOrDry 78 = .ok (.return_, 1) := by decide +kernel
theorem dX2_shatter_0 : decode cX2_shatter 0 = .ok (.aload_n 0, 1) := by decide +kernel
theorem dX2_shatter_1 : decode cX2_shatter 1 = .ok (.getfield 33, 3) := by decide +kernel
theorem dX2_shatter_4 : decode cX2_shatter 4 = .ok (.bipush 100, 2) := by decide +kernel
theorem dX2_shatter_6 : decode cX2_shatter 6 = .ok (.if_icmp .ge 4, 3) := by decide +kernel
theorem dX2_shatter_9 : decode cX2_shatter 9 = .ok (.return_, 1) := by decide +kernel
theorem dX2_shatter_10 : decode cX2_shatter 10 = .ok (.iload_n 1, 1) := by decide +kernel
theorem dX2_shatter_11 : decode cX2_shatter 11 = .ok (.bipush 12, 2) := by decide +kernel
theorem dX2_shatter_13 : decode cX2_shatter 13 = .ok (.if_icmp .lt 28, 3) := by decide +kernel
theorem dX2_shatter_16 : decode cX2_shatter 16 = .ok (.iload_n 1, 1) := by decide +kernel
theorem dX2_shatter_17 : decode cX2_shatter 17 = .ok (.bipush 17, 2) := by decide +kernel
theorem dX2_shatter_19 : decode cX2_shatter 19 = .ok (.if_icmp .gt 22, 3) := by decide +kernel
theorem dX2_shatter_22 : decode cX2_shatter 22 = .ok (.aload_n 0, 1) := by decide +kernel
theorem dX2_shatter_23 : decode cX2_shatter 23 = .ok (.getfield 9, 3) := by decide +kernel
theorem dX2_shatter_26 : decode cX2_shatter 26 = .ok (.bipush 14, 2) := by decide +kernel
theorem dX2_shatter_28 : decode cX2_shatter 28 = .ok (.if_icmp .ge 13, 3) := by decide +kernel
theorem dX2_shatter_31 : decode cX2_shatter 31 = .ok (.aload_n 0, 1) := by decide +kernel
theorem dX2_shatter_32 : decode cX2_shatter 32 = .ok (.dup, 1) := by decide +kernel
theorem dX2_shatter_33 : decode cX2_shatter 33 = .ok (.getfield 36, 3) := by decide +kernel
theorem dX2_shatter_36 : decode cX2_shatter 36 = .ok (.iconst 1, 1) := by decide +kernel
theorem dX2_shatter_37 : decode cX2_shatter 37 = .ok (.iadd, 1) := by decide +kernel
theorem dX2_shatter_38 : decode cX2_shatter 38 = .ok (.putfield 36, 3) := by decide +kernel
theorem dX2_shatter_41 : decode cX2_shatter 41 = .ok (.iload_n 2, 1) := by decide +kernel
theorem dX2_shatter_42 : decode cX2_shatter 42 = .ok (.bipush 10, 2) := by decide +kernel
theorem dX2_shatter_44 : decode cX2_shatter 44 = .ok (.if_icmp .lt 13, 3) := by decide +kernel
theorem dX2_shatter_47 : decode cX2_shatter 47 = .ok (.aload_n 0, 1) := by decide +kernel
theorem dX2_shatter_48 : decode cX2_shatter 48 = .ok (.dup, 1) := by decide +kernel
theorem dX2_shatter_49 : decode cX2_shatter 49 = .ok (.getfield 36, 3) := by decide +kernel
theorem dX2_shatter_52 : decode cX2_shatter 52 = .ok (.iconst 5, 1) := by decide +kernel
theorem dX2_shatter_53 : decode cX2_shatter 53 = .ok (.iadd, 1) := by decide +kernel
theorem dX2_shatter_54 : decode cX2_shatter 54 = .ok (.putfield 36, 3) := by decide +kernel
theorem dX2_shatter_57 : decode cX2_shatter 57 = .ok (.aload_n 0, 1) := by decide +kernel
theorem dX2_shatter_58 : decode cX2_shatter 58 = .ok (.aload_n 0, 1) := by decide +kernel
theorem dX2_shatter_59 : decode cX2_shatter 59 = .ok (.getfield 36, 3) := by decide +kernel
theorem dX2_shatter_62 : decode cX2_shatter 62 = .ok (.bipush 100, 2) := by decide +kernel
theorem dX2_shatter_64 : decode cX2_shatter 64 = .ok (.invokestatic 62, 3) := by decide +kernel
theorem dX2_shatter_67 : decode cX2_shatter 67 = .ok (.putfield 36, 3) := by decide +kernel
theorem dX2_shatter_70 : decode cX2_shatter 70 = .ok (.return_, 1) := by decide +kernel
theorem dX2_isFit_0 : decode cX2_isFit 0 = .ok (.aload_n 0, 1) := by decide +kernel
theorem dX2_isFit_1 : decode cX2_isFit 1 = .ok (.getfield 33, 3) := by decide +kernel
theorem dX2_isFit_4 : decode cX2_isFit 4 = .ok (.bipush 80, 2) := by decide +kernel
theorem dX2_isFit_6 : decode cX2_isFit 6 = .ok (.if_icmp .lt 22, 3) := by decide +kernel
theorem dX2_isFit_9 : decode cX2_isFit 9 = .ok (.aload_n 0, 1) := by decide +kernel
theorem dX2_isFit_10 : decode cX2_isFit 10 = .ok (.getfield 9, 3) := by decide +kernel
theorem dX2_isFit_13 : decode cX2_isFit 13 = .ok (.bipush 20, 2) := by decide +kernel
theorem dX2_isFit_15 : decode cX2_isFit 15 = .ok (.if_icmp .ge 13, 3) := by decide +kernel
theorem dX2_isFit_18 : decode cX2_isFit 18 = .ok (.iload_n 1, 1) := by decide +kernel
theorem dX2_isFit_19 : decode cX2_isFit 19 = .ok (.bipush 8, 2) := by decide +kernel
theorem dX2_isFit_21 : decode cX2_isFit 21 = .ok (.if_icmp .lt 7, 3) := by decide +kernel
theorem dX2_isFit_24 : decode cX2_isFit 24 = .ok (.iconst 1, 1) := by decide +kernel
theorem dX2_isFit_25 : decode cX2_isFit 25 = .ok (.goto 4, 3) := by decide +kernel
theorem dX2_isFit_28 : decode cX2_isFit 28 = .ok (.iconst 0, 1) := by decide +kernel
theorem dX2_isFit_29 : decode cX2_isFit 29 = .ok (.ireturn, 1) := by decide +kernel
theorem dX2_uncut_0 : decode cX2_uncut 0 = .ok (.aload_n 0, 1) := by decide +kernel
theorem dX2_uncut_1 : decode cX2_uncut 1 = .ok (.getfield 21, 3) := by decide +kernel
theorem dX2_uncut_4 : decode cX2_uncut 4 = .ok (.aload_n 0, 1) := by decide +kernel
theorem dX2_uncut_5 : decode cX2_uncut 5 = .ok (.getfield 30, 3) := by decide +kernel
theorem dX2_uncut_8 : decode cX2_uncut 8 = .ok (.isub, 1) := by decide +kernel
theorem dX2_uncut_9 : decode cX2_uncut 9 = .ok (.ireturn, 1) := by decide +kernel
theorem dX2_brings_0 : decode cX2_brings 0 = .ok (.aload_n 0, 1) := by decide +kernel
theorem dX2_brings_1 : decode cX2_brings 1 = .ok (.getfield 24, 3) := by decide +kernel
theorem dX2_brings_4 : decode cX2_brings 4 = .ok (.bipush 100, 2) := by decide +kernel
theorem dX2_brings_6 : decode cX2_brings 6 = .ok (.aload_n 0, 1) := by decide +kernel
theorem dX2_brings_7 : decode cX2_brings 7 = .ok (.getfield 36, 3) := by decide +kernel
theorem dX2_brings_10 : decode cX2_brings 10 = .ok (.isub, 1) := by decide +kernel
theorem dX2_brings_11 : decode cX2_brings 11 = .ok (.imul, 1) := by decide +kernel
theorem dX2_brings_12 : decode cX2_brings 12 = .ok (.bipush 100, 2) := by decide +kernel
theorem dX2_brings_14 : decode cX2_brings 14 = .ok (.idiv, 1) := by decide +kernel
theorem dX2_brings_15 : decode cX2_brings 15 = .ok (.ireturn, 1) := by decide +kernel
theorem dX2_correction_0 : decode cX2_correction 0 = .ok (.aload_n 0, 1) := by decide +kernel
theorem dX2_correction_1 : decode cX2_correction 1 = .ok (.getfield 39, 3) := by decide +kernel
theorem dX2_correction_4 : decode cX2_correction 4 = .ok (.ifCond .eq 7, 3) := by decide +kernel
theorem dX2_correction_7 : decode cX2_correction 7 = .ok (.iload_n 1, 1) := by decide +kernel
theorem dX2_correction_8 : decode cX2_correction 8 = .ok (.ifCond .le 7, 3) := by decide +kernel
theorem dX2_correction_11 : decode cX2_correction 11 = .ok (.iconst (-1), 1) := by decide +kernel
theorem dX2_correction_12 : decode cX2_correction 12 = .ok (.goto 16, 3) := by decide +kernel
theorem dX2_correction_15 : decode cX2_correction 15 = .ok (.aload_n 0, 1) := by decide +kernel
theorem dX2_correction_16 : decode cX2_correction 16 = .ok (.getfield 42, 3) := by decide +kernel
theorem dX2_correction_19 : decode cX2_correction 19 = .ok (.sipush 1000, 3) := by decide +kernel
theorem dX2_correction_22 : decode cX2_correction 22 = .ok (.imul, 1) := by decide +kernel
theorem dX2_correction_23 : decode cX2_correction 23 = .ok (.aload_n 0, 1) := by decide +kernel
theorem dX2_correction_24 : decode cX2_correction 24 = .ok (.getfield 39, 3) := by decide +kernel
theorem dX2_correction_27 : decode cX2_correction 27 = .ok (.idiv, 1) := by decide +kernel
theorem dX2_correction_28 : decode cX2_correction 28 = .ok (.ireturn, 1) := by decide +kernel
theorem dX2_credit_0 : decode cX2_credit 0 = .ok (.iload_n 2, 1) := by decide +kernel
theorem dX2_credit_1 : decode cX2_credit 1 = .ok (.aload_n 0, 1) := by decide +kernel
theorem dX2_credit_2 : decode cX2_credit 2 = .ok (.getfield 27, 3) := by decide +kernel
theorem dX2_credit_5 : decode cX2_credit 5 = .ok (.imul, 1) := by decide +kernel
theorem dX2_credit_6 : decode cX2_credit 6 = .ok (.bipush 100, 2) := by decide +kernel
theorem dX2_credit_8 : decode cX2_credit 8 = .ok (.idiv, 1) := by decide +kernel
theorem dX2_credit_9 : decode cX2_credit 9 = .ok (.istore_n 3, 1) := by decide +kernel
theorem dX2_credit_10 : decode cX2_credit 10 = .ok (.aload_n 0, 1) := by decide +kernel
theorem dX2_credit_11 : decode cX2_credit 11 = .ok (.dup, 1) := by decide +kernel
theorem dX2_credit_12 : decode cX2_credit 12 = .ok (.getfield 42, 3) := by decide +kernel
theorem dX2_credit_15 : decode cX2_credit 15 = .ok (.iload_n 1, 1) := by decide +kernel
theorem dX2_credit_16 : decode cX2_credit 16 = .ok (.iadd, 1) := by decide +kernel
theorem dX2_credit_17 : decode cX2_credit 17 = .ok (.putfield 42, 3) := by decide +kernel
theorem dX2_credit_20 : decode cX2_credit 20 = .ok (.aload_n 0, 1) := by decide +kernel
theorem dX2_credit_21 : decode cX2_credit 21 = .ok (.dup, 1) := by decide +kernel
theorem dX2_credit_22 : decode cX2_credit 22 = .ok (.getfield 48, 3) := by decide +kernel
theorem dX2_credit_25 : decode cX2_credit 25 = .ok (.iload_n 3, 1) := by decide +kernel
theorem dX2_credit_26 : decode cX2_credit 26 = .ok (.iadd, 1) := by decide +kernel
theorem dX2_credit_27 : decode cX2_credit 27 = .ok (.putfield 48, 3) := by decide +kernel
theorem dX2_credit_30 : decode cX2_credit 30 = .ok (.aload_n 0, 1) := by decide +kernel
theorem dX2_credit_31 : decode cX2_credit 31 = .ok (.dup, 1) := by decide +kernel
theorem dX2_credit_32 : decode cX2_credit 32 = .ok (.getfield 45, 3) := by decide +kernel
theorem dX2_credit_35 : decode cX2_credit 35 = .ok (.iload_n 2, 1) := by decide +kernel
theorem dX2_credit_36 : decode cX2_credit 36 = .ok (.iload_n 3, 1) := by decide +kernel
theorem dX2_credit_37 : decode cX2_credit 37 = .ok (.isub, 1) := by decide +kernel
theorem dX2_credit_38 : decode cX2_credit 38 = .ok (.iadd, 1) := by decide +kernel
theorem dX2_credit_39 : decode cX2_credit 39 = .ok (.putfield 45, 3) := by decide +kernel
theorem dX2_credit_42 : decode cX2_credit 42 = .ok (.return_, 1) := by decide +kernel
theorem dX3_init_0 : decode cX3_init 0 = .ok (.aload_n 0, 1) := by decide +kernel
theorem dX3_init_1 : decode cX3_init 1 = .ok (.invokespecial 3, 3) := by decide +kernel
theorem dX3_init_4 : decode cX3_init 4 = .ok (.aload_n 0, 1) := by decide +kernel
theorem dX3_init_5 : decode cX3_init 5 = .ok (.new 9, 3) := by decide +kernel
theorem dX3_init_8 : decode cX3_init 8 = .ok (.dup, 1) := by decide +kernel
theorem dX3_init_9 : decode cX3_init 9 = .ok (.invokespecial 11, 3) := by decide +kernel
theorem dX3_init_12 : decode cX3_init 12 = .ok (.putfield 12, 3) := by decide +kernel
theorem dX3_init_15 : decode cX3_init 15 = .ok (.aload_n 0, 1) := by decide +kernel
theorem dX3_init_16 : decode cX3_init 16 = .ok (.new 9, 3) := by decide +kernel
theorem dX3_init_19 : decode cX3_init 19 = .ok (.dup, 1) := by decide +kernel
theorem dX3_init_20 : decode cX3_init 20 = .ok (.invokespecial 11, 3) := by decide +kernel
theorem dX3_init_23 : decode cX3_init 23 = .ok (.putfield 18, 3) := by decide +kernel
theorem dX3_init_26 : decode cX3_init 26 = .ok (.aload_n 0, 1) := by decide +kernel
theorem dX3_init_27 : decode cX3_init 27 = .ok (.new 9, 3) := by decide +kernel
theorem dX3_init_30 : decode cX3_init 30 = .ok (.dup, 1) := by decide +kernel
theorem dX3_init_31 : decode cX3_init 31 = .ok (.invokespecial 11, 3) := by decide +kernel
theorem dX3_init_34 : decode cX3_init 34 = .ok (.putfield 21, 3) := by decide +kernel
theorem dX3_init_37 : decode cX3_init 37 = .ok (.aload_n 0, 1) := by decide +kernel
theorem dX3_init_38 : decode cX3_init 38 = .ok (.new 9, 3) := by decide +kernel
theorem dX3_init_41 : decode cX3_init 41 = .ok (.dup, 1) := by decide +kernel
theorem dX3_init_42 : decode cX3_init 42 = .ok (.invokespecial 11, 3) := by decide +kernel
theorem dX3_init_45 : decode cX3_init 45 = .ok (.putfield 24, 3) := by decide +kernel
theorem dX3_init_48 : decode cX3_init 48 = .ok (.aload_n 0, 1) := by decide +kernel
theorem dX3_init_49 : decode cX3_init 49 = .ok (.new 9, 3) := by decide +kernel
theorem dX3_init_52 : decode cX3_init 52 = .ok (.dup, 1) := by decide +kernel
theorem dX3_init_53 : decode cX3_init 53 = .ok (.invokespecial 11, 3) := by decide +kernel
theorem dX3_init_56 : decode cX3_init 56 = .ok (.putfield 27, 3) := by decide +kernel
theorem dX3_init_59 : decode cX3_init 59 = .ok (.aload_n 0, 1) := by decide +kernel
theorem dX3_init_60 : decode cX3_init 60 = .ok (.sipush 400, 3) := by decide +kernel
theorem dX3_init_63 : decode cX3_init 63 = .ok (.putfield 30, 3) := by decide +kernel
theorem dX3_init_66 : decode cX3_init 66 = .ok (.aload_n 0, 1) := by decide +kernel
theorem dX3_init_67 : decode cX3_init 67 = .ok (.sipush 1000, 3) := by decide +kernel
theorem dX3_init_70 : decode cX3_init 70 = .ok (.putfield 34, 3) := by decide +kernel
theorem dX3_init_73 : decode cX3_init 73 = .ok (.aload_n 0, 1) := by decide +kernel
theorem dX3_init_74 : decode cX3_init 74 = .ok (.iload_n 1, 1) := by decide +kernel
theorem dX3_init_75 : decode cX3_init 75 = .ok (.putfield 37, 3) := by decide +kernel
theorem dX3_init_78 : decode cX3_init 78 = .ok (.return_, 1) := by decide +kernel
theorem dX3_copyFrom_0 : decode cX3_copyFrom 0 = .ok (.aload_n 0, 1) := by decide +kernel
theorem dX3_copyFrom_1 : decode cX3_copyFrom 1 = .ok (.aload_n 1, 1) := by decide +kernel
theorem dX3_copyFrom_2 : decode cX3_copyFrom 2 = .ok (.getfield 41, 3) := by decide +kernel
theorem dX3_copyFrom_5 : decode cX3_copyFrom 5 = .ok (.putfield 41, 3) := by decide +kernel
theorem dX3_copyFrom_8 : decode cX3_copyFrom 8 = .ok (.aload_n 0, 1) := by decide +kernel
theorem dX3_copyFrom_9 : decode cX3_copyFrom 9 = .ok (.aload_n 1, 1) := by decide +kernel
theorem dX3_copyFrom_10 : decode cX3_copyFrom 10 = .ok (.getfield 30, 3) := by decide +kernel
theorem dX3_copyFrom_13 : decode cX3_copyFrom 13 = .ok (.putfield 30, 3) := by decide +kernel
theorem dX3_copyFrom_16 : decode cX3_copyFrom 16 = .ok (.aload_n 0, 1) := by decide +kernel
theorem dX3_copyFrom_17 : decode cX3_copyFrom 17 = .ok (.aload_n 1, 1) := by decide +kernel
theorem dX3_copyFrom_18 : decode cX3_copyFrom 18 = .ok (.getfield 34, 3) := by decide +kernel
theorem dX3_copyFrom_21 : decode cX3_copyFrom 21 = .ok (.putfield 34, 3) := by decide +kernel
theorem dX3_copyFrom_24 : decode cX3_copyFrom 24 = .ok (.aload_n 0, 1) := by decide +kernel
theorem dX3_copyFrom_25 : decode cX3_copyFrom 25 = .ok (.aload_n 1, 1) := by decide +kernel
theorem dX3_copyFrom_26 : decode cX3_copyFrom 26 = .ok (.invokevirtual 44, 3) := by decide +kernel
theorem dX3_copyFrom_29 : decode cX3_copyFrom 29 = .ok (.iconst 0, 1) := by decide +kernel
theorem dX3_copyFrom_30 : decode cX3_copyFrom 30 = .ok (.istore_n 2, 1) := by decide +kernel
theorem dX3_copyFrom_31 : decode cX3_copyFrom 31 = .ok (.iload_n 2, 1) := by decide +kernel
theorem dX3_copyFrom_32 : decode cX3_copyFrom 32 = .ok (.aload_n 1, 1) := by decide +kernel
theorem dX3_copyFrom_33 : decode cX3_copyFrom 33 = .ok (.getfield 12, 3) := by decide +kernel
theorem dX3_copyFrom_36 : decode cX3_copyFrom 36 = .ok (.invokevirtual 48, 3) := by decide +kernel
theorem dX3_copyFrom_39 : decode cX3_copyFrom 39 = .ok (.if_icmp .ge 45, 3) := by decide +kernel
theorem dX3_copyFrom_42 : decode cX3_copyFrom 42 = .ok (.iload_n 2, 1) := by decide +kernel
theorem dX3_copyFrom_43 : decode cX3_copyFrom 43 = .ok (.aload_n 0, 1) := by decide +kernel
theorem dX3_copyFrom_44 : decode cX3_copyFrom 44 = .ok (.getfield 12, 3) := by decide +kernel
theorem dX3_copyFrom_47 : decode cX3_copyFrom 47 = .ok (.invokevirtual 48, 3) := by decide +kernel
theorem dX3_copyFrom_50 : decode cX3_copyFrom 50 = .ok (.if_icmp .ge 34, 3) := by decide +kernel
theorem dX3_copyFrom_53 : decode cX3_copyFrom 53 = .ok (.aload_n 0, 1) := by decide +kernel
theorem dX3_copyFrom_54 : decode cX3_copyFrom 54 = .ok (.getfield 12, 3) := by decide +kernel
theorem dX3_copyFrom_57 : decode cX3_copyFrom 57 = .ok (.iload_n 2, 1) := by decide +kernel
theorem dX3_copyFrom_58 : decode cX3_copyFrom 58 = .ok (.invokevirtual 52, 3) := by decide +kernel
theorem dX3_copyFrom_61 : decode cX3_copyFrom 61 = .ok (.checkcast 56, 3) := by decide +kernel
theorem dX3_copyFrom_64 : decode cX3_copyFrom 64 = .ok (.aload_n 1, 1) := by decide +kernel
theorem dX3_copyFrom_65 : decode cX3_copyFrom 65 = .ok (.getfield 12, 3) := by decide +kernel
theorem dX3_copyFrom_68 : decode cX3_copyFrom 68 = .ok (.iload_n 2, 1) := by decide +kernel
theorem dX3_copyFrom_69 : decode cX3_copyFrom 69 = .ok (.invokevirtual 52, 3) := by decide +kernel
theorem dX3_copyFrom_72 : decode cX3_copyFrom 72 = .ok (.checkcast 56, 3) := by decide +kernel
theorem dX3_copyFrom_75 : decode cX3_copyFrom 75 = .ok (.invokevirtual 58, 3) := by decide +kernel
theorem dX3_copyFrom_78 : decode cX3_copyFrom 78 = .ok (.iinc 2 1, 3) := by decide +kernel
theorem dX3_copyFrom_81 : decode cX3_copyFrom 81 = .ok (.goto (-50), 3) := by decide +kernel
theorem dX3_copyFrom_84 : decode cX3_copyFrom 84 = .ok (.iconst 0, 1) := by decide +kernel
theorem dX3_copyFrom_85 : decode cX3_copyFrom 85 = .ok (.istore_n 2, 1) := by decide +kernel
theorem dX3_copyFrom_86 : decode cX3_copyFrom 86 = .ok (.iload_n 2, 1) := by decide +kernel
theorem dX3_copyFrom_87 : decode cX3_copyFrom 87 = .ok (.aload_n 1, 1) := by decide +kernel
theorem dX3_copyFrom_88 : decode cX3_copyFrom 88 = .ok (.getfield 18, 3) := by decide +kernel
theorem dX3_copyFrom_91 : decode cX3_copyFrom 91 = .ok (.invokevirtual 48, 3) := by decide +kernel
theorem dX3_copyFrom_94 : decode cX3_copyFrom 94 = .ok (.if_icmp .ge 45, 3) := by decide +kernel
theorem dX3_copyFrom_97 : decode cX3_copyFrom 97 = .ok (.iload_n 2, 1) := by decide +kernel
theorem dX3_copyFrom_98 : decode cX3_copyFrom 98 = .ok (.aload_n 0, 1) := by decide +kernel
theorem dX3_copyFrom_99 : decode cX3_copyFrom 99 = .ok (.getfield 18, 3) := by decide +kernel
theorem dX3_copyFrom_102 : decode cX3_copyFrom 102 = .ok (.invokevirtual 48, 3) := by decide +kernel
theorem dX3_copyFrom_105 : decode cX3_copyFrom 105 = .ok (.if_icmp .ge 34, 3) := by decide +kernel
theorem dX3_copyFrom_108 : decode cX3_copyFrom 108 = .ok (.aload_n 0, 1) := by decide +kernel
theorem dX3_copyFrom_109 : decode cX3_copyFrom 109 = .ok (.getfield 18, 3) := by decide +kernel
theorem dX3_copyFrom_112 : decode cX3_copyFrom 112 = .ok (.iload_n 2, 1) := by decide +kernel
theorem dX3_copyFrom_113 : decode cX3_copyFrom 113 = .ok (.invokevirtual 52, 3) := by decide +kernel
theorem dX3_copyFrom_116 : decode cX3_copyFrom 116 = .ok (.checkcast 62, 3) := by decide +kernel
theorem dX3_copyFrom_119 : decode cX3_copyFrom 119 = .ok (.aload_n 1, 1) := by decide +kernel
theorem dX3_copyFrom_120 : decode cX3_copyFrom 120 = .ok (.getfield 18, 3) := by decide +kernel
theorem dX3_copyFrom_123 : decode cX3_copyFrom 123 = .ok (.iload_n 2, 1) := by decide +kernel
theorem dX3_copyFrom_124 : decode cX3_copyFrom 124 = .ok (.invokevirtual 52, 3) := by decide +kernel
theorem dX3_copyFrom_127 : decode cX3_copyFrom 127 = .ok (.checkcast 62, 3) := by decide +kernel
theorem dX3_copyFrom_130 : decode cX3_copyFrom 130 = .ok (.invokevirtual 64, 3) := by decide +kernel
theorem dX3_copyFrom_133 : decode cX3_copyFrom 133 = .ok (.iinc 2 1, 3) := by decide +kernel
theorem dX3_copyFrom_136 : decode cX3_copyFrom 136 = .ok (.goto (-50), 3) := by decide +kernel
theorem dX3_copyFrom_139 : decode cX3_copyFrom 139 = .ok (.iconst 0, 1) := by decide +kernel
theorem dX3_copyFrom_140 : decode cX3_copyFrom 140 = .ok (.istore_n 2, 1) := by decide +kernel
theorem dX3_copyFrom_141 : decode cX3_copyFrom 141 = .ok (.iload_n 2, 1) := by decide +kernel
theorem dX3_copyFrom_142 : decode cX3_copyFrom 142 = .ok (.aload_n 1, 1) := by decide +kernel
theorem dX3_copyFrom_143 : decode cX3_copyFrom 143 = .ok (.getfield 21, 3) := by decide +kernel
theorem dX3_copyFrom_146 : decode cX3_copyFrom 146 = .ok (.invokevirtual 48, 3) := by decide +kernel
theorem dX3_copyFrom_149 : decode cX3_copyFrom 149 = .ok (.if_icmp .ge 45, 3) := by decide +kernel
theorem dX3_copyFrom_152 : decode cX3_copyFrom 152 = .ok (.iload_n 2, 1) := by decide +kernel
theorem dX3_copyFrom_153 : decode cX3_copyFrom 153 = .ok (.aload_n 0, 1) := by decide +kernel
theorem dX3_copyFrom_154 : decode cX3_copyFrom 154 = .ok (.getfield 21, 3) := by decide +kernel
theorem dX3_copyFrom_157 : decode cX3_copyFrom 157 = .ok (.invokevirtual 48, 3) := by decide +kernel
theorem dX3_copyFrom_160 : decode cX3_copyFrom 160 = .ok (.if_icmp .ge 34, 3) := by decide +kernel
theorem dX3_copyFrom_163 : decode cX3_copyFrom 163 = .ok (.aload_n 0, 1) := by decide +kernel
theorem dX3_copyFrom_164 : decode cX3_copyFrom 164 = .ok (.getfield 21, 3) := by decide +kernel
theorem dX3_copyFrom_167 : decode cX3_copyFrom 167 = .ok (.iload_n 2, 1) := by decide +kernel
theorem dX3_copyFrom_168 : decode cX3_copyFrom 168 = .ok (.invokevirtual 52, 3) := by decide +kernel
theorem dX3_copyFrom_171 : decode cX3_copyFrom 171 = .ok (.checkcast 67, 3) := by decide +kernel
theorem dX3_copyFrom_174 : decode cX3_copyFrom 174 = .ok (.aload_n 1, 1) := by decide +kernel
theorem dX3_copyFrom_175 : decode cX3_copyFrom 175 = .ok (.getfield 21, 3) := by decide +kernel
theorem dX3_copyFrom_178 : decode cX3_copyFrom 178 = .ok (.iload_n 2, 1) := by decide +kernel
theorem dX3_copyFrom_179 : decode cX3_copyFrom 179 = .ok (.invokevirtual 52, 3) := by decide +kernel
theorem dX3_copyFrom_182 : decode cX3_copyFrom 182 = .ok (.checkcast 67, 3) := by decide +kernel
theorem dX3_copyFrom_185 : decode cX3_copyFrom 185 = .ok (.invokevirtual 69, 3) := by decide +kernel
theorem dX3_copyFrom_188 : decode cX3_copyFrom 188 = .ok (.iinc 2 1, 3) := by decide +kernel
theorem dX3_copyFrom_191 : decode cX3_copyFrom 191 = .ok (.goto (-50), 3) := by decide +kernel
theorem dX3_copyFrom_194 : decode cX3_copyFrom 194 = .ok (.iconst 0, 1) := by decide +kernel
theorem dX3_copyFrom_195 : decode cX3_copyFrom 195 = .ok (.istore_n 2, 1) := by decide +kernel
theorem dX3_copyFrom_196 : decode cX3_copyFrom 196 = .ok (.iload_n 2, 1) := by decide +kernel
theorem dX3_copyFrom_197 : decode cX3_copyFrom 197 = .ok (.aload_n 1, 1) := by decide +kernel
theorem dX3_copyFrom_198 : decode cX3_copyFrom 198 = .ok (.getfield 24, 3) := by decide +kernel
theorem dX3_copyFrom_201 : decode cX3_copyFrom 201 = .ok (.invokevirtual 48, 3) := by decide +kernel
theorem dX3_copyFrom_204 : decode cX3_copyFrom 204 = .ok (.if_icmp .ge 45, 3) := by decide +kernel
theorem dX3_copyFrom_207 : decode cX3_copyFrom 207 = .ok (.iload_n 2, 1) := by decide +kernel
theorem dX3_copyFrom_208 : decode cX3_copyFrom 208 = .ok (.aload_n 0, 1) := by decide +kernel
theorem dX3_copyFrom_209 : decode cX3_copyFrom 209 = .ok (.getfield 24, 3) := by decide +kernel
theorem dX3_copyFrom_212 : decode cX3_copyFrom 212 = .ok (.invokevirtual 48, 3) := by decide +kernel
theorem dX3_copyFrom_215 : decode cX3_copyFrom 215 = .ok (.if_icmp .ge 34, 3) := by decide +kernel
theorem dX3_copyFrom_218 : decode cX3_copyFrom 218 = .ok (.aload_n 0, 1) := by decide +kernel
theorem dX3_copyFrom_219 : decode cX3_copyFrom 219 = .ok (.getfield 24, 3) := by decide +kernel
theorem dX3_copyFrom_222 : decode cX3_copyFrom 222 = .ok (.iload_n 2, 1) := by decide +kernel
theorem dX3_copyFrom_223 : decode cX3_copyFrom 223 = .ok (.invokevirtual 52, 3) := by decide +kernel
theorem dX3_copyFrom_226 : decode cX3_copyFrom 226 = .ok (.checkcast 72, 3) := by decide +kernel
theorem dX3_copyFrom_229 : decode cX3_copyFrom 229 = .ok (.aload_n 1, 1) := by decide +kernel
theorem dX3_copyFrom_230 : decode cX3_copyFrom 230 = .ok (.getfield 24, 3) := by decide +kernel
theorem dX3_copyFrom_233 : decode cX3_copyFrom 233 = .ok (.iload_n 2, 1) := by decide +kernel
theorem dX3_copyFrom_234 : decode cX3_copyFrom 234 = .ok (.invokevirtual 52, 3) := by decide +kernel
theorem dX3_copyFrom_237 : decode cX3_copyFrom 237 = .ok (.checkcast 72, 3) := by decide +kernel
theorem dX3_copyFrom_240 : decode cX3_copyFrom 240 = .ok (.invokevirtual 74, 3) := by decide +kernel
theorem dX3_copyFrom_243 : decode cX3_copyFrom 243 = .ok (.iinc 2 1, 3) := by decide +kernel
theorem dX3_copyFrom_246 : decode cX3_copyFrom 246 = .ok (.goto (-50), 3) := by decide +kernel
theorem dX3_copyFrom_249 : decode cX3_copyFrom 249 = .ok (.return_, 1) := by decide +kernel
theorem dX3_addRowsAs_0 : decode cX3_addRowsAs 0 = .ok (.aload_n 0, 1) := by decide +kernel
theorem dX3_addRowsAs_1 : decode cX3_addRowsAs 1 = .ok (.getfield 12, 3) := by decide +kernel
theorem dX3_addRowsAs_4 : decode cX3_addRowsAs 4 = .ok (.invokevirtual 48, 3) := by decide +kernel
theorem dX3_addRowsAs_7 : decode cX3_addRowsAs 7 = .ok (.istore_n 2, 1) := by decide +kernel
theorem dX3_addRowsAs_8 : decode cX3_addRowsAs 8 = .ok (.iload_n 2, 1) := by decide +kernel
theorem dX3_addRowsAs_9 : decode cX3_addRowsAs 9 = .ok (.aload_n 1, 1) := by decide +kernel
theorem dX3_addRowsAs_10 : decode cX3_addRowsAs 10 = .ok (.getfield 12, 3) := by decide +kernel
theorem dX3_addRowsAs_13 : decode cX3_addRowsAs 13 = .ok (.invokevirtual 48, 3) := by decide +kernel
theorem dX3_addRowsAs_16 : decode cX3_addRowsAs 16 = .ok (.if_icmp .ge 29, 3) := by decide +kernel
theorem dX3_addRowsAs_19 : decode cX3_addRowsAs 19 = .ok (.aload_n 0, 1) := by decide +kernel
theorem dX3_addRowsAs_20 : decode cX3_addRowsAs 20 = .ok (.getfield 12, 3) := by decide +kernel
theorem dX3_addRowsAs_23 : decode cX3_addRowsAs 23 = .ok (.new 56, 3) := by decide +kernel
theorem dX3_addRowsAs_26 : decode cX3_addRowsAs 26 = .ok (.dup, 1) := by decide +kernel
theorem dX3_addRowsAs_27 : decode cX3_addRowsAs 27 = .ok (.iconst 0, 1) := by decide +kernel
theorem dX3_addRowsAs_28 : decode cX3_addRowsAs 28 = .ok (.iconst 0, 1) := by decide +kernel
theorem dX3_addRowsAs_29 : decode cX3_addRowsAs 29 = .ok (.iconst 0, 1) := by decide +kernel
theorem dX3_addRowsAs_30 : decode cX3_addRowsAs 30 = .ok (.iconst 0, 1) := by decide +kernel
theorem dX3_addRowsAs_31 : decode cX3_addRowsAs 31 = .ok (.iconst 0, 1) := by decide +kernel
theorem dX3_addRowsAs_32 : decode cX3_addRowsAs 32 = .ok (.invokespecial 77, 3) := by decide +kernel
theorem dX3_addRowsAs_35 : decode cX3_addRowsAs 35 = .ok (.invokevirtual 80, 3) := by decide +kernel
theorem dX3_addRowsAs_38 : decode cX3_addRowsAs 38 = .ok (.pop, 1) := by decide +kernel
theorem dX3_addRowsAs_39 : decode cX3_addRowsAs 39 = .ok (.iinc 2 1, 3) := by decide +kernel
theorem dX3_addRowsAs_42 : decode cX3_addRowsAs 42 = .ok (.goto (-34), 3) := by decide +kernel
theorem dX3_addRowsAs_45 : decode cX3_addRowsAs 45 = .ok (.aload_n 0, 1) := by decide +kernel
theorem dX3_addRowsAs_46 : decode cX3_addRowsAs 46 = .ok (.getfield 18, 3) := by decide +kernel
theorem dX3_addRowsAs_49 : decode cX3_addRowsAs 49 = .ok (.invokevirtual 48, 3) := by decide +kernel
theorem dX3_addRowsAs_52 : decode cX3_addRowsAs 52 = .ok (.istore_n 2, 1) := by decide +kernel
theorem dX3_addRowsAs_53 : decode cX3_addRowsAs 53 = .ok (.iload_n 2, 1) := by decide +kernel
theorem dX3_addRowsAs_54 : decode cX3_addRowsAs 54 = .ok (.aload_n 1, 1) := by decide +kernel
theorem dX3_addRowsAs_55 : decode cX3_addRowsAs 55 = .ok (.getfield 18, 3) := by decide +kernel
theorem dX3_addRowsAs_58 : decode cX3_addRowsAs 58 = .ok (.invokevirtual 48, 3) := by decide +kernel
theorem dX3_addRowsAs_61 : decode cX3_addRowsAs 61 = .ok (.if_icmp .ge 27, 3) := by decide +kernel
theorem dX3_addRowsAs_64 : decode cX3_addRowsAs 64 = .ok (.aload_n 0, 1) := by decide +kernel
theorem dX3_addRowsAs_65 : decode cX3_addRowsAs 65 = .ok (.getfield 18, 3) := by decide +kernel
theorem dX3_addRowsAs_68 : decode cX3_addRowsAs 68 = .ok (.new 62, 3) := by decide +kernel
theorem dX3_addRowsAs_71 : decode cX3_addRowsAs 71 = .ok (.dup, 1) := by decide +kernel
theorem dX3_addRowsAs_72 : decode cX3_addRowsAs 72 = .ok (.iconst 0, 1) := by decide +kernel
theorem dX3_addRowsAs_73 : decode cX3_addRowsAs 73 = .ok (.iconst 0, 1) := by decide +kernel
theorem dX3_addRowsAs_74 : decode cX3_addRowsAs 74 = .ok (.iconst 0, 1) := by decide +kernel
theorem dX3_addRowsAs_75 : decode cX3_addRowsAs 75 = .ok (.invokespecial 84, 3) := by decide +kernel
theorem dX3_addRowsAs_78 : decode cX3_addRowsAs 78 = .ok (.invokevirtual 80, 3) := by decide +kernel
theorem dX3_addRowsAs_81 : decode cX3_addRowsAs 81 = .ok (.pop, 1) := by decide +kernel
theorem dX3_addRowsAs_82 : decode cX3_addRowsAs 82 = .ok (.iinc 2 1, 3) := by decide +kernel
theorem dX3_addRowsAs_85 : decode cX3_addRowsAs 85 = .ok (.goto (-32), 3) := by decide +kernel
theorem dX3_addRowsAs_88 : decode cX3_addRowsAs 88 = .ok (.aload_n 0, 1) := by decide +kernel
theorem dX3_addRowsAs_89 : decode cX3_addRowsAs 89 = .ok (.getfield 21, 3) := by decide +kernel
theorem dX3_addRowsAs_92 : decode cX3_addRowsAs 92 = .ok (.invokevirtual 48, 3) := by decide +kernel
theorem dX3_addRowsAs_95 : decode cX3_addRowsAs 95 = .ok (.istore_n 2, 1) := by decide +kernel
theorem dX3_addRowsAs_96 : decode cX3_addRowsAs 96 = .ok (.iload_n 2, 1) := by decide +kernel
theorem dX3_addRowsAs_97 : decode cX3_addRowsAs 97 = .ok (.aload_n 1, 1) := by decide +kernel
theorem dX3_addRowsAs_98 : decode cX3_addRowsAs 98 = .ok (.getfield 21, 3) := by decide +kernel
theorem dX3_addRowsAs_101 : decode cX3_addRowsAs 101 = .ok (.invokevirtual 48, 3) := by decide +kernel
theorem dX3_addRowsAs_104 : decode cX3_addRowsAs 104 = .ok (.if_icmp .ge 25, 3) := by decide +kernel
theorem dX3_addRowsAs_107 : decode cX3_addRowsAs 107 = .ok (.aload_n 0, 1) := by decide +kernel
theorem dX3_addRowsAs_108 : decode cX3_addRowsAs 108 = .ok (.getfield 21, 3) := by decide +kernel
theorem dX3_addRowsAs_111 : decode cX3_addRowsAs 111 = .ok (.new 67, 3) := by decide +kernel
theorem dX3_addRowsAs_114 : decode cX3_addRowsAs 114 = .ok (.dup, 1) := by decide +kernel
theorem dX3_addRowsAs_115 : decode cX3_addRowsAs 115 = .ok (.iconst 0, 1) := by decide +kernel
theorem dX3_addRowsAs_116 : decode cX3_addRowsAs 116 = .ok (.invokespecial 87, 3) := by decide +kernel
theorem dX3_addRowsAs_119 : decode cX3_addRowsAs 119 = .ok (.invokevirtual 80, 3) := by decide +kernel
theorem dX3_addRowsAs_122 : decode cX3_addRowsAs 122 = .ok (.pop, 1) := by decide +kernel
theorem dX3_addRowsAs_123 : decode cX3_addRowsAs 123 = .ok (.iinc 2 1, 3) := by decide +kernel
theorem dX3_addRowsAs_126 : decode cX3_addRowsAs 126 = .ok (.goto (-30), 3) := by decide +kernel
theorem dX3_addRowsAs_129 : decode cX3_addRowsAs 129 = .ok (.aload_n 0, 1) := by decide +kernel
theorem dX3_addRowsAs_130 : decode cX3_addRowsAs 130 = .ok (.getfield 24, 3) := by decide +kernel
theorem dX3_addRowsAs_133 : decode cX3_addRowsAs 133 = .ok (.invokevirtual 48, 3) := by decide +kernel
theorem dX3_addRowsAs_136 : decode cX3_addRowsAs 136 = .ok (.istore_n 2, 1) := by decide +kernel
theorem dX3_addRowsAs_137 : decode cX3_addRowsAs 137 = .ok (.iload_n 2, 1) := by decide +kernel
theorem dX3_addRowsAs_138 : decode cX3_addRowsAs 138 = .ok (.aload_n 1, 1) := by decide +kernel
theorem dX3_addRowsAs_139 : decode cX3_addRowsAs 139 = .ok (.getfield 24, 3) := by decide +kernel
theorem dX3_addRowsAs_142 : decode cX3_addRowsAs 142 = .ok (.invokevirtual 48, 3) := by decide +kernel
theorem dX3_addRowsAs_145 : decode cX3_addRowsAs 145 = .ok (.if_icmp .ge 30, 3) := by decide +kernel
theorem dX3_addRowsAs_148 : decode cX3_addRowsAs 148 = .ok (.aload_n 0, 1) := by decide +kernel
theorem dX3_addRowsAs_149 : decode cX3_addRowsAs 149 = .ok (.getfield 24, 3) := by decide +kernel
theorem dX3_addRowsAs_152 : decode cX3_addRowsAs 152 = .ok (.new 72, 3) := by decide +kernel
theorem dX3_addRowsAs_155 : decode cX3_addRowsAs 155 = .ok (.dup, 1) := by decide +kernel
theorem dX3_addRowsAs_156 : decode cX3_addRowsAs 156 = .ok (.iconst 0, 1) := by decide +kernel
theorem dX3_addRowsAs_157 : decode cX3_addRowsAs 157 = .ok (.iconst 0, 1) := by decide +kernel
theorem dX3_addRowsAs_158 : decode cX3_addRowsAs 158 = .ok (.iconst 0, 1) := by decide +kernel
theorem dX3_addRowsAs_159 : decode cX3_addRowsAs 159 = .ok (.iconst 0, 1) := by decide +kernel
theorem dX3_addRowsAs_160 : decode cX3_addRowsAs 160 = .ok (.iconst 0, 1) := by decide +kernel
theorem dX3_addRowsAs_161 : decode cX3_addRowsAs 161 = .ok (.iconst 0, 1) := by decide +kernel
theorem dX3_addRowsAs_162 : decode cX3_addRowsAs 162 = .ok (.invokespecial 90, 3) := by decide +kernel
theorem dX3_addRowsAs_165 : decode cX3_addRowsAs 165 = .ok (.invokevirtual 80, 3) := by decide +kernel
theorem dX3_addRowsAs_168 : decode cX3_addRowsAs 168 = .ok (.pop, 1) := by decide +kernel
theorem dX3_addRowsAs_169 : decode cX3_addRowsAs 169 = .ok (.iinc 2 1, 3) := by decide +kernel
theorem dX3_addRowsAs_172 : decode cX3_addRowsAs 172 = .ok (.goto (-35), 3) := by decide +kernel
theorem dX3_addRowsAs_175 : decode cX3_addRowsAs 175 = .ok (.return_, 1) := by decide +kernel
theorem dX3_fieldAt_0 : decode cX3_fieldAt 0 = .ok (.iload_n 1, 1) := by decide +kernel
theorem dX3_fieldAt_1 : decode cX3_fieldAt 1 = .ok (.ifCond .lt 28, 3) := by decide +kernel
theorem dX3_fieldAt_4 : decode cX3_fieldAt 4 = .ok (.iload_n 1, 1) := by decide +kernel
theorem dX3_fieldAt_5 : decode cX3_fieldAt 5 = .ok (.aload_n 0, 1) := by decide +kernel
theorem dX3_fieldAt_6 : decode cX3_fieldAt 6 = .ok (.getfield 12, 3) := by decide +kernel
theorem dX3_fieldAt_9 : decode cX3_fieldAt 9 = .ok (.invokevirtual 48, 3) := by decide +kernel
theorem dX3_fieldAt_12 : decode cX3_fieldAt 12 = .ok (.if_icmp .ge 17, 3) := by decide +kernel
theorem dX3_fieldAt_15 : decode cX3_fieldAt 15 = .ok (.aload_n 0, 1) := by decide +kernel
theorem dX3_fieldAt_16 : decode cX3_fieldAt 16 = .ok (.getfield 12, 3) := by decide +kernel
theorem dX3_fieldAt_19 : decode cX3_fieldAt 19 = .ok (.iload_n 1, 1) := by decide +kernel
theorem dX3_fieldAt_20 : decode cX3_fieldAt 20 = .ok (.invokevirtual 52, 3) := by decide +kernel
theorem dX3_fieldAt_23 : decode cX3_fieldAt 23 = .ok (.checkcast 56, 3) := by decide +kernel
theorem dX3_fieldAt_26 : decode cX3_fieldAt 26 = .ok (.goto 4, 3) := by decide +kernel
theorem dX3_fieldAt_29 : decode cX3_fieldAt 29 = .ok (.aconst_null, 1) := by decide +kernel
theorem dX3_fieldAt_30 : decode cX3_fieldAt 30 = .ok (.areturn, 1) := by decide +kernel
theorem dX3_combineAt_0 : decode cX3_combineAt 0 = .ok (.iload_n 1, 1) := by decide +kernel
theorem dX3_combineAt_1 : decode cX3_combineAt 1 = .ok (.ifCond .lt 28, 3) := by decide +kernel
theorem dX3_combineAt_4 : decode cX3_combineAt 4 = .ok (.iload_n 1, 1) := by decide +kernel
theorem dX3_combineAt_5 : decode cX3_combineAt 5 = .ok (.aload_n 0, 1) := by decide +kernel
theorem dX3_combineAt_6 : decode cX3_combineAt 6 = .ok (.getfield 18, 3) := by decide +kernel
theorem dX3_combineAt_9 : decode cX3_combineAt 9 = .ok (.invokevirtual 48, 3) := by decide +kernel
theorem dX3_combineAt_12 : decode cX3_combineAt 12 = .ok (.if_icmp .ge 17, 3) := by decide +kernel
theorem dX3_combineAt_15 : decode cX3_combineAt 15 = .ok (.aload_n 0, 1) := by decide +kernel
theorem dX3_combineAt_16 : decode cX3_combineAt 16 = .ok (.getfield 18, 3) := by decide +kernel
theorem dX3_combineAt_19 : decode cX3_combineAt 19 = .ok (.iload_n 1, 1) := by decide +kernel
theorem dX3_combineAt_20 : decode cX3_combineAt 20 = .ok (.invokevirtual 52, 3) := by decide +kernel
theorem dX3_combineAt_23 : decode cX3_combineAt 23 = .ok (.checkcast 62, 3) := by decide +kernel
theorem dX3_combineAt_26 : decode cX3_combineAt 26 = .ok (.goto 4, 3) := by decide +kernel
theorem dX3_combineAt_29 : decode cX3_combineAt 29 = .ok (.aconst_null, 1) := by decide +kernel
theorem dX3_combineAt_30 : decode cX3_combineAt 30 = .ok (.areturn, 1) := by decide +kernel
theorem dX3_truckAt_0 : decode cX3_truckAt 0 = .ok (.iload_n 1, 1) := by decide +kernel
theorem dX3_truckAt_1 : decode cX3_truckAt 1 = .ok (.ifCond .lt 28, 3) := by decide +kernel
theorem dX3_truckAt_4 : decode cX3_truckAt 4 = .ok (.iload_n 1, 1) := by decide +kernel
theorem dX3_truckAt_5 : decode cX3_truckAt 5 = .ok (.aload_n 0, 1) := by decide +kernel
theorem dX3_truckAt_6 : decode cX3_truckAt 6 = .ok (.getfield 21, 3) := by decide +kernel
theorem dX3_truckAt_9 : decode cX3_truckAt 9 = .ok (.invokevirtual 48, 3) := by decide +kernel
theorem dX3_truckAt_12 : decode cX3_truckAt 12 = .ok (.if_icmp .ge 17, 3) := by decide +kernel
theorem dX3_truckAt_15 : decode cX3_truckAt 15 = .ok (.aload_n 0, 1) := by decide +kernel
theorem dX3_truckAt_16 : decode cX3_truckAt 16 = .ok (.getfield 21, 3) := by decide +kernel
theorem dX3_truckAt_19 : decode cX3_truckAt 19 = .ok (.iload_n 1, 1) := by decide +kernel
theorem dX3_truckAt_20 : decode cX3_truckAt 20 = .ok (.invokevirtual 52, 3) := by decide +kernel
theorem dX3_truckAt_23 : decode cX3_truckAt 23 = .ok (.checkcast 67, 3) := by decide +kernel
theorem dX3_truckAt_26 : decode cX3_truckAt 26 = .ok (.goto 4, 3) := by decide +kernel
theorem dX3_truckAt_29 : decode cX3_truckAt 29 = .ok (.aconst_null, 1) := by decide +kernel
theorem dX3_truckAt_30 : decode cX3_truckAt 30 = .ok (.areturn, 1) := by decide +kernel
theorem dX3_elevatorAt_0 : decode cX3_elevatorAt 0 = .ok (.iload_n 1, 1) := by decide +kernel
theorem dX3_elevatorAt_1 : decode cX3_elevatorAt 1 = .ok (.ifCond .lt 28, 3) := by decide +kernel
theorem dX3_elevatorAt_4 : decode cX3_elevatorAt 4 = .ok (.iload_n 1, 1) := by decide +kernel
theorem dX3_elevatorAt_5 : decode cX3_elevatorAt 5 = .ok (.aload_n 0, 1) := by decide +kernel
theorem dX3_elevatorAt_6 : decode cX3_elevatorAt 6 = .ok (.getfield 24, 3) := by decide +kernel
theorem dX3_elevatorAt_9 : decode cX3_elevatorAt 9 = .ok (.invokevirtual 48, 3) := by decide +kernel
theorem dX3_elevatorAt_12 : decode cX3_elevatorAt 12 = .ok (.if_icmp .ge 17, 3) := by decide +kernel
theorem dX3_elevatorAt_15 : decode cX3_elevatorAt 15 = .ok (.aload_n 0, 1) := by decide +kernel
theorem dX3_elevatorAt_16 : decode cX3_elevatorAt 16 = .ok (.getfield 24, 3) := by decide +kernel
theorem dX3_elevatorAt_19 : decode cX3_elevatorAt 19 = .ok (.iload_n 1, 1) := by decide +kernel
theorem dX3_elevatorAt_20 : decode cX3_elevatorAt 20 = .ok (.invokevirtual 52, 3) := by decide +kernel
theorem dX3_elevatorAt_23 : decode cX3_elevatorAt 23 = .ok (.checkcast 72, 3) := by decide +kernel
theorem dX3_elevatorAt_26 : decode cX3_elevatorAt 26 = .ok (.goto 4, 3) := by decide +kernel
theorem dX3_elevatorAt_29 : decode cX3_elevatorAt 29 = .ok (.aconst_null, 1) := by decide +kernel
theorem dX3_elevatorAt_30 : decode cX3_elevatorAt 30 = .ok (.areturn, 1) := by decide +kernel
theorem dX3_ticketAt_0 : decode cX3_ticketAt 0 = .ok (.iload_n 1, 1) := by decide +kernel
theorem dX3_ticketAt_1 : decode cX3_ticketAt 1 = .ok (.ifCond .lt 28, 3) := by decide +kernel
theorem dX3_ticketAt_4 : decode cX3_ticketAt 4 = .ok (.iload_n 1, 1) := by decide +kernel
theorem dX3_ticketAt_5 : decode cX3_ticketAt 5 = .ok (.aload_n 0, 1) := by decide +kernel
theorem dX3_ticketAt_6 : decode cX3_ticketAt 6 = .ok (.getfield 27, 3) := by decide +kernel
theorem dX3_ticketAt_9 : decode cX3_ticketAt 9 = .ok (.invokevirtual 48, 3) := by decide +kernel
theorem dX3_ticketAt_12 : decode cX3_ticketAt 12 = .ok (.if_icmp .ge 17, 3) := by decide +kernel
theorem dX3_ticketAt_15 : decode cX3_ticketAt 15 = .ok (.aload_n 0, 1) := by decide +kernel
theorem dX3_ticketAt_16 : decode cX3_ticketAt 16 = .ok (.getfield 27, 3) := by decide +kernel
theorem dX3_ticketAt_19 : decode cX3_ticketAt 19 = .ok (.iload_n 1, 1) := by decide +kernel
theorem dX3_ticketAt_20 : decode cX3_ticketAt 20 = .ok (.invokevirtual 52, 3) := by decide +kernel
theorem dX3_ticketAt_23 : decode cX3_ticketAt 23 = .ok (.checkcast 93, 3) := by decide +kernel
theorem dX3_ticketAt_26 : decode cX3_ticketAt 26 = .ok (.goto 4, 3) := by decide +kernel
theorem dX3_ticketAt_29 : decode cX3_ticketAt 29 = .ok (.aconst_null, 1) := by decide +kernel
theorem dX3_ticketAt_30 : decode cX3_ticketAt 30 = .ok (.areturn, 1) := by decide +kernel
theorem dX3_clock_0 : decode cX3_clock 0 = .ok (.aload_n 0, 1) := by decide +kernel
theorem dX3_clock_1 : decode cX3_clock 1 = .ok (.getfield 41, 3) := by decide +kernel
theorem dX3_clock_4 : decode cX3_clock 4 = .ok (.bipush 24, 2) := by decide +kernel
theorem dX3_clock_6 : decode cX3_clock 6 = .ok (.irem, 1) := by decide +kernel
theorem dX3_clock_7 : decode cX3_clock 7 = .ok (.ireturn, 1) := by decide +kernel
theorem dX3_passHour_0 : decode cX3_passHour 0 = .ok (.aload_n 0, 1) := by decide +kernel
theorem dX3_passHour_1 : decode cX3_passHour 1 = .ok (.dup, 1) := by decide +kernel
theorem dX3_passHour_2 : decode cX3_passHour 2 = .ok (.getfield 41, 3) := by decide +kernel
theorem dX3_passHour_5 : decode cX3_passHour 5 = .ok (.iconst 1, 1) := by decide +kernel
theorem dX3_passHour_6 : decode cX3_passHour 6 = .ok (.iadd, 1) := by decide +kernel
theorem dX3_passHour_7 : decode cX3_passHour 7 = .ok (.putfield 41, 3) := by decide +kernel
theorem dX3_passHour_10 : decode cX3_passHour 10 = .ok (.iconst 0, 1) := by decide +kernel
theorem dX3_passHour_11 : decode cX3_passHour 11 = .ok (.istore 4, 2) := by decide +kernel
theorem dX3_passHour_13 : decode cX3_passHour 13 = .ok (.iload 4, 2) := by decide +kernel
theorem dX3_passHour_15 : decode cX3_passHour 15 = .ok (.aload_n 0, 1) := by decide +kernel
theorem dX3_passHour_16 : decode cX3_passHour 16 = .ok (.getfield 12, 3) := by decide +kernel
theorem dX3_passHour_19 : decode cX3_passHour 19 = .ok (.invokevirtual 48, 3) := by decide +kernel
theorem dX3_passHour_22 : decode cX3_passHour 22 = .ok (.if_icmp .ge 31, 3) := by decide +kernel
theorem dX3_passHour_25 : decode cX3_passHour 25 = .ok (.aload_n 0, 1) := by decide +kernel
theorem dX3_passHour_26 : decode cX3_passHour 26 = .ok (.getfield 12, 3) := by decide +kernel
theorem dX3_passHour_29 : decode cX3_passHour 29 = .ok (.iload 4, 2) := by decide +kernel
theorem dX3_passHour_31 : decode cX3_passHour 31 = .ok (.invokevirtual 52, 3) := by decide +kernel
theorem dX3_passHour_34 : decode cX3_passHour 34 = .ok (.checkcast 56, 3) := by decide +kernel
theorem dX3_passHour_37 : decode cX3_passHour 37 = .ok (.aload_n 0, 1) := by decide +kernel
theorem dX3_passHour_38 : decode cX3_passHour 38 = .ok (.invokevirtual 95, 3) := by decide +kernel
theorem dX3_passHour_41 : decode cX3_passHour 41 = .ok (.iload_n 1, 1) := by decide +kernel
theorem dX3_passHour_42 : decode cX3_passHour 42 = .ok (.iload_n 2, 1) := by decide +kernel
theorem dX3_passHour_43 : decode cX3_passHour 43 = .ok (.iload_n 3, 1) := by decide +kernel
theorem dX3_passHour_44 : decode cX3_passHour 44 = .ok (.invokevirtual 98, 3) := by decide +kernel
theorem dX3_passHour_47 : decode cX3_passHour 47 = .ok (.iinc 4 1, 3) := by decide +kernel
theorem dX3_passHour_50 : decode cX3_passHour 50 = .ok (.goto (-37), 3) := by decide +kernel
theorem dX3_passHour_53 : decode cX3_passHour 53 = .ok (.iconst 0, 1) := by decide +kernel
theorem dX3_passHour_54 : decode cX3_passHour 54 = .ok (.istore 4, 2) := by decide +kernel
theorem dX3_passHour_56 : decode cX3_passHour 56 = .ok (.iload 4, 2) := by decide +kernel
theorem dX3_passHour_58 : decode cX3_passHour 58 = .ok (.aload_n 0, 1) := by decide +kernel
theorem dX3_passHour_59 : decode cX3_passHour 59 = .ok (.getfield 18, 3) := by decide +kernel
theorem dX3_passHour_62 : decode cX3_passHour 62 = .ok (.invokevirtual 48, 3) := by decide +kernel
theorem dX3_passHour_65 : decode cX3_passHour 65 = .ok (.if_icmp .ge 42, 3) := by decide +kernel
theorem dX3_passHour_68 : decode cX3_passHour 68 = .ok (.aload_n 0, 1) := by decide +kernel
theorem dX3_passHour_69 : decode cX3_passHour 69 = .ok (.getfield 18, 3) := by decide +kernel
theorem dX3_passHour_72 : decode cX3_passHour 72 = .ok (.iload 4, 2) := by decide +kernel
theorem dX3_passHour_74 : decode cX3_passHour 74 = .ok (.invokevirtual 52, 3) := by decide +kernel
theorem dX3_passHour_77 : decode cX3_passHour 77 = .ok (.checkcast 62, 3) := by decide +kernel
theorem dX3_passHour_80 : decode cX3_passHour 80 = .ok (.astore 5, 2) := by decide +kernel
theorem dX3_passHour_82 : decode cX3_passHour 82 = .ok (.aload 5, 2) := by decide +kernel
theorem dX3_passHour_84 : decode cX3_passHour 84 = .ok (.aload_n 0, 1) := by decide +kernel
theorem dX3_passHour_85 : decode cX3_passHour 85 = .ok (.aload 5, 2) := by decide +kernel
theorem dX3_passHour_87 : decode cX3_passHour 87 = .ok (.getfield 102, 3) := by decide +kernel
theorem dX3_passHour_90 : decode cX3_passHour 90 = .ok (.invokevirtual 105, 3) := by decide +kernel
theorem dX3_passHour_93 : decode cX3_passHour 93 = .ok (.aload_n 0, 1) := by decide +kernel
theorem dX3_passHour_94 : decode cX3_passHour 94 = .ok (.invokevirtual 95, 3) := by decide +kernel
theorem dX3_passHour_97 : decode cX3_passHour 97 = .ok (.iload_n 3, 1) := by decide +kernel
theorem dX3_passHour_98 : decode cX3_passHour 98 = .ok (.invokevirtual 109, 3) := by decide +kernel
theorem dX3_passHour_101 : decode cX3_passHour 101 = .ok (.iinc 4 1, 3) := by decide +kernel
theorem dX3_passHour_104 : decode cX3_passHour 104 = .ok (.goto (-48), 3) := by decide +kernel
theorem dX3_passHour_107 : decode cX3_passHour 107 = .ok (.iconst 0, 1) := by decide +kernel
theorem dX3_passHour_108 : decode cX3_passHour 108 = .ok (.istore 4, 2) := by decide +kernel
theorem dX3_passHour_110 : decode cX3_passHour 110 = .ok (.iload 4, 2) := by decide +kernel
theorem dX3_passHour_112 : decode cX3_passHour 112 = .ok (.aload_n 0, 1) := by decide +kernel
theorem dX3_passHour_113 : decode cX3_passHour 113 = .ok (.getfield 21, 3) := by decide +kernel
theorem dX3_passHour_116 : decode cX3_passHour 116 = .ok (.invokevirtual 48, 3) := by decide +kernel
theorem dX3_passHour_119 : decode cX3_passHour 119 = .ok (.if_icmp .ge 25, 3) := by decide +kernel
theorem dX3_passHour_122 : decode cX3_passHour 122 = .ok (.aload_n 0, 1) := by decide +kernel
theorem dX3_passHour_123 : decode cX3_passHour 123 = .ok (.aload_n 0, 1) := by decide +kernel
theorem dX3_passHour_124 : decode cX3_passHour 124 = .ok (.getfield 21, 3) := by decide +kernel
theorem dX3_passHour_127 : decode cX3_passHour 127 = .ok (.iload 4, 2) := by decide +kernel
theorem dX3_passHour_129 : decode cX3_passHour 129 = .ok (.invokevirtual 52, 3) := by decide +kernel
theorem dX3_passHour_132 : decode cX3_passHour 132 = .ok (.checkcast 67, 3) := by decide +kernel
theorem dX3_passHour_135 : decode cX3_passHour 135 = .ok (.invokevirtual 112, 3) := by decide +kernel
theorem dX3_passHour_138 : decode cX3_passHour 138 = .ok (.iinc 4 1, 3) := by decide +kernel
theorem dX3_passHour_141 : decode cX3_passHour 141 = .ok (.goto (-31), 3) := by decide +kernel
theorem dX3_passHour_144 : decode cX3_passHour 144 = .ok (.return_, 1) := by decide +kernel
theorem dX3_passTruckHour_0 : decode cX3_passTruckHour 0 = .ok (.aload_n 0, 1) := by decide +kernel
theorem dX3_passTruckHour_1 : decode cX3_passTruckHour 1 = .ok (.aload_n 1, 1) := by decide +kernel
theorem dX3_passTruckHour_2 : decode cX3_passTruckHour 2 = .ok (.getfield 115, 3) := by decide +kernel
theorem dX3_passTruckHour_5 : decode cX3_passTruckHour 5 = .ok (.invokevirtual 118, 3) := by decide +kernel
theorem dX3_passTruckHour_8 : decode cX3_passTruckHour 8 = .ok (.astore_n 2, 1) := by decide +kernel
theorem dX3_passTruckHour_9 : decode cX3_passTruckHour 9 = .ok (.aload_n 0, 1) := by decide +kernel
theorem dX3_passTruckHour_10 : decode cX3_passTruckHour 10 = .ok (.aload_n 1, 1) := by decide +kernel
theorem dX3_passTruckHour_11 : decode cX3_passTruckHour 11 = .ok (.getfield 122, 3) := by decide +kernel
theorem dX3_passTruckHour_14 : decode cX3_passTruckHour 14 = .ok (.invokevirtual 125, 3) := by decide +kernel
theorem dX3_passTruckHour_17 : decode cX3_passTruckHour 17 = .ok (.astore_n 3, 1) := by decide +kernel
theorem dX3_passTruckHour_18 : decode cX3_passTruckHour 18 = .ok (.aload_n 1, 1) := by decide +kernel
theorem dX3_passTruckHour_19 : decode cX3_passTruckHour 19 = .ok (.invokevirtual 129, 3) := by decide +kernel
theorem dX3_passTruckHour_22 : decode cX3_passTruckHour 22 = .ok (.ifCond .eq 10, 3) := by decide +kernel
theorem dX3_passTruckHour_25 : decode cX3_passTruckHour 25 = .ok (.aload_n 1, 1) := by decide +kernel
theorem dX3_passTruckHour_26 : decode cX3_passTruckHour 26 = .ok (.invokevirtual 133, 3) := by decide +kernel
theorem dX3_passTruckHour_29 : decode cX3_passTruckHour 29 = .ok (.goto 76, 3) := by decide +kernel
theorem dX3_passTruckHour_32 : decode cX3_passTruckHour 32 = .ok (.aload_n 2, 1) := by decide +kernel
theorem dX3_passTruckHour_33 : decode cX3_passTruckHour 33 = .ok (.ifnull 33, 3) := by decide +kernel
theorem dX3_passTruckHour_36 : decode cX3_passTruckHour 36 = .ok (.aload_n 1, 1) := by decide +kernel
theorem dX3_passTruckHour_37 : decode cX3_passTruckHour 37 = .ok (.getfield 136, 3) := by decide +kernel
theorem dX3_passTruckHour_40 : decode cX3_passTruckHour 40 = .ok (.aload_n 2, 1) := by decide +kernel
theorem dX3_passTruckHour_41 : decode cX3_passTruckHour 41 = .ok (.getfield 139, 3) := by decide +kernel
theorem dX3_passTruckHour_44 : decode cX3_passTruckHour 44 = .ok (.if_icmp .eq 14, 3) := by decide +kernel
theorem dX3_passTruckHour_47 : decode cX3_passTruckHour 47 = .ok (.aload_n 1, 1) := by decide +kernel
theorem dX3_passTruckHour_48 : decode cX3_passTruckHour 48 = .ok (.aload_n 2, 1) := by decide +kernel
theorem dX3_passTruckHour_49 : decode cX3_passTruckHour 49 = .ok (.getfield 139, 3) := by decide +kernel
theorem dX3_passTruckHour_52 : decode cX3_passTruckHour 52 = .ok (.invokevirtual 140, 3) := by decide +kernel
theorem dX3_passTruckHour_55 : decode cX3_passTruckHour 55 = .ok (.goto 50, 3) := by decide +kernel
theorem dX3_passTruckHour_58 : decode cX3_passTruckHour 58 = .ok (.aload_n 1, 1) := by decide +kernel
theorem dX3_passTruckHour_59 : decode cX3_passTruckHour 59 = .ok (.aload_n 2, 1) := by decide +kernel
theorem dX3_passTruckHour_60 : decode cX3_passTruckHour 60 = .ok (.invokevirtual 143, 3) := by decide +kernel
theorem dX3_passTruckHour_63 : decode cX3_passTruckHour 63 = .ok (.goto 42, 3) := by decide +kernel
theorem dX3_passTruckHour_66 : decode cX3_passTruckHour 66 = .ok (.aload_n 3, 1) := by decide +kernel
theorem dX3_passTruckHour_67 : decode cX3_passTruckHour 67 = .ok (.ifnull 38, 3) := by decide +kernel
theorem dX3_passTruckHour_70 : decode cX3_passTruckHour 70 = .ok (.aload_n 1, 1) := by decide +kernel
theorem dX3_passTruckHour_71 : decode cX3_passTruckHour 71 = .ok (.getfield 136, 3) := by decide +kernel
theorem dX3_passTruckHour_74 : decode cX3_passTruckHour 74 = .ok (.aload_n 3, 1) := by decide +kernel
theorem dX3_passTruckHour_75 : decode cX3_passTruckHour 75 = .ok (.getfield 146, 3) := by decide +kernel
theorem dX3_passTruckHour_78 : decode cX3_passTruckHour 78 = .ok (.if_icmp .eq 14, 3) := by decide +kernel
theorem dX3_passTruckHour_81 : decode cX3_passTruckHour 81 = .ok (.aload_n 1, 1) := by decide +kernel
theorem dX3_passTruckHour_82 : decode cX3_passTruckHour 82 = .ok (.aload_n 3, 1) := by decide +kernel
theorem dX3_passTruckHour_83 : decode cX3_passTruckHour 83 = .ok (.getfield 146, 3) := by decide +kernel
theorem dX3_passTruckHour_86 : decode cX3_passTruckHour 86 = .ok (.invokevirtual 140, 3) := by decide +kernel
theorem dX3_passTruckHour_89 : decode cX3_passTruckHour 89 = .ok (.goto 16, 3) := by decide +kernel
theorem dX3_passTruckHour_92 : decode cX3_passTruckHour 92 = .ok (.aload_n 1, 1) := by decide +kernel
theorem dX3_passTruckHour_93 : decode cX3_passTruckHour 93 = .ok (.getfield 147, 3) := by decide +kernel
theorem dX3_passTruckHour_96 : decode cX3_passTruckHour 96 = .ok (.ifCond .le 9, 3) := by decide +kernel
theorem dX3_passTruckHour_99 : decode cX3_passTruckHour 99 = .ok (.aload_n 0, 1) := by decide +kernel
theorem dX3_passTruckHour_100 : decode cX3_passTruckHour 100 = .ok (.aload_n 1, 1) := by decide +kernel
theorem dX3_passTruckHour_101 : decode cX3_passTruckHour 101 = .ok (.aload_n 3, 1) := by decide +kernel
theorem dX3_passTruckHour_102 : decode cX3_passTruckHour 102 = .ok (.invokevirtual 150, 3) := by decide +kernel
theorem dX3_passTruckHour_105 : decode cX3_passTruckHour 105 = .ok (.return_, 1) := by decide +kernel
theorem dX3_unload_0 : decode cX3_unload 0 = .ok (.aload_n 2, 1) := by decide +kernel
theorem dX3_unload_1 : decode cX3_unload 1 = .ok (.aload_n 1, 1) := by decide +kernel
theorem dX3_unload_2 : decode cX3_unload 2 = .ok (.aload_n 0, 1) := by decide +kernel
theorem dX3_unload_3 : decode cX3_unload 3 = .ok (.invokevirtual 95, 3) := by decide +kernel
theorem dX3_unload_6 : decode cX3_unload 6 = .ok (.invokevirtual 154, 3) := by decide +kernel
theorem dX3_unload_9 : decode cX3_unload 9 = .ok (.ifCond .ne 14, 3) := by decide +kernel
theorem dX3_unload_12 : decode cX3_unload 12 = .ok (.aload_n 1, 1) := by decide +kernel
theorem dX3_unload_13 : decode cX3_unload 13 = .ok (.dup, 1) := by decide +kernel
theorem dX3_unload_14 : decode cX3_unload 14 = .ok (.getfield 158, 3) := by decide +kernel
theorem dX3_unload_17 : decode cX3_unload 17 = .ok (.iconst 1, 1) := by decide +kernel
theorem dX3_unload_18 : decode cX3_unload 18 = .ok (.iadd, 1) := by decide +kernel
theorem dX3_unload_19 : decode cX3_unload 19 = .ok (.putfield 158, 3) := by decide +kernel
theorem dX3_unload_22 : decode cX3_unload 22 = .ok (.return_, 1) := by decide +kernel
theorem dX3_unload_23 : decode cX3_unload 23 = .ok (.aload_n 2, 1) := by decide +kernel
theorem dX3_unload_24 : decode cX3_unload 24 = .ok (.dup, 1) := by decide +kernel
theorem dX3_unload_25 : decode cX3_unload 25 = .ok (.getfield 161, 3) := by decide +kernel
theorem dX3_unload_28 : decode cX3_unload 28 = .ok (.aload_n 1, 1) := by decide +kernel
theorem dX3_unload_29 : decode cX3_unload 29 = .ok (.getfield 147, 3) := by decide +kernel
theorem dX3_unload_32 : decode cX3_unload 32 = .ok (.isub, 1) := by decide +kernel
theorem dX3_unload_33 : decode cX3_unload 33 = .ok (.putfield 161, 3) := by decide +kernel
theorem dX3_unload_36 : decode cX3_unload 36 = .ok (.aload_n 0, 1) := by decide +kernel
theorem dX3_unload_37 : decode cX3_unload 37 = .ok (.getfield 37, 3) := by decide +kernel
theorem dX3_unload_40 : decode cX3_unload 40 = .ok (.ifCond .ne 9, 3) := by decide +kernel
theorem dX3_unload_43 : decode cX3_unload 43 = .ok (.aload_n 0, 1) := by decide +kernel
theorem dX3_unload_44 : decode cX3_unload 44 = .ok (.aload_n 1, 1) := by decide +kernel
theorem dX3_unload_45 : decode cX3_unload 45 = .ok (.aload_n 2, 1) := by decide +kernel
theorem dX3_unload_46 : decode cX3_unload 46 = .ok (.invokevirtual 164, 3) := by decide +kernel
theorem dX3_unload_49 : decode cX3_unload 49 = .ok (.aload_n 1, 1) := by decide +kernel
theorem dX3_unload_50 : decode cX3_unload 50 = .ok (.iconst 0, 1) := by decide +kernel
theorem dX3_unload_51 : decode cX3_unload 51 = .ok (.putfield 147, 3) := by decide +kernel
theorem dX3_unload_54 : decode cX3_unload 54 = .ok (.return_, 1) := by decide +kernel
theorem dX3_writeTicket_0 : decode cX3_writeTicket 0 = .ok (.new 93, 3) := by decide +kernel
theorem dX3_writeTicket_3 : decode cX3_writeTicket 3 = .ok (.dup, 1) := by decide +kernel
theorem dX3_writeTicket_4 : decode cX3_writeTicket 4 = .ok (.aload_n 1, 1) := by decide +kernel
theorem dX3_writeTicket_5 : decode cX3_writeTicket 5 = .ok (.aload_n 2, 1) := by decide +kernel
theorem dX3_writeTicket_6 : decode cX3_writeTicket 6 = .ok (.aload_n 1, 1) := by decide +kernel
theorem dX3_writeTicket_7 : decode cX3_writeTicket 7 = .ok (.getfield 167, 3) := by decide +kernel
theorem dX3_writeTicket_10 : decode cX3_writeTicket 10 = .ok (.invokevirtual 170, 3) := by decide +kernel
theorem dX3_writeTicket_13 : decode cX3_writeTicket 13 = .ok (.aload_n 0, 1) := by decide +kernel
theorem dX3_writeTicket_14 : decode cX3_writeTicket 14 = .ok (.getfield 41, 3) := by decide +kernel
theorem dX3_writeTicket_17 : decode cX3_writeTicket 17 = .ok (.aload_n 0, 1) := by decide +kernel
theorem dX3_writeTicket_18 : decode cX3_writeTicket 18 = .ok (.getfield 30, 3) := by decide +kernel
theorem dX3_writeTicket_21 : decode cX3_writeTicket 21 = .ok (.invokespecial 174, 3) := by decide +kernel
theorem dX3_writeTicket_24 : decode cX3_writeTicket 24 = .ok (.astore_n 3, 1) := by decide +kernel
theorem dX3_writeTicket_25 : decode cX3_writeTicket 25 = .ok (.aload_n 0, 1) := by decide +kernel
theorem dX3_writeTicket_26 : decode cX3_writeTicket 26 = .ok (.getfield 27, 3) := by decide +kernel
theorem dX3_writeTicket_29 : decode cX3_writeTicket 29 = .ok (.aload_n 3, 1) := by decide +kernel
theorem dX3_writeTicket_30 : decode cX3_writeTicket 30 = .ok (.invokevirtual 80, 3) := by decide +kernel
theorem dX3_writeTicket_33 : decode cX3_writeTicket 33 = .ok (.pop, 1) := by decide +kernel
theorem dX3_writeTicket_34 : decode cX3_writeTicket 34 = .ok (.aload_n 0, 1) := by decide +kernel
theorem dX3_writeTicket_35 : decode cX3_writeTicket 35 = .ok (.dup, 1) := by decide +kernel
theorem dX3_writeTicket_36 : decode cX3_writeTicket 36 = .ok (.getfield 34, 3) := by decide +kernel
theorem dX3_writeTicket_39 : decode cX3_writeTicket 39 = .ok (.iconst 2, 1) := by decide +kernel
theorem dX3_writeTicket_40 : decode cX3_writeTicket 40 = .ok (.aload_n 3, 1) := by decide +kernel
theorem dX3_writeTicket_41 : decode cX3_writeTicket 41 = .ok (.getfield 177, 3) := by decide +kernel
theorem dX3_writeTicket_44 : decode cX3_writeTicket 44 = .ok (.bipush 10, 2) := by decide +kernel
theorem dX3_writeTicket_46 : decode cX3_writeTicket 46 = .ok (.idiv, 1) := by decide +kernel
theorem dX3_writeTicket_47 : decode cX3_writeTicket 47 = .ok (.imul, 1) := by decide +kernel
theorem dX3_writeTicket_48 : decode cX3_writeTicket 48 = .ok (.iadd, 1) := by decide +kernel
theorem dX3_writeTicket_49 : decode cX3_writeTicket 49 = .ok (.putfield 34, 3) := by decide +kernel
theorem dX3_writeTicket_52 : decode cX3_writeTicket 52 = .ok (.aload_n 0, 1) := by decide +kernel
theorem dX3_writeTicket_53 : decode cX3_writeTicket 53 = .ok (.aload_n 3, 1) := by decide +kernel
theorem dX3_writeTicket_54 : decode cX3_writeTicket 54 = .ok (.getfield 180, 3) := by decide +kernel
theorem dX3_writeTicket_57 : decode cX3_writeTicket 57 = .ok (.invokevirtual 105, 3) := by decide +kernel
theorem dX3_writeTicket_60 : decode cX3_writeTicket 60 = .ok (.astore 4, 2) := by decide +kernel
theorem dX3_writeTicket_62 : decode cX3_writeTicket 62 = .ok (.aload 4, 2) := by decide +kernel
theorem dX3_writeTicket_64 : decode cX3_writeTicket 64 = .ok (.ifnull 16, 3) := by decide +kernel
theorem dX3_writeTicket_67 : decode cX3_writeTicket 67 = .ok (.aload 4, 2) := by decide +kernel
theorem dX3_writeTicket_69 : decode cX3_writeTicket 69 = .ok (.aload_n 3, 1) := by decide +kernel
theorem dX3_writeTicket_70 : decode cX3_writeTicket 70 = .ok (.getfield 177, 3) := by decide +kernel
theorem dX3_writeTicket_73 : decode cX3_writeTicket 73 = .ok (.aload_n 3, 1) := by decide +kernel
theorem dX3_writeTicket_74 : decode cX3_writeTicket 74 = .ok (.getfield 183, 3) := by decide +kernel
theorem dX3_writeTicket_77 : decode cX3_writeTicket 77 = .ok (.invokevirtual 186, 3) := by decide +kernel
theorem dX3_writeTicket_80 : decode cX3_writeTicket 80 = .ok (.return_, 1) := by decide +kernel
theorem dX3_combinesSentTo_0 : decode cX3_combinesSentTo 0 = .ok (.iconst 0, 1) := by decide +kernel
theorem dX3_combinesSentTo_1 : decode cX3_combinesSentTo 1 = .ok (.istore_n 2, 1) := by decide +kernel
theorem dX3_combinesSentTo_2 : decode cX3_combinesSentTo 2 = .ok (.iconst 0, 1) := by decide +kernel
theorem dX3_combinesSentTo_3 : decode cX3_combinesSentTo 3 = .ok (.istore_n 3, 1) := by decide +kernel
theorem dX3_combinesSentTo_4 : decode cX3_combinesSentTo 4 = .ok (.iload_n 3, 1) := by decide +kernel
theorem dX3_combinesSentTo_5 : decode cX3_combinesSentTo 5 = .ok (.aload_n 0, 1) := by decide +kernel
theorem dX3_combinesSentTo_6 : decode cX3_combinesSentTo 6 = .ok (.getfield 18, 3) := by decide +kernel
theorem dX3_combinesSentTo_9 : decode cX3_combinesSentTo 9 = .ok (.invokevirtual 48, 3) := by decide +kernel
theorem dX3_combinesSentTo_12 : decode cX3_combinesSentTo 12 = .ok (.if_icmp .ge 30, 3) := by decide +kernel
theorem dX3_combinesSentTo_15 : decode cX3_combinesSentTo 15 = .ok (.aload_n 0, 1) := by decide +kernel
theorem dX3_combinesSentTo_16 : decode cX3_combinesSentTo 16 = .ok (.getfield 18, 3) := by decide +kernel
theorem dX3_combinesSentTo_19 : decode cX3_combinesSentTo 19 = .ok (.iload_n 3, 1) := by decide +kernel
theorem dX3_combinesSentTo_20 : decode cX3_combinesSentTo 20 = .ok (.invokevirtual 52, 3) := by decide +kernel
theorem dX3_combinesSentTo_23 : decode cX3_combinesSentTo 23 = .ok (.checkcast 62, 3) := by decide +kernel
theorem dX3_combinesSentTo_26 : decode cX3_combinesSentTo 26 = .ok (.getfield 102, 3) := by decide +kernel
theorem dX3_combinesSentTo_29 : decode cX3_combinesSentTo 29 = .ok (.iload_n 1, 1) := by decide +kernel
theorem dX3_combinesSentTo_30 : decode cX3_combinesSentTo 30 = .ok (.if_icmp .ne 6, 3) := by decide +kernel
theorem dX3_combinesSentTo_33 : decode cX3_combinesSentTo 33 = .ok (.iinc 2 1, 3) := by decide +kernel
theorem dX3_combinesSentTo_36 : decode cX3_combinesSentTo 36 = .ok (.iinc 3 1, 3) := by decide +kernel
theorem dX3_combinesSentTo_39 : decode cX3_combinesSentTo 39 = .ok (.goto (-35), 3) := by decide +kernel
theorem dX3_combinesSentTo_42 : decode cX3_combinesSentTo 42 = .ok (.iload_n 2, 1) := by decide +kernel
theorem dX3_combinesSentTo_43 : decode cX3_combinesSentTo 43 = .ok (.ireturn, 1) := by decide +kernel
theorem dX3_onTheWay_0 : decode cX3_onTheWay 0 = .ok (.iconst 0, 1) := by decide +kernel
theorem dX3_onTheWay_1 : decode cX3_onTheWay 1 = .ok (.istore_n 2, 1) := by decide +kernel
theorem dX3_onTheWay_2 : decode cX3_onTheWay 2 = .ok (.iconst 0, 1) := by decide +kernel
theorem dX3_onTheWay_3 : decode cX3_onTheWay 3 = .ok (.istore_n 3, 1) := by decide +kernel
theorem dX3_onTheWay_4 : decode cX3_onTheWay 4 = .ok (.iload_n 3, 1) := by decide +kernel
theorem dX3_onTheWay_5 : decode cX3_onTheWay 5 = .ok (.aload_n 0, 1) := by decide +kernel
theorem dX3_onTheWay_6 : decode cX3_onTheWay 6 = .ok (.getfield 18, 3) := by decide +kernel
theorem dX3_onTheWay_9 : decode cX3_onTheWay 9 = .ok (.invokevirtual 48, 3) := by decide +kernel
theorem dX3_onTheWay_12 : decode cX3_onTheWay 12 = .ok (.if_icmp .ge 43, 3) := by decide +kernel
theorem dX3_onTheWay_15 : decode cX3_onTheWay 15 = .ok (.aload_n 0, 1) := by decide +kernel
theorem dX3_onTheWay_16 : decode cX3_onTheWay 16 = .ok (.getfield 18, 3) := by decide +kernel
theorem dX3_onTheWay_19 : decode cX3_onTheWay 19 = .ok (.iload_n 3, 1) := by decide +kernel
theorem dX3_onTheWay_20 : decode cX3_onTheWay 20 = .ok (.invokevirtual 52, 3) := by decide +kernel
theorem dX3_onTheWay_23 : decode cX3_onTheWay 23 = .ok (.checkcast 62, 3) := by decide +kernel
theorem dX3_onTheWay_26 : decode cX3_onTheWay 26 = .ok (.astore 4, 2) := by decide +kernel
theorem dX3_onTheWay_28 : decode cX3_onTheWay 28 = .ok (.iload_n 2, 1) := by decide +kernel
theorem dX3_onTheWay_29 : decode cX3_onTheWay 29 = .ok (.aload 4, 2) := by decide +kernel
theorem dX3_onTheWay_31 : decode cX3_onTheWay 31 = .ok (.getfield 190, 3) := by decide +kernel
theorem dX3_onTheWay_34 : decode cX3_onTheWay 34 = .ok (.iload_n 1, 1) := by decide +kernel
theorem dX3_onTheWay_35 : decode cX3_onTheWay 35 = .ok (.if_icmp .ne 11, 3) := by decide +kernel
theorem dX3_onTheWay_38 : decode cX3_onTheWay 38 = .ok (.aload 4, 2) := by decide +kernel
theorem dX3_onTheWay_40 : decode cX3_onTheWay 40 = .ok (.getfield 193, 3) := by decide +kernel
theorem dX3_onTheWay_43 : decode cX3_onTheWay 43 = .ok (.goto 4, 3) := by decide +kernel
theorem dX3_onTheWay_46 : decode cX3_onTheWay 46 = .ok (.iconst 0, 1) := by decide +kernel
theorem dX3_onTheWay_47 : decode cX3_onTheWay 47 = .ok (.iadd, 1) := by decide +kernel
theorem dX3_onTheWay_48 : decode cX3_onTheWay 48 = .ok (.istore_n 2, 1) := by decide +kernel
theorem dX3_onTheWay_49 : decode cX3_onTheWay 49 = .ok (.iinc 3 1, 3) := by decide +kernel
theorem dX3_onTheWay_52 : decode cX3_onTheWay 52 = .ok (.goto (-48), 3) := by decide +kernel
theorem dX3_onTheWay_55 : decode cX3_onTheWay 55 = .ok (.iconst 0, 1) := by decide +kernel
theorem dX3_onTheWay_56 : decode cX3_onTheWay 56 = .ok (.istore_n 3, 1) := by decide +kernel
theorem dX3_onTheWay_57 : decode cX3_onTheWay 57 = .ok (.iload_n 3, 1) := by decide +kernel
theorem dX3_onTheWay_58 : decode cX3_onTheWay 58 = .ok (.aload_n 0, 1) := by decide +kernel
theorem dX3_onTheWay_59 : decode cX3_onTheWay 59 = .ok (.getfield 21, 3) := by decide +kernel
theorem dX3_onTheWay_62 : decode cX3_onTheWay 62 = .ok (.invokevirtual 48, 3) := by decide +kernel
theorem dX3_onTheWay_65 : decode cX3_onTheWay 65 = .ok (.if_icmp .ge 43, 3) := by decide +kernel
theorem dX3_onTheWay_68 : decode cX3_onTheWay 68 = .ok (.aload_n 0, 1) := by decide +kernel
theorem dX3_onTheWay_69 : decode cX3_onTheWay 69 = .ok (.getfield 21, 3) := by decide +kernel
theorem dX3_onTheWay_72 : decode cX3_onTheWay 72 = .ok (.iload_n 3, 1) := by decide +kernel
theorem dX3_onTheWay_73 : decode cX3_onTheWay 73 = .ok (.invokevirtual 52, 3) := by decide +kernel
theorem dX3_onTheWay_76 : decode cX3_onTheWay 76 = .ok (.checkcast 67, 3) := by decide +kernel
theorem dX3_onTheWay_79 : decode cX3_onTheWay 79 = .ok (.astore 4, 2) := by decide +kernel
theorem dX3_onTheWay_81 : decode cX3_onTheWay 81 = .ok (.iload_n 2, 1) := by decide +kernel
theorem dX3_onTheWay_82 : decode cX3_onTheWay 82 = .ok (.aload 4, 2) := by decide +kernel
theorem dX3_onTheWay_84 : decode cX3_onTheWay 84 = .ok (.getfield 196, 3) := by decide +kernel
theorem dX3_onTheWay_87 : decode cX3_onTheWay 87 = .ok (.iload_n 1, 1) := by decide +kernel
theorem dX3_onTheWay_88 : decode cX3_onTheWay 88 = .ok (.if_icmp .ne 11, 3) := by decide +kernel
theorem dX3_onTheWay_91 : decode cX3_onTheWay 91 = .ok (.aload 4, 2) := by decide +kernel
theorem dX3_onTheWay_93 : decode cX3_onTheWay 93 = .ok (.getfield 147, 3) := by decide +kernel
theorem dX3_onTheWay_96 : decode cX3_onTheWay 96 = .ok (.goto 4, 3) := by decide +kernel
theorem dX3_onTheWay_99 : decode cX3_onTheWay 99 = .ok (.iconst 0, 1) := by decide +kernel
theorem dX3_onTheWay_100 : decode cX3_onTheWay 100 = .ok (.iadd, 1) := by decide +kernel
theorem dX3_onTheWay_101 : decode cX3_onTheWay 101 = .ok (.istore_n 2, 1) := by decide +kernel
theorem dX3_onTheWay_102 : decode cX3_onTheWay 102 = .ok (.iinc 3 1, 3) := by decide +kernel
theorem dX3_onTheWay_105 : decode cX3_onTheWay 105 = .ok (.goto (-48), 3) := by decide +kernel
theorem dX3_onTheWay_108 : decode cX3_onTheWay 108 = .ok (.iload_n 2, 1) := by decide +kernel
theorem dX3_onTheWay_109 : decode cX3_onTheWay 109 = .ok (.ireturn, 1) := by decide +kernel
theorem dX3_allOnTheWay_0 : decode cX3_allOnTheWay 0 = .ok (.iconst 0, 1) := by decide +kernel
theorem dX3_allOnTheWay_1 : decode cX3_allOnTheWay 1 = .ok (.istore_n 1, 1) := by decide +kernel
theorem dX3_allOnTheWay_2 : decode cX3_allOnTheWay 2 = .ok (.iconst 0, 1) := by decide +kernel
theorem dX3_allOnTheWay_3 : decode cX3_allOnTheWay 3 = .ok (.istore_n 2, 1) := by decide +kernel
theorem dX3_allOnTheWay_4 : decode cX3_allOnTheWay 4 = .ok (.iload_n 2, 1) := by decide +kernel
theorem dX3_allOnTheWay_5 : decode cX3_allOnTheWay 5 = .ok (.aload_n 0, 1) := by decide +kernel
theorem dX3_allOnTheWay_6 : decode cX3_allOnTheWay 6 = .ok (.getfield 18, 3) := by decide +kernel
theorem dX3_allOnTheWay_9 : decode cX3_allOnTheWay 9 = .ok (.invokevirtual 48, 3) := by decide +kernel
theorem dX3_allOnTheWay_12 : decode cX3_allOnTheWay 12 = .ok (.if_icmp .ge 26, 3) := by decide +kernel
theorem dX3_allOnTheWay_15 : decode cX3_allOnTheWay 15 = .ok (.iload_n 1, 1) := by decide +kernel
theorem dX3_allOnTheWay_16 : decode cX3_allOnTheWay 16 = .ok (.aload_n 0, 1) := by decide +kernel
theorem dX3_allOnTheWay_17 : decode cX3_allOnTheWay 17 = .ok (.getfield 18, 3) := by decide +kernel
theorem dX3_allOnTheWay_20 : decode cX3_allOnTheWay 20 = .ok (.iload_n 2, 1) := by decide +kernel
theorem dX3_allOnTheWay_21 : decode cX3_allOnTheWay 21 = .ok (.invokevirtual 52, 3) := by decide +kernel
theorem dX3_allOnTheWay_24 : decode cX3_allOnTheWay 24 = .ok (.checkcast 62, 3) := by decide +kernel
theorem dX3_allOnTheWay_27 : decode cX3_allOnTheWay 27 = .ok (.getfield 193, 3) := by decide +kernel
theorem dX3_allOnTheWay_30 : decode cX3_allOnTheWay 30 = .ok (.iadd, 1) := by decide +kernel
theorem dX3_allOnTheWay_31 : decode cX3_allOnTheWay 31 = .ok (.istore_n 1, 1) := by decide +kernel
theorem dX3_allOnTheWay_32 : decode cX3_allOnTheWay 32 = .ok (.iinc 2 1, 3) := by decide +kernel
theorem dX3_allOnTheWay_35 : decode cX3_allOnTheWay 35 = .ok (.goto (-31), 3) := by decide +kernel
theorem dX3_allOnTheWay_38 : decode cX3_allOnTheWay 38 = .ok (.iconst 0, 1) := by decide +kernel
theorem dX3_allOnTheWay_39 : decode cX3_allOnTheWay 39 = .ok (.istore_n 2, 1) := by decide +kernel
theorem dX3_allOnTheWay_40 : decode cX3_allOnTheWay 40 = .ok (.iload_n 2, 1) := by decide +kernel
theorem dX3_allOnTheWay_41 : decode cX3_allOnTheWay 41 = .ok (.aload_n 0, 1) := by decide +kernel
theorem dX3_allOnTheWay_42 : decode cX3_allOnTheWay 42 = .ok (.getfield 21, 3) := by decide +kernel
theorem dX3_allOnTheWay_45 : decode cX3_allOnTheWay 45 = .ok (.invokevirtual 48, 3) := by decide +kernel
theorem dX3_allOnTheWay_48 : decode cX3_allOnTheWay 48 = .ok (.if_icmp .ge 26, 3) := by decide +kernel
theorem dX3_allOnTheWay_51 : decode cX3_allOnTheWay 51 = .ok (.iload_n 1, 1) := by decide +kernel
theorem dX3_allOnTheWay_52 : decode cX3_allOnTheWay 52 = .ok (.aload_n 0, 1) := by decide +kernel
theorem dX3_allOnTheWay_53 : decode cX3_allOnTheWay 53 = .ok (.getfield 21, 3) := by decide +kernel
theorem dX3_allOnTheWay_56 : decode cX3_allOnTheWay 56 = .ok (.iload_n 2, 1) := by decide +kernel
theorem dX3_allOnTheWay_57 : decode cX3_allOnTheWay 57 = .ok (.invokevirtual 52, 3) := by decide +kernel
theorem dX3_allOnTheWay_60 : decode cX3_allOnTheWay 60 = .ok (.checkcast 67, 3) := by decide +kernel
theorem dX3_allOnTheWay_63 : decode cX3_allOnTheWay 63 = .ok (.getfield 147, 3) := by decide +kernel
theorem dX3_allOnTheWay_66 : decode cX3_allOnTheWay 66 = .ok (.iadd, 1) := by decide +kernel
theorem dX3_allOnTheWay_67 : decode cX3_allOnTheWay 67 = .ok (.istore_n 1, 1) := by decide +kernel
theorem dX3_allOnTheWay_68 : decode cX3_allOnTheWay 68 = .ok (.iinc 2 1, 3) := by decide +kernel
theorem dX3_allOnTheWay_71 : decode cX3_allOnTheWay 71 = .ok (.goto (-31), 3) := by decide +kernel
theorem dX3_allOnTheWay_74 : decode cX3_allOnTheWay 74 = .ok (.iload_n 1, 1) := by decide +kernel
theorem dX3_allOnTheWay_75 : decode cX3_allOnTheWay 75 = .ok (.ireturn, 1) := by decide +kernel
theorem dX3_uncutAcres_0 : decode cX3_uncutAcres 0 = .ok (.iconst 0, 1) := by decide +kernel
theorem dX3_uncutAcres_1 : decode cX3_uncutAcres 1 = .ok (.istore_n 1, 1) := by decide +kernel
theorem dX3_uncutAcres_2 : decode cX3_uncutAcres 2 = .ok (.iconst 0, 1) := by decide +kernel
theorem dX3_uncutAcres_3 : decode cX3_uncutAcres 3 = .ok (.istore_n 2, 1) := by decide +kernel
theorem dX3_uncutAcres_4 : decode cX3_uncutAcres 4 = .ok (.iload_n 2, 1) := by decide +kernel
theorem dX3_uncutAcres_5 : decode cX3_uncutAcres 5 = .ok (.aload_n 0, 1) := by decide +kernel
theorem dX3_uncutAcres_6 : decode cX3_uncutAcres 6 = .ok (.getfield 12, 3) := by decide +kernel
theorem dX3_uncutAcres_9 : decode cX3_uncutAcres 9 = .ok (.invokevirtual 48, 3) := by decide +kernel
theorem dX3_uncutAcres_12 : decode cX3_uncutAcres 12 = .ok (.if_icmp .ge 26, 3) := by decide +kernel
theorem dX3_uncutAcres_15 : decode cX3_uncutAcres 15 = .ok (.iload_n 1, 1) := by decide +kernel
theorem dX3_uncutAcres_16 : decode cX3_uncutAcres 16 = .ok (.aload_n 0, 1) := by decide +kernel
theorem dX3_uncutAcres_17 : decode cX3_uncutAcres 17 = .ok (.getfield 12, 3) := by decide +kernel
theorem dX3_uncutAcres_20 : decode cX3_uncutAcres 20 = .ok (.iload_n 2, 1) := by decide +kernel
theorem dX3_uncutAcres_21 : decode cX3_uncutAcres 21 = .ok (.invokevirtual 52, 3) := by decide +kernel
theorem dX3_uncutAcres_24 : decode cX3_uncutAcres 24 = .ok (.checkcast 56, 3) := by decide +kernel
theorem dX3_uncutAcres_27 : decode cX3_uncutAcres 27 = .ok (.invokevirtual 199, 3) := by decide +kernel
theorem dX3_uncutAcres_30 : decode cX3_uncutAcres 30 = .ok (.iadd, 1) := by decide +kernel
theorem dX3_uncutAcres_31 : decode cX3_uncutAcres 31 = .ok (.istore_n 1, 1) := by decide +kernel
theorem dX3_uncutAcres_32 : decode cX3_uncutAcres 32 = .ok (.iinc 2 1, 3) := by decide +kernel
theorem dX3_uncutAcres_35 : decode cX3_uncutAcres 35 = .ok (.goto (-31), 3) := by decide +kernel
theorem dX3_uncutAcres_38 : decode cX3_uncutAcres 38 = .ok (.iload_n 1, 1) := by decide +kernel
theorem dX3_uncutAcres_39 : decode cX3_uncutAcres 39 = .ok (.ireturn, 1) := by decide +kernel
theorem dX3_brokenCombines_0 : decode cX3_brokenCombines 0 = .ok (.iconst 0, 1) := by decide +kernel
theorem dX3_brokenCombines_1 : decode cX3_brokenCombines 1 = .ok (.istore_n 1, 1) := by decide +kernel
theorem dX3_brokenCombines_2 : decode cX3_brokenCombines 2 = .ok (.iconst 0, 1) := by decide +kernel
theorem dX3_brokenCombines_3 : decode cX3_brokenCombines 3 = .ok (.istore_n 2, 1) := by decide +kernel
theorem dX3_brokenCombines_4 : decode cX3_brokenCombines 4 = .ok (.iload_n 2, 1) := by decide +kernel
theorem dX3_brokenCombines_5 : decode cX3_brokenCombines 5 = .ok (.aload_n 0, 1) := by decide +kernel
theorem dX3_brokenCombines_6 : decode cX3_brokenCombines 6 = .ok (.getfield 18, 3) := by decide +kernel
theorem dX3_brokenCombines_9 : decode cX3_brokenCombines 9 = .ok (.invokevirtual 48, 3) := by decide +kernel
theorem dX3_brokenCombines_12 : decode cX3_brokenCombines 12 = .ok (.if_icmp .ge 34, 3) := by decide +kernel
theorem dX3_brokenCombines_15 : decode cX3_brokenCombines 15 = .ok (.iload_n 1, 1) := by decide +kernel
theorem dX3_brokenCombines_16 : decode cX3_brokenCombines 16 = .ok (.aload_n 0, 1) := by decide +kernel
theorem dX3_brokenCombines_17 : decode cX3_brokenCombines 17 = .ok (.getfield 18, 3) := by decide +kernel
theorem dX3_brokenCombines_20 : decode cX3_brokenCombines 20 = .ok (.iload_n 2, 1) := by decide +kernel
theorem dX3_brokenCombines_21 : decode cX3_brokenCombines 21 = .ok (.invokevirtual 52, 3) := by decide +kernel
theorem dX3_brokenCombines_24 : decode cX3_brokenCombines 24 = .ok (.checkcast 62, 3) := by decide +kernel
theorem dX3_brokenCombines_27 : decode cX3_brokenCombines 27 = .ok (.getfield 202, 3) := by decide +kernel
theorem dX3_brokenCombines_30 : decode cX3_brokenCombines 30 = .ok (.ifCond .eq 7, 3) := by decide +kernel
theorem dX3_brokenCombines_33 : decode cX3_brokenCombines 33 = .ok (.iconst 1, 1) := by decide +kernel
theorem dX3_brokenCombines_34 : decode cX3_brokenCombines 34 = .ok (.goto 4, 3) := by decide +kernel
theorem dX3_brokenCombines_37 : decode cX3_brokenCombines 37 = .ok (.iconst 0, 1) := by decide +kernel
theorem dX3_brokenCombines_38 : decode cX3_brokenCombines 38 = .ok (.iadd, 1) := by decide +kernel
theorem dX3_brokenCombines_39 : decode cX3_brokenCombines 39 = .ok (.istore_n 1, 1) := by decide +kernel
theorem dX3_brokenCombines_40 : decode cX3_brokenCombines 40 = .ok (.iinc 2 1, 3) := by decide +kernel
theorem dX3_brokenCombines_43 : decode cX3_brokenCombines 43 = .ok (.goto (-39), 3) := by decide +kernel
theorem dX3_brokenCombines_46 : decode cX3_brokenCombines 46 = .ok (.iload_n 1, 1) := by decide +kernel
theorem dX3_brokenCombines_47 : decode cX3_brokenCombines 47 = .ok (.ireturn, 1) := by decide +kernel
theorem dX3_allRoom_0 : decode cX3_allRoom 0 = .ok (.iconst 0, 1) := by decide +kernel
theorem dX3_allRoom_1 : decode cX3_allRoom 1 = .ok (.istore_n 1, 1) := by decide +kernel
theorem dX3_allRoom_2 : decode cX3_allRoom 2 = .ok (.iconst 0, 1) := by decide +kernel
theorem dX3_allRoom_3 : decode cX3_allRoom 3 = .ok (.istore_n 2, 1) := by decide +kernel
theorem dX3_allRoom_4 : decode cX3_allRoom 4 = .ok (.iload_n 2, 1) := by decide +kernel
theorem dX3_allRoom_5 : decode cX3_allRoom 5 = .ok (.aload_n 0, 1) := by decide +kernel
theorem dX3_allRoom_6 : decode cX3_allRoom 6 = .ok (.getfield 24, 3) := by decide +kernel
theorem dX3_allRoom_9 : decode cX3_allRoom 9 = .ok (.invokevirtual 48, 3) := by decide +kernel
theorem dX3_allRoom_12 : decode cX3_allRoom 12 = .ok (.if_icmp .ge 26, 3) := by decide +kernel
theorem dX3_allRoom_15 : decode cX3_allRoom 15 = .ok (.iload_n 1, 1) := by decide +kernel
theorem dX3_allRoom_16 : decode cX3_allRoom 16 = .ok (.aload_n 0, 1) := by decide +kernel
theorem dX3_allRoom_17 : decode cX3_allRoom 17 = .ok (.getfield 24, 3) := by decide +kernel
theorem dX3_allRoom_20 : decode cX3_allRoom 20 = .ok (.iload_n 2, 1) := by decide +kernel
theorem dX3_allRoom_21 : decode cX3_allRoom 21 = .ok (.invokevirtual 52, 3) := by decide +kernel
theorem dX3_allRoom_24 : decode cX3_allRoom 24 = .ok (.checkcast 72, 3) := by decide +kernel
theorem dX3_allRoom_27 : decode cX3_allRoom 27 = .ok (.getfield 161, 3) := by decide +kernel
theorem dX3_allRoom_30 : decode cX3_allRoom 30 = .ok (.iadd, 1) := by decide +kernel
theorem dX3_allRoom_31 : decode cX3_allRoom 31 = .ok (.istore_n 1, 1) := by decide +kernel
theorem dX3_allRoom_32 : decode cX3_allRoom 32 = .ok (.iinc 2 1, 3) := by decide +kernel
theorem dX3_allRoom_35 : decode cX3_allRoom 35 = .ok (.goto (-31), 3) := by decide +kernel
theorem dX3_allRoom_38 : decode cX3_allRoom 38 = .ok (.iload_n 1, 1) := by decide +kernel
theorem dX3_allRoom_39 : decode cX3_allRoom 39 = .ok (.ireturn, 1) := by decide +kernel
theorem dX3_allIdle_0 : decode cX3_allIdle 0 = .ok (.iconst 0, 1) := by decide +kernel
theorem dX3_allIdle_1 : decode cX3_allIdle 1 = .ok (.istore_n 1, 1) := by decide +kernel
theorem dX3_allIdle_2 : decode cX3_allIdle 2 = .ok (.iconst 0, 1) := by decide +kernel
theorem dX3_allIdle_3 : decode cX3_allIdle 3 = .ok (.istore_n 2, 1) := by decide +kernel
theorem dX3_allIdle_4 : decode cX3_allIdle 4 = .ok (.iload_n 2, 1) := by decide +kernel
theorem dX3_allIdle_5 : decode cX3_allIdle 5 = .ok (.aload_n 0, 1) := by decide +kernel
theorem dX3_allIdle_6 : decode cX3_allIdle 6 = .ok (.getfield 18, 3) := by decide +kernel
theorem dX3_allIdle_9 : decode cX3_allIdle 9 = .ok (.invokevirtual 48, 3) := by decide +kernel
theorem dX3_allIdle_12 : decode cX3_allIdle 12 = .ok (.if_icmp .ge 26, 3) := by decide +kernel
theorem dX3_allIdle_15 : decode cX3_allIdle 15 = .ok (.iload_n 1, 1) := by decide +kernel
theorem dX3_allIdle_16 : decode cX3_allIdle 16 = .ok (.aload_n 0, 1) := by decide +kernel
theorem dX3_allIdle_17 : decode cX3_allIdle 17 = .ok (.getfield 18, 3) := by decide +kernel
theorem dX3_allIdle_20 : decode cX3_allIdle 20 = .ok (.iload_n 2, 1) := by decide +kernel
theorem dX3_allIdle_21 : decode cX3_allIdle 21 = .ok (.invokevirtual 52, 3) := by decide +kernel
theorem dX3_allIdle_24 : decode cX3_allIdle 24 = .ok (.checkcast 62, 3) := by decide +kernel
theorem dX3_allIdle_27 : decode cX3_allIdle 27 = .ok (.getfield 205, 3) := by decide +kernel
theorem dX3_allIdle_30 : decode cX3_allIdle 30 = .ok (.iadd, 1) := by decide +kernel
theorem dX3_allIdle_31 : decode cX3_allIdle 31 = .ok (.istore_n 1, 1) := by decide +kernel
theorem dX3_allIdle_32 : decode cX3_allIdle 32 = .ok (.iinc 2 1, 3) := by decide +kernel
theorem dX3_allIdle_35 : decode cX3_allIdle 35 = .ok (.goto (-31), 3) := by decide +kernel
theorem dX3_allIdle_38 : decode cX3_allIdle 38 = .ok (.iload_n 1, 1) := by decide +kernel
theorem dX3_allIdle_39 : decode cX3_allIdle 39 = .ok (.ireturn, 1) := by decide +kernel
theorem dX3_allQueued_0 : decode cX3_allQueued 0 = .ok (.iconst 0, 1) := by decide +kernel
theorem dX3_allQueued_1 : decode cX3_allQueued 1 = .ok (.istore_n 1, 1) := by decide +kernel
theorem dX3_allQueued_2 : decode cX3_allQueued 2 = .ok (.iconst 0, 1) := by decide +kernel
theorem dX3_allQueued_3 : decode cX3_allQueued 3 = .ok (.istore_n 2, 1) := by decide +kernel
theorem dX3_allQueued_4 : decode cX3_allQueued 4 = .ok (.iload_n 2, 1) := by decide +kernel
theorem dX3_allQueued_5 : decode cX3_allQueued 5 = .ok (.aload_n 0, 1) := by decide +kernel
theorem dX3_allQueued_6 : decode cX3_allQueued 6 = .ok (.getfield 21, 3) := by decide +kernel
theorem dX3_allQueued_9 : decode cX3_allQueued 9 = .ok (.invokevirtual 48, 3) := by decide +kernel
theorem dX3_allQueued_12 : decode cX3_allQueued 12 = .ok (.if_icmp .ge 26, 3) := by decide +kernel
theorem dX3_allQueued_15 : decode cX3_allQueued 15 = .ok (.iload_n 1, 1) := by decide +kernel
theorem dX3_allQueued_16 : decode cX3_allQueued 16 = .ok (.aload_n 0, 1) := by decide +kernel
theorem dX3_allQueued_17 : decode cX3_allQueued 17 = .ok (.getfield 21, 3) := by decide +kernel
theorem dX3_allQueued_20 : decode cX3_allQueued 20 = .ok (.iload_n 2, 1) := by decide +kernel
theorem dX3_allQueued_21 : decode cX3_allQueued 21 = .ok (.invokevirtual 52, 3) := by decide +kernel
theorem dX3_allQueued_24 : decode cX3_allQueued 24 = .ok (.checkcast 67, 3) := by decide +kernel
theorem dX3_allQueued_27 : decode cX3_allQueued 27 = .ok (.getfield 158, 3) := by decide +kernel
theorem dX3_allQueued_30 : decode cX3_allQueued 30 = .ok (.iadd, 1) := by decide +kernel
theorem dX3_allQueued_31 : decode cX3_allQueued 31 = .ok (.istore_n 1, 1) := by decide +kernel
theorem dX3_allQueued_32 : decode cX3_allQueued 32 = .ok (.iinc 2 1, 3) := by decide +kernel
theorem dX3_allQueued_35 : decode cX3_allQueued 35 = .ok (.goto (-31), 3) := by decide +kernel
theorem dX3_allQueued_38 : decode cX3_allQueued 38 = .ok (.iload_n 1, 1) := by decide +kernel
theorem dX3_allQueued_39 : decode cX3_allQueued 39 = .ok (.ireturn, 1) := by decide +kernel
theorem dX4_init_0 : decode cX4_init 0 = .ok (.aload_n 0, 1) := by decide +kernel
theorem dX4_init_1 : decode cX4_init 1 = .ok (.invokespecial 1, 3) := by decide +kernel
theorem dX4_init_4 : decode cX4_init 4 = .ok (.aload_n 0, 1) := by decide +kernel
theorem dX4_init_5 : decode cX4_init 5 = .ok (.aload_n 1, 1) := by decide +kernel
theorem dX4_init_6 : decode cX4_init 6 = .ok (.getfield 7, 3) := by decide +kernel
theorem dX4_init_9 : decode cX4_init 9 = .ok (.putfield 13, 3) := by decide +kernel
theorem dX4_init_12 : decode cX4_init 12 = .ok (.aload_n 0, 1) := by decide +kernel
theorem dX4_init_13 : decode cX4_init 13 = .ok (.aload_n 1, 1) := by decide +kernel
theorem dX4_init_14 : decode cX4_init 14 = .ok (.getfield 18, 3) := by decide +kernel
theorem dX4_init_17 : decode cX4_init 17 = .ok (.putfield 21, 3) := by decide +kernel
theorem dX4_init_20 : decode cX4_init 20 = .ok (.aload_n 0, 1) := by decide +kernel
theorem dX4_init_21 : decode cX4_init 21 = .ok (.aload_n 1, 1) := by decide +kernel
theorem dX4_init_22 : decode cX4_init 22 = .ok (.getfield 24, 3) := by decide +kernel
theorem dX4_init_25 : decode cX4_init 25 = .ok (.putfield 27, 3) := by decide +kernel
theorem dX4_init_28 : decode cX4_init 28 = .ok (.aload_n 0, 1) := by decide +kernel
theorem dX4_init_29 : decode cX4_init 29 = .ok (.iload_n 2, 1) := by decide +kernel
theorem dX4_init_30 : decode cX4_init 30 = .ok (.putfield 28, 3) := by decide +kernel
theorem dX4_init_33 : decode cX4_init 33 = .ok (.aload_n 0, 1) := by decide +kernel
theorem dX4_init_34 : decode cX4_init 34 = .ok (.aload_n 1, 1) := by decide +kernel
theorem dX4_init_35 : decode cX4_init 35 = .ok (.getfield 31, 3) := by decide +kernel
theorem dX4_init_38 : decode cX4_init 38 = .ok (.putfield 34, 3) := by decide +kernel
theorem dX4_init_41 : decode cX4_init 41 = .ok (.aload_n 0, 1) := by decide +kernel
theorem dX4_init_42 : decode cX4_init 42 = .ok (.iload_n 3, 1) := by decide +kernel
theorem dX4_init_43 : decode cX4_init 43 = .ok (.putfield 37, 3) := by decide +kernel
theorem dX4_init_46 : decode cX4_init 46 = .ok (.aload_n 0, 1) := by decide +kernel
theorem dX4_init_47 : decode cX4_init 47 = .ok (.aload_n 1, 1) := by decide +kernel
theorem dX4_init_48 : decode cX4_init 48 = .ok (.getfield 18, 3) := by decide +kernel
theorem dX4_init_51 : decode cX4_init 51 = .ok (.iload 4, 2) := by decide +kernel
theorem dX4_init_53 : decode cX4_init 53 = .ok (.imul, 1) := by decide +kernel
theorem dX4_init_54 : decode cX4_init 54 = .ok (.bipush 100, 2) := by decide +kernel
theorem dX4_init_56 : decode cX4_init 56 = .ok (.iload_n 2, 1) := by decide +kernel
theorem dX4_init_57 : decode cX4_init 57 = .ok (.isub, 1) := by decide +kernel
theorem dX4_init_58 : decode cX4_init 58 = .ok (.imul, 1) := by decide +kernel
theorem dX4_init_59 : decode cX4_init 59 = .ok (.sipush 10000, 3) := by decide +kernel
theorem dX4_init_62 : decode cX4_init 62 = .ok (.idiv, 1) := by decide +kernel
theorem dX4_init_63 : decode cX4_init 63 = .ok (.putfield 40, 3) := by decide +kernel
theorem dX4_init_66 : decode cX4_init 66 = .ok (.return_, 1) := by decide +kernel
theorem dX5_init_0 : decode cX5_init 0 = .ok (.aload_n 0, 1) := by decide +kernel
theorem dX5_init_1 : decode cX5_init 1 = .ok (.invokespecial 3, 3) := by decide +kernel
theorem dX5_init_4 : decode cX5_init 4 = .ok (.aload_n 0, 1) := by decide +kernel
theorem dX5_init_5 : decode cX5_init 5 = .ok (.iconst (-1), 1) := by decide +kernel
theorem dX5_init_6 : decode cX5_init 6 = .ok (.putfield 9, 3) := by decide +kernel
theorem dX5_init_9 : decode cX5_init 9 = .ok (.aload_n 0, 1) := by decide +kernel
theorem dX5_init_10 : decode cX5_init 10 = .ok (.iconst (-1), 1) := by decide +kernel
theorem dX5_init_11 : decode cX5_init 11 = .ok (.putfield 15, 3) := by decide +kernel
theorem dX5_init_14 : decode cX5_init 14 = .ok (.aload_n 0, 1) := by decide +kernel
theorem dX5_init_15 : decode cX5_init 15 = .ok (.iconst (-1), 1) := by decide +kernel
theorem dX5_init_16 : decode cX5_init 16 = .ok (.putfield 18, 3) := by decide +kernel
theorem dX5_init_19 : decode cX5_init 19 = .ok (.aload_n 0, 1) := by decide +kernel
theorem dX5_init_20 : decode cX5_init 20 = .ok (.iload_n 1, 1) := by decide +kernel
theorem dX5_init_21 : decode cX5_init 21 = .ok (.putfield 21, 3) := by decide +kernel
theorem dX5_init_24 : decode cX5_init 24 = .ok (.return_, 1) := by decide +kernel
theorem dX5_copyFrom_0 : decode cX5_copyFrom 0 = .ok (.aload_n 0, 1) := by decide +kernel
theorem dX5_copyFrom_1 : decode cX5_copyFrom 1 = .ok (.aload_n 1, 1) := by decide +kernel
theorem dX5_copyFrom_2 : decode cX5_copyFrom 2 = .ok (.getfield 21, 3) := by decide +kernel
theorem dX5_copyFrom_5 : decode cX5_copyFrom 5 = .ok (.putfield 21, 3) := by decide +kernel
theorem dX5_copyFrom_8 : decode cX5_copyFrom 8 = .ok (.aload_n 0, 1) := by decide +kernel
theorem dX5_copyFrom_9 : decode cX5_copyFrom 9 = .ok (.aload_n 1, 1) := by decide +kernel
theorem dX5_copyFrom_10 : decode cX5_copyFrom 10 = .ok (.getfield 24, 3) := by decide +kernel
theorem dX5_copyFrom_13 : decode cX5_copyFrom 13 = .ok (.putfield 24, 3) := by decide +kernel
theorem dX5_copyFrom_16 : decode cX5_copyFrom 16 = .ok (.aload_n 0, 1) := by decide +kernel
theorem dX5_copyFrom_17 : decode cX5_copyFrom 17 = .ok (.aload_n 1, 1) := by decide +kernel
theorem dX5_copyFrom_18 : decode cX5_copyFrom 18 = .ok (.getfield 27, 3) := by decide +kernel
theorem dX5_copyFrom_21 : decode cX5_copyFrom 21 = .ok (.putfield 27, 3) := by decide +kernel
theorem dX5_copyFrom_24 : decode cX5_copyFrom 24 = .ok (.aload_n 0, 1) := by decide +kernel
theorem dX5_copyFrom_25 : decode cX5_copyFrom 25 = .ok (.aload_n 1, 1) := by decide +kernel
theorem dX5_copyFrom_26 : decode cX5_copyFrom 26 = .ok (.getfield 9, 3) := by decide +kernel
theorem dX5_copyFrom_29 : decode cX5_copyFrom 29 = .ok (.putfield 9, 3) := by decide +kernel
theorem dX5_copyFrom_32 : decode cX5_copyFrom 32 = .ok (.aload_n 0, 1) := by decide +kernel
theorem dX5_copyFrom_33 : decode cX5_copyFrom 33 = .ok (.aload_n 1, 1) := by decide +kernel
theorem dX5_copyFrom_34 : decode cX5_copyFrom 34 = .ok (.getfield 30, 3) := by decide +kernel
theorem dX5_copyFrom_37 : decode cX5_copyFrom 37 = .ok (.putfield 30, 3) := by decide +kernel
theorem dX5_copyFrom_40 : decode cX5_copyFrom 40 = .ok (.aload_n 0, 1) := by decide +kernel
theorem dX5_copyFrom_41 : decode cX5_copyFrom 41 = .ok (.aload_n 1, 1) := by decide +kernel
theorem dX5_copyFrom_42 : decode cX5_copyFrom 42 = .ok (.getfield 33, 3) := by decide +kernel
theorem dX5_copyFrom_45 : decode cX5_copyFrom 45 = .ok (.putfield 33, 3) := by decide +kernel
theorem dX5_copyFrom_48 : decode cX5_copyFrom 48 = .ok (.aload_n 0, 1) := by decide +kernel
theorem dX5_copyFrom_49 : decode cX5_copyFrom 49 = .ok (.aload_n 1, 1) := by decide +kernel
theorem dX5_copyFrom_50 : decode cX5_copyFrom 50 = .ok (.getfield 36, 3) := by decide +kernel
theorem dX5_copyFrom_53 : decode cX5_copyFrom 53 = .ok (.putfield 36, 3) := by decide +kernel
theorem dX5_copyFrom_56 : decode cX5_copyFrom 56 = .ok (.aload_n 0, 1) := by decide +kernel
theorem dX5_copyFrom_57 : decode cX5_copyFrom 57 = .ok (.aload_n 1, 1) := by decide +kernel
theorem dX5_copyFrom_58 : decode cX5_copyFrom 58 = .ok (.getfield 15, 3) := by decide +kernel
theorem dX5_copyFrom_61 : decode cX5_copyFrom 61 = .ok (.putfield 15, 3) := by decide +kernel
theorem dX5_copyFrom_64 : decode cX5_copyFrom 64 = .ok (.aload_n 0, 1) := by decide +kernel
theorem dX5_copyFrom_65 : decode cX5_copyFrom 65 = .ok (.aload_n 1, 1) := by decide +kernel
theorem dX5_copyFrom_66 : decode cX5_copyFrom 66 = .ok (.getfield 18, 3) := by decide +kernel
theorem dX5_copyFrom_69 : decode cX5_copyFrom 69 = .ok (.putfield 18, 3) := by decide +kernel
theorem dX5_copyFrom_72 : decode cX5_copyFrom 72 = .ok (.aload_n 0, 1) := by decide +kernel
theorem dX5_copyFrom_73 : decode cX5_copyFrom 73 = .ok (.aload_n 1, 1) := by decide +kernel
theorem dX5_copyFrom_74 : decode cX5_copyFrom 74 = .ok (.getfield 39, 3) := by decide +kernel
theorem dX5_copyFrom_77 : decode cX5_copyFrom 77 = .ok (.putfield 39, 3) := by decide +kernel
theorem dX5_copyFrom_80 : decode cX5_copyFrom 80 = .ok (.return_, 1) := by decide +kernel
theorem dX5_mustRest_0 : decode cX5_mustRest 0 = .ok (.aload_n 0, 1) := by decide +kernel
theorem dX5_mustRest_1 : decode cX5_mustRest 1 = .ok (.getfield 15, 3) := by decide +kernel
theorem dX5_mustRest_4 : decode cX5_mustRest 4 = .ok (.iconst (-1), 1) := by decide +kernel
theorem dX5_mustRest_5 : decode cX5_mustRest 5 = .ok (.if_icmp .ne 11, 3) := by decide +kernel
theorem dX5_mustRest_8 : decode cX5_mustRest 8 = .ok (.aload_n 0, 1) := by decide +kernel
theorem dX5_mustRest_9 : decode cX5_mustRest 9 = .ok (.getfield 18, 3) := by decide +kernel
theorem dX5_mustRest_12 : decode cX5_mustRest 12 = .ok (.iconst (-1), 1) := by decide +kernel
theorem dX5_mustRest_13 : decode cX5_mustRest 13 = .ok (.if_icmp .eq 7, 3) := by decide +kernel
theorem dX5_mustRest_16 : decode cX5_mustRest 16 = .ok (.iconst 1, 1) := by decide +kernel
theorem dX5_mustRest_17 : decode cX5_mustRest 17 = .ok (.goto 4, 3) := by decide +kernel
theorem dX5_mustRest_20 : decode cX5_mustRest 20 = .ok (.iconst 0, 1) := by decide +kernel
theorem dX5_mustRest_21 : decode cX5_mustRest 21 = .ok (.istore_n 1, 1) := by decide +kernel
theorem dX5_mustRest_22 : decode cX5_mustRest 22 = .ok (.aload_n 0, 1) := by decide +kernel
theorem dX5_mustRest_23 : decode cX5_mustRest 23 = .ok (.getfield 24, 3) := by decide +kernel
theorem dX5_mustRest_26 : decode cX5_mustRest 26 = .ok (.bipush 10, 2) := by decide +kernel
theorem dX5_mustRest_28 : decode cX5_mustRest 28 = .ok (.if_icmp .ge 14, 3) := by decide +kernel
theorem dX5_mustRest_31 : decode cX5_mustRest 31 = .ok (.iload_n 1, 1) := by decide +kernel
theorem dX5_mustRest_32 : decode cX5_mustRest 32 = .ok (.ifCond .ne 14, 3) := by decide +kernel
theorem dX5_mustRest_35 : decode cX5_mustRest 35 = .ok (.aload_n 0, 1) := by decide +kernel
theorem dX5_mustRest_36 : decode cX5_mustRest 36 = .ok (.getfield 24, 3) := by decide +kernel
theorem dX5_mustRest_39 : decode cX5_mustRest 39 = .ok (.ifCond .le 7, 3) := by decide +kernel
theorem dX5_mustRest_42 : decode cX5_mustRest 42 = .ok (.iconst 1, 1) := by decide +kernel
theorem dX5_mustRest_43 : decode cX5_mustRest 43 = .ok (.goto 4, 3) := by decide +kernel
theorem dX5_mustRest_46 : decode cX5_mustRest 46 = .ok (.iconst 0, 1) := by decide +kernel
theorem dX5_mustRest_47 : decode cX5_mustRest 47 = .ok (.ireturn, 1) := by decide +kernel
theorem dX5_sleepHour_0 : decode cX5_sleepHour 0 = .ok (.aload_n 0, 1) := by decide +kernel
theorem dX5_sleepHour_1 : decode cX5_sleepHour 1 = .ok (.dup, 1) := by decide +kernel
theorem dX5_sleepHour_2 : decode cX5_sleepHour 2 = .ok (.getfield 33, 3) := by decide +kernel
theorem dX5_sleepHour_5 : decode cX5_sleepHour 5 = .ok (.iconst 1, 1) := by decide +kernel
theorem dX5_sleepHour_6 : decode cX5_sleepHour 6 = .ok (.iadd, 1) := by decide +kernel
theorem dX5_sleepHour_7 : decode cX5_sleepHour 7 = .ok (.putfield 33, 3) := by decide +kernel
theorem dX5_sleepHour_10 : decode cX5_sleepHour 10 = .ok (.aload_n 0, 1) := by decide +kernel
theorem dX5_sleepHour_11 : decode cX5_sleepHour 11 = .ok (.getfield 33, 3) := by decide +kernel
theorem dX5_sleepHour_14 : decode cX5_sleepHour 14 = .ok (.bipush 8, 2) := by decide +kernel
theorem dX5_sleepHour_16 : decode cX5_sleepHour 16 = .ok (.if_icmp .lt 13, 3) := by decide +kernel
theorem dX5_sleepHour_19 : decode cX5_sleepHour 19 = .ok (.aload_n 0, 1) := by decide +kernel
theorem dX5_sleepHour_20 : decode cX5_sleepHour 20 = .ok (.iconst 0, 1) := by decide +kernel
theorem dX5_sleepHour_21 : decode cX5_sleepHour 21 = .ok (.putfield 33, 3) := by decide +kernel
theorem dX5_sleepHour_24 : decode cX5_sleepHour 24 = .ok (.aload_n 0, 1) := by decide +kernel
theorem dX5_sleepHour_25 : decode cX5_sleepHour 25 = .ok (.iconst 0, 1) := by decide +kernel
theorem dX5_sleepHour_26 : decode cX5_sleepHour 26 = .ok (.putfield 24, 3) := by decide +kernel
theorem dX5_sleepHour_29 : decode cX5_sleepHour 29 = .ok (.return_, 1) := by decide +kernel
theorem dX5_drive_0 : decode cX5_drive 0 = .ok (.aload_n 0, 1) := by decide +kernel
theorem dX5_drive_1 : decode cX5_drive 1 = .ok (.getfield 21, 3) := by decide +kernel
theorem dX5_drive_4 : decode cX5_drive 4 = .ok (.iload_n 1, 1) := by decide +kernel
theorem dX5_drive_5 : decode cX5_drive 5 = .ok (.bipush 50, 2) := by decide +kernel
theorem dX5_drive_7 : decode cX5_drive 7 = .ok (.invokestatic 42, 3) := by decide +kernel
theorem dX5_drive_10 : decode cX5_drive 10 = .ok (.istore_n 2, 1) := by decide +kernel
theorem dX5_drive_11 : decode cX5_drive 11 = .ok (.aload_n 0, 1) := by decide +kernel
theorem dX5_drive_12 : decode cX5_drive 12 = .ok (.dup, 1) := by decide +kernel
theorem dX5_drive_13 : decode cX5_drive 13 = .ok (.getfield 39, 3) := by decide +kernel
theorem dX5_drive_16 : decode cX5_drive 16 = .ok (.iload_n 2, 1) := by decide +kernel
theorem dX5_drive_17 : decode cX5_drive 17 = .ok (.aload_n 0, 1) := by decide +kernel
theorem dX5_drive_18 : decode cX5_drive 18 = .ok (.getfield 21, 3) := by decide +kernel
theorem dX5_drive_21 : decode cX5_drive 21 = .ok (.isub, 1) := by decide +kernel
theorem dX5_drive_22 : decode cX5_drive 22 = .ok (.invokestatic 46, 3) := by decide +kernel
theorem dX5_drive_25 : decode cX5_drive 25 = .ok (.iadd, 1) := by decide +kernel
theorem dX5_drive_26 : decode cX5_drive 26 = .ok (.putfield 39, 3) := by decide +kernel
theorem dX5_drive_29 : decode cX5_drive 29 = .ok (.aload_n 0, 1) := by decide +kernel
theorem dX5_drive_30 : decode cX5_drive 30 = .ok (.iload_n 2, 1) := by decide +kernel
theorem dX5_drive_31 : decode cX5_drive 31 = .ok (.putfield 21, 3) := by decide +kernel
theorem dX5_drive_34 : decode cX5_drive 34 = .ok (.aload_n 0, 1) := by decide +kernel
theorem dX5_drive_35 : decode cX5_drive 35 = .ok (.dup, 1) := by decide +kernel
theorem dX5_drive_36 : decode cX5_drive 36 = .ok (.getfield 24, 3) := by decide +kernel
theorem dX5_drive_39 : decode cX5_drive 39 = .ok (.iconst 1, 1) := by decide +kernel
theorem dX5_drive_40 : decode cX5_drive 40 = .ok (.iadd, 1) := by decide +kernel
theorem dX5_drive_41 : decode cX5_drive 41 = .ok (.putfield 24, 3) := by decide +kernel
theorem dX5_drive_44 : decode cX5_drive 44 = .ok (.aload_n 0, 1) := by decide +kernel
theorem dX5_drive_45 : decode cX5_drive 45 = .ok (.iconst 0, 1) := by decide +kernel
theorem dX5_drive_46 : decode cX5_drive 46 = .ok (.putfield 33, 3) := by decide +kernel
theorem dX5_drive_49 : decode cX5_drive 49 = .ok (.return_, 1) := by decide +kernel
theorem dX5_takeFrom_0 : decode cX5_takeFrom 0 = .ok (.aload_n 0, 1) := by decide +kernel
theorem dX5_takeFrom_1 : decode cX5_takeFrom 1 = .ok (.getfield 27, 3) := by decide +kernel
theorem dX5_takeFrom_4 : decode cX5_takeFrom 4 = .ok (.ifCond .le 15, 3) := by decide +kernel
theorem dX5_takeFrom_7 : decode cX5_takeFrom 7 = .ok (.aload_n 0, 1) := by decide +kernel
theorem dX5_takeFrom_8 : decode cX5_takeFrom 8 = .ok (.getfield 9, 3) := by decide +kernel
theorem dX5_takeFrom_11 : decode cX5_takeFrom 11 = .ok (.aload_n 1, 1) := by decide +kernel
theorem dX5_takeFrom_12 : decode cX5_takeFrom 12 = .ok (.getfield 52, 3) := by decide +kernel
theorem dX5_takeFrom_15 : decode cX5_takeFrom 15 = .ok (.if_icmp .eq 4, 3) := by decide +kernel
theorem dX5_takeFrom_18 : decode cX5_takeFrom 18 = .ok (.return_, 1) := by decide +kernel
theorem dX5_takeFrom_19 : decode cX5_takeFrom 19 = .ok (.aload_n 1, 1) := by decide +kernel
theorem dX5_takeFrom_20 : decode cX5_takeFrom 20 = .ok (.getfield 57, 3) := by decide +kernel
theorem dX5_takeFrom_23 : decode cX5_takeFrom 23 = .ok (.sipush 800, 3) := by decide +kernel
theorem dX5_takeFrom_26 : decode cX5_takeFrom 26 = .ok (.aload_n 0, 1) := by decide +kernel
theorem dX5_takeFrom_27 : decode cX5_takeFrom 27 = .ok (.getfield 27, 3) := by decide +kernel
theorem dX5_takeFrom_30 : decode cX5_takeFrom 30 = .ok (.isub, 1) := by decide +kernel
theorem dX5_takeFrom_31 : decode cX5_takeFrom 31 = .ok (.invokestatic 60, 3) := by decide +kernel
theorem dX5_takeFrom_34 : decode cX5_takeFrom 34 = .ok (.istore_n 2, 1) := by decide +kernel
theorem dX5_takeFrom_35 : decode cX5_takeFrom 35 = .ok (.iload_n 2, 1) := by decide +kernel
theorem dX5_takeFrom_36 : decode cX5_takeFrom 36 = .ok (.ifCond .le 60, 3) := by decide +kernel
theorem dX5_takeFrom_39 : decode cX5_takeFrom 39 = .ok (.aload_n 0, 1) := by decide +kernel
theorem dX5_takeFrom_40 : decode cX5_takeFrom 40 = .ok (.aload_n 0, 1) := by decide +kernel
theorem dX5_takeFrom_41 : decode cX5_takeFrom 41 = .ok (.getfield 27, 3) := by decide +kernel
theorem dX5_takeFrom_44 : decode cX5_takeFrom 44 = .ok (.ifCond .le 17, 3) := by decide +kernel
theorem dX5_takeFrom_47 : decode cX5_takeFrom 47 = .ok (.aload_n 0, 1) := by decide +kernel
theorem dX5_takeFrom_48 : decode cX5_takeFrom 48 = .ok (.getfield 30, 3) := by decide +kernel
theorem dX5_takeFrom_51 : decode cX5_takeFrom 51 = .ok (.aload_n 1, 1) := by decide +kernel
theorem dX5_takeFrom_52 : decode cX5_takeFrom 52 = .ok (.getfield 64, 3) := by decide +kernel
theorem dX5_takeFrom_55 : decode cX5_takeFrom 55 = .ok (.invokestatic 67, 3) := by decide +kernel
theorem dX5_takeFrom_58 : decode cX5_takeFrom 58 = .ok (.goto 7, 3) := by decide +kernel
theorem dX5_takeFrom_61 : decode cX5_takeFrom 61 = .ok (.aload_n 1, 1) := by decide +kernel
theorem dX5_takeFrom_62 : decode cX5_takeFrom 62 = .ok (.getfield 64, 3) := by decide +kernel
theorem dX5_takeFrom_65 : decode cX5_takeFrom 65 = .ok (.putfield 30, 3) := by decide +kernel
theorem dX5_takeFrom_68 : decode cX5_takeFrom 68 = .ok (.aload_n 0, 1) := by decide +kernel
theorem dX5_takeFrom_69 : decode cX5_takeFrom 69 = .ok (.aload_n 1, 1) := by decide +kernel
theorem dX5_takeFrom_70 : decode cX5_takeFrom 70 = .ok (.getfield 52, 3) := by decide +kernel
theorem dX5_takeFrom_73 : decode cX5_takeFrom 73 = .ok (.putfield 9, 3) := by decide +kernel
theorem dX5_takeFrom_76 : decode cX5_takeFrom 76 = .ok (.aload_n 0, 1) := by decide +kernel
theorem dX5_takeFrom_77 : decode cX5_takeFrom 77 = .ok (.dup, 1) := by decide +kernel
theorem dX5_takeFrom_78 : decode cX5_takeFrom 78 = .ok (.getfield 27, 3) := by decide +kernel
theorem dX5_takeFrom_81 : decode cX5_takeFrom 81 = .ok (.iload_n 2, 1) := by decide +kernel
theorem dX5_takeFrom_82 : decode cX5_takeFrom 82 = .ok (.iadd, 1) := by decide +kernel
theorem dX5_takeFrom_83 : decode cX5_takeFrom 83 = .ok (.putfield 27, 3) := by decide +kernel
theorem dX5_takeFrom_86 : decode cX5_takeFrom 86 = .ok (.aload_n 1, 1) := by decide +kernel
theorem dX5_takeFrom_87 : decode cX5_takeFrom 87 = .ok (.dup, 1) := by decide +kernel
theorem dX5_takeFrom_88 : decode cX5_takeFrom 88 = .ok (.getfield 57, 3) := by decide +kernel
theorem dX5_takeFrom_91 : decode cX5_takeFrom 91 = .ok (.iload_n 2, 1) := by decide +kernel
theorem dX5_takeFrom_92 : decode cX5_takeFrom 92 = .ok (.isub, 1) := by decide +kernel
theorem dX5_takeFrom_93 : decode cX5_takeFrom 93 = .ok (.putfield 57, 3) := by decide +kernel
theorem dX5_takeFrom_96 : decode cX5_takeFrom 96 = .ok (.return_, 1) := by decide +kernel
theorem dX6_init_0 : decode cX6_init 0 = .ok (.aload_n 0, 1) := by decide +kernel
theorem dX6_init_1 : decode cX6_init 1 = .ok (.invokespecial 1, 3) := by decide +kernel
theorem dX6_init_4 : decode cX6_init 4 = .ok (.aload_n 0, 1) := by decide +kernel
theorem dX6_init_5 : decode cX6_init 5 = .ok (.new 7, 3) := by decide +kernel
theorem dX6_init_8 : decode cX6_init 8 = .ok (.dup, 1) := by decide +kernel
theorem dX6_init_9 : decode cX6_init 9 = .ok (.iconst 0, 1) := by decide +kernel
theorem dX6_init_10 : decode cX6_init 10 = .ok (.invokespecial 9, 3) := by decide +kernel
theorem dX6_init_13 : decode cX6_init 13 = .ok (.putfield 12, 3) := by decide +kernel
theorem dX6_init_16 : decode cX6_init 16 = .ok (.aload_n 0, 1) := by decide +kernel
theorem dX6_init_17 : decode cX6_init 17 = .ok (.new 7, 3) := by decide +kernel
theorem dX6_init_20 : decode cX6_init 20 = .ok (.dup, 1) := by decide +kernel
theorem dX6_init_21 : decode cX6_init 21 = .ok (.iconst 1, 1) := by decide +kernel
theorem dX6_init_22 : decode cX6_init 22 = .ok (.invokespecial 9, 3) := by decide +kernel
theorem dX6_init_25 : decode cX6_init 25 = .ok (.putfield 18, 3) := by decide +kernel
theorem dX6_init_28 : decode cX6_init 28 = .ok (.aload_n 0, 1) := by decide +kernel
theorem dX6_init_29 : decode cX6_init 29 = .ok (.new 21, 3) := by decide +kernel
theorem dX6_init_32 : decode cX6_init 32 = .ok (.dup, 1) := by decide +kernel
theorem dX6_init_33 : decode cX6_init 33 = .ok (.iconst 0, 1) := by decide +kernel
theorem dX6_init_34 : decode cX6_init 34 = .ok (.iconst 0, 1) := by decide +kernel
theorem dX6_init_35 : decode cX6_init 35 = .ok (.iconst 0, 1) := by decide +kernel
theorem dX6_init_36 : decode cX6_init 36 = .ok (.iconst 0, 1) := by decide +kernel
theorem dX6_init_37 : decode cX6_init 37 = .ok (.iconst 0, 1) := by decide +kernel
theorem dX6_init_38 : decode cX6_init 38 = .ok (.invokespecial 23, 3) := by decide +kernel
theorem dX6_init_41 : decode cX6_init 41 = .ok (.putfield 26, 3) := by decide +kernel
theorem dX6_init_44 : decode cX6_init 44 = .ok (.return_, 1) := by decide +kernel
theorem dX6_field_0 : decode cX6_field 0 = .ok (.iload_n 1, 1) := by decide +kernel
theorem dX6_field_1 : decode cX6_field 1 = .ok (.iconst 0, 1) := by decide +kernel
theorem dX6_field_2 : decode cX6_field 2 = .ok (.iconst 3, 1) := by decide +kernel
theorem dX6_field_3 : decode cX6_field 3 = .ok (.invokestatic 30, 3) := by decide +kernel
theorem dX6_field_6 : decode cX6_field 6 = .ok (.ifCond .eq 13, 3) := by decide +kernel
theorem dX6_field_9 : decode cX6_field 9 = .ok (.new 34, 3) := by decide +kernel
theorem dX6_field_12 : decode cX6_field 12 = .ok (.dup, 1) := by decide +kernel
theorem dX6_field_13 : decode cX6_field 13 = .ok (.ldc 36, 2) := by decide +kernel
theorem dX6_field_15 : decode cX6_field 15 = .ok (.invokespecial 38, 3) := by decide +kernel
theorem dX6_field_18 : decode cX6_field 18 = .ok (.athrow, 1) := by decide +kernel
theorem dX6_field_19 : decode cX6_field 19 = .ok (.iload_n 2, 1) := by decide +kernel
theorem dX6_field_20 : decode cX6_field 20 = .ok (.iconst 0, 1) := by decide +kernel
theorem dX6_field_21 : decode cX6_field 21 = .ok (.sipush 300, 3) := by decide +kernel
theorem dX6_field_24 : decode cX6_field 24 = .ok (.invokestatic 30, 3) := by decide +kernel
theorem dX6_field_27 : decode cX6_field 27 = .ok (.ifCond .ne 37, 3) := by decide +kernel
theorem dX6_field_30 : decode cX6_field 30 = .ok (.iload_n 3, 1) := by decide +kernel
theorem dX6_field_31 : decode cX6_field 31 = .ok (.iconst 1, 1) := by decide +kernel
theorem dX6_field_32 : decode cX6_field 32 = .ok (.sipush 200, 3) := by decide +kernel
theorem dX6_field_35 : decode cX6_field 35 = .ok (.invokestatic 30, 3) := by decide +kernel
theorem dX6_field_38 : decode cX6_field 38 = .ok (.ifCond .ne 26, 3) := by decide +kernel
theorem dX6_field_41 : decode cX6_field 41 = .ok (.iload 4, 2) := by decide +kernel
theorem dX6_field_43 : decode cX6_field 43 = .ok (.bipush 10, 2) := by decide +kernel
theorem dX6_field_45 : decode cX6_field 45 = .ok (.bipush 90, 2) := by decide +kernel
theorem dX6_field_47 : decode cX6_field 47 = .ok (.invokestatic 30, 3) := by decide +kernel
theorem dX6_field_50 : decode cX6_field 50 = .ok (.ifCond .ne 14, 3) := by decide +kernel
theorem dX6_field_53 : decode cX6_field 53 = .ok (.iload 5, 2) := by decide +kernel
theorem dX6_field_55 : decode cX6_field 55 = .ok (.iconst 0, 1) := by decide +kernel
theorem dX6_field_56 : decode cX6_field 56 = .ok (.bipush 50, 2) := by decide +kernel
theorem dX6_field_58 : decode cX6_field 58 = .ok (.invokestatic 30, 3) := by decide +kernel
theorem dX6_field_61 : decode cX6_field 61 = .ok (.ifCond .eq 13, 3) := by decide +kernel
theorem dX6_field_64 : decode cX6_field 64 = .ok (.new 41, 3) := by decide +kernel
theorem dX6_field_67 : decode cX6_field 67 = .ok (.dup, 1) := by decide +kernel
theorem dX6_field_68 : decode cX6_field 68 = .ok (.ldc 43, 2) := by decide +kernel
theorem dX6_field_70 : decode cX6_field 70 = .ok (.invokespecial 45, 3) := by decide +kernel
theorem dX6_field_73 : decode cX6_field 73 = .ok (.athrow, 1) := by decide +kernel
theorem dX6_field_74 : decode cX6_field 74 = .ok (.aload_n 0, 1) := by decide +kernel
theorem dX6_field_75 : decode cX6_field 75 = .ok (.getfield 12, 3) := by decide +kernel
theorem dX6_field_78 : decode cX6_field 78 = .ok (.getfield 46, 3) := by decide +kernel
theorem dX6_field_81 : decode cX6_field 81 = .ok (.invokevirtual 50, 3) := by decide +kernel
theorem dX6_field_84 : decode cX6_field 84 = .ok (.bipush 8, 2) := by decide +kernel
theorem dX6_field_86 : decode cX6_field 86 = .ok (.if_icmp .lt 13, 3) := by decide +kernel
theorem dX6_field_89 : decode cX6_field 89 = .ok (.new 56, 3) := by decide +kernel
theorem dX6_field_92 : decode cX6_field 92 = .ok (.dup, 1) := by decide +kernel
theorem dX6_field_93 : decode cX6_field 93 = .ok (.ldc 58, 2) := by decide +kernel
theorem dX6_field_95 : decode cX6_field 95 = .ok (.invokespecial 60, 3) := by decide +kernel
theorem dX6_field_98 : decode cX6_field 98 = .ok (.athrow, 1) := by decide +kernel
theorem dX6_field_99 : decode cX6_field 99 = .ok (.aload_n 0, 1) := by decide +kernel
theorem dX6_field_100 : decode cX6_field 100 = .ok (.getfield 12, 3) := by decide +kernel
theorem dX6_field_103 : decode cX6_field 103 = .ok (.getfield 46, 3) := by decide +kernel
theorem dX6_field_106 : decode cX6_field 106 = .ok (.new 21, 3) := by decide +kernel
theorem dX6_field_109 : decode cX6_field 109 = .ok (.dup, 1) := by decide +kernel
theorem dX6_field_110 : decode cX6_field 110 = .ok (.iload_n 1, 1) := by decide +kernel
theorem dX6_field_111 : decode cX6_field 111 = .ok (.iload_n 2, 1) := by decide +kernel
theorem dX6_field_112 : decode cX6_field 112 = .ok (.iload_n 3, 1) := by decide +kernel
theorem dX6_field_113 : decode cX6_field 113 = .ok (.iload 4, 2) := by decide +kernel
theorem dX6_field_115 : decode cX6_field 115 = .ok (.iload 5, 2) := by decide +kernel
theorem dX6_field_117 : decode cX6_field 117 = .ok (.invokespecial 23, 3) := by decide +kernel
theorem dX6_field_120 : decode cX6_field 120 = .ok (.invokevirtual 61, 3) := by decide +kernel
theorem dX6_field_123 : decode cX6_field 123 = .ok (.pop, 1) := by decide +kernel
theorem dX6_field_124 : decode cX6_field 124 = .ok (.aload_n 0, 1) := by decide +kernel
theorem dX6_field_125 : decode cX6_field 125 = .ok (.getfield 12, 3) := by decide +kernel
theorem dX6_field_128 : decode cX6_field 128 = .ok (.getfield 46, 3) := by decide +kernel
theorem dX6_field_131 : decode cX6_field 131 = .ok (.invokevirtual 50, 3) := by decide +kernel
theorem dX6_field_134 : decode cX6_field 134 = .ok (.iconst 1, 1) := by decide +kernel
theorem dX6_field_135 : decode cX6_field 135 = .ok (.isub, 1) := by decide +kernel
theorem dX6_field_136 : decode cX6_field 136 = .ok (.ireturn, 1) := by decide +kernel
theorem dX6_crop_0 : decode cX6_crop 0 = .ok (.aload_n 0, 1) := by decide +kernel
theorem dX6_crop_1 : decode cX6_crop 1 = .ok (.getfield 12, 3) := by decide +kernel
theorem dX6_crop_4 : decode cX6_crop 4 = .ok (.iload_n 1, 1) := by decide +kernel
theorem dX6_crop_5 : decode cX6_crop 5 = .ok (.invokevirtual 65, 3) := by decide +kernel
theorem dX6_crop_8 : decode cX6_crop 8 = .ok (.astore 4, 2) := by decide +kernel
theorem dX6_crop_10 : decode cX6_crop 10 = .ok (.aload 4, 2) := by decide +kernel
theorem dX6_crop_12 : decode cX6_crop 12 = .ok (.ifnonnull 13, 3) := by decide +kernel
theorem dX6_crop_15 : decode cX6_crop 15 = .ok (.new 34, 3) := by decide +kernel
theorem dX6_crop_18 : decode cX6_crop 18 = .ok (.dup, 1) := by decide +kernel
theorem dX6_crop_19 : decode cX6_crop 19 = .ok (.ldc 69, 2) := by decide +kernel
theorem dX6_crop_21 : decode cX6_crop 21 = .ok (.invokespecial 38, 3) := by decide +kernel
theorem dX6_crop_24 : decode cX6_crop 24 = .ok (.athrow, 1) := by decide +kernel
theorem dX6_crop_25 : decode cX6_crop 25 = .ok (.iload_n 2, 1) := by decide +kernel
theorem dX6_crop_26 : decode cX6_crop 26 = .ok (.iconst 0, 1) := by decide +kernel
theorem dX6_crop_27 : decode cX6_crop 27 = .ok (.bipush 100, 2) := by decide +kernel
theorem dX6_crop_29 : decode cX6_crop 29 = .ok (.invokestatic 30, 3) := by decide +kernel
theorem dX6_crop_32 : decode cX6_crop 32 = .ok (.ifCond .ne 13, 3) := by decide +kernel
theorem dX6_crop_35 : decode cX6_crop 35 = .ok (.iload_n 3, 1) := by decide +kernel
theorem dX6_crop_36 : decode cX6_crop 36 = .ok (.iconst 5, 1) := by decide +kernel
theorem dX6_crop_37 : decode cX6_crop 37 = .ok (.bipush 40, 2) := by decide +kernel
theorem dX6_crop_39 : decode cX6_crop 39 = .ok (.invokestatic 30, 3) := by decide +kernel
theorem dX6_crop_42 : decode cX6_crop 42 = .ok (.ifCond .eq 13, 3) := by decide +kernel
theorem dX6_crop_45 : decode cX6_crop 45 = .ok (.new 41, 3) := by decide +kernel
theorem dX6_crop_48 : decode cX6_crop 48 = .ok (.dup, 1) := by decide +kernel
theorem dX6_crop_49 : decode cX6_crop 49 = .ok (.ldc 71, 2) := by decide +kernel
theorem dX6_crop_51 : decode cX6_crop 51 = .ok (.invokespecial 45, 3) := by decide +kernel
theorem dX6_crop_54 : decode cX6_crop 54 = .ok (.athrow, 1) := by decide +kernel
theorem dX6_crop_55 : decode cX6_crop 55 = .ok (.aload 4, 2) := by decide +kernel
theorem dX6_crop_57 : decode cX6_crop 57 = .ok (.getfield 73, 3) := by decide +kernel
theorem dX6_crop_60 : decode cX6_crop 60 = .ok (.istore 5, 2) := by decide +kernel
theorem dX6_crop_62 : decode cX6_crop 62 = .ok (.aload 4, 2) := by decide +kernel
theorem dX6_crop_64 : decode cX6_crop 64 = .ok (.iload_n 2, 1) := by decide +kernel
theorem dX6_crop_65 : decode cX6_crop 65 = .ok (.putfield 73, 3) := by decide +kernel
theorem dX6_crop_68 : decode cX6_crop 68 = .ok (.aload 4, 2) := by decide +kernel
theorem dX6_crop_70 : decode cX6_crop 70 = .ok (.iload_n 3, 1) := by decide +kernel
theorem dX6_crop_71 : decode cX6_crop 71 = .ok (.putfield 77, 3) := by decide +kernel
theorem dX6_crop_74 : decode cX6_crop 74 = .ok (.iload 5, 2) := by decide +kernel
theorem dX6_crop_76 : decode cX6_crop 76 = .ok (.ireturn, 1) := by decide +kernel
theorem dX6_combine_0 : decode cX6_combine 0 = .ok (.iload_n 1, 1) := by decide +kernel
theorem dX6_combine_1 : decode cX6_combine 1 = .ok (.iconst 0, 1) := by decide +kernel
theorem dX6_combine_2 : decode cX6_combine 2 = .ok (.sipush 300, 3) := by decide +kernel
theorem dX6_combine_5 : decode cX6_combine 5 = .ok (.invokestatic 30, 3) := by decide +kernel
theorem dX6_combine_8 : decode cX6_combine 8 = .ok (.ifCond .ne 13, 3) := by decide +kernel
theorem dX6_combine_11 : decode cX6_combine 11 = .ok (.iload_n 2, 1) := by decide +kernel
theorem dX6_combine_12 : decode cX6_combine 12 = .ok (.iconst 1, 1) := by decide +kernel
theorem dX6_combine_13 : decode cX6_combine 13 = .ok (.bipush 20, 2) := by decide +kernel
theorem dX6_combine_15 : decode cX6_combine 15 = .ok (.invokestatic 30, 3) := by decide +kernel
theorem dX6_combine_18 : decode cX6_combine 18 = .ok (.ifCond .eq 13, 3) := by decide +kernel
theorem dX6_combine_21 : decode cX6_combine 21 = .ok (.new 41, 3) := by decide +kernel
theorem dX6_combine_24 : decode cX6_combine 24 = .ok (.dup, 1) := by decide +kernel
theorem dX6_combine_25 : decode cX6_combine 25 = .ok (.ldc 80, 2) := by decide +kernel
theorem dX6_combine_27 : decode cX6_combine 27 = .ok (.invokespecial 45, 3) := by decide +kernel
theorem dX6_combine_30 : decode cX6_combine 30 = .ok (.athrow, 1) := by decide +kernel
theorem dX6_combine_31 : decode cX6_combine 31 = .ok (.aload_n 0, 1) := by decide +kernel
theorem dX6_combine_32 : decode cX6_combine 32 = .ok (.getfield 12, 3) := by decide +kernel
theorem dX6_combine_35 : decode cX6_combine 35 = .ok (.getfield 82, 3) := by decide +kernel
theorem dX6_combine_38 : decode cX6_combine 38 = .ok (.invokevirtual 50, 3) := by decide +kernel
theorem dX6_combine_41 : decode cX6_combine 41 = .ok (.iconst 4, 1) := by decide +kernel
theorem dX6_combine_42 : decode cX6_combine 42 = .ok (.if_icmp .lt 13, 3) := by decide +kernel
theorem dX6_combine_45 : decode cX6_combine 45 = .ok (.new 56, 3) := by decide +kernel
theorem dX6_combine_48 : decode cX6_combine 48 = .ok (.dup, 1) := by decide +kernel
theorem dX6_combine_49 : decode cX6_combine 49 = .ok (.ldc 85, 2) := by decide +kernel
theorem dX6_combine_51 : decode cX6_combine 51 = .ok (.invokespecial 60, 3) := by decide +kernel
theorem dX6_combine_54 : decode cX6_combine 54 = .ok (.athrow, 1) := by decide +kernel
theorem dX6_combine_55 : decode cX6_combine 55 = .ok (.aload_n 0, 1) := by decide +kernel
theorem dX6_combine_56 : decode cX6_combine 56 = .ok (.getfield 12, 3) := by decide +kernel
theorem dX6_combine_59 : decode cX6_combine 59 = .ok (.getfield 82, 3) := by decide +kernel
theorem dX6_combine_62 : decode cX6_combine 62 = .ok (.new 87, 3) := by decide +kernel
theorem dX6_combine_65 : decode cX6_combine 65 = .ok (.dup, 1) := by decide +kernel
theorem dX6_combine_66 : decode cX6_combine 66 = .ok (.aload_n 0, 1) := by decide +kernel
theorem dX6_combine_67 : decode cX6_combine 67 = .ok (.getfield 12, 3) := by decide +kernel
theorem dX6_combine_70 : decode cX6_combine 70 = .ok (.getfield 82, 3) := by decide +kernel
theorem dX6_combine_73 : decode cX6_combine 73 = .ok (.invokevirtual 50, 3) := by decide +kernel
theorem dX6_combine_76 : decode cX6_combine 76 = .ok (.iload_n 1, 1) := by decide +kernel
theorem dX6_combine_77 : decode cX6_combine 77 = .ok (.iload_n 2, 1) := by decide +kernel
theorem dX6_combine_78 : decode cX6_combine 78 = .ok (.invokespecial 89, 3) := by decide +kernel
theorem dX6_combine_81 : decode cX6_combine 81 = .ok (.invokevirtual 61, 3) := by decide +kernel
theorem dX6_combine_84 : decode cX6_combine 84 = .ok (.pop, 1) := by decide +kernel
theorem dX6_combine_85 : decode cX6_combine 85 = .ok (.aload_n 0, 1) := by decide +kernel
theorem dX6_combine_86 : decode cX6_combine 86 = .ok (.getfield 12, 3) := by decide +kernel
theorem dX6_combine_89 : decode cX6_combine 89 = .ok (.getfield 82, 3) := by decide +kernel
theorem dX6_combine_92 : decode cX6_combine 92 = .ok (.invokevirtual 50, 3) := by decide +kernel
theorem dX6_combine_95 : decode cX6_combine 95 = .ok (.iconst 1, 1) := by decide +kernel
theorem dX6_combine_96 : decode cX6_combine 96 = .ok (.isub, 1) := by decide +kernel
theorem dX6_combine_97 : decode cX6_combine 97 = .ok (.ireturn, 1) := by decide +kernel
theorem dX6_truck_0 : decode cX6_truck 0 = .ok (.iload_n 1, 1) := by decide +kernel
theorem dX6_truck_1 : decode cX6_truck 1 = .ok (.iconst 0, 1) := by decide +kernel
theorem dX6_truck_2 : decode cX6_truck 2 = .ok (.sipush 300, 3) := by decide +kernel
theorem dX6_truck_5 : decode cX6_truck 5 = .ok (.invokestatic 30, 3) := by decide +kernel
theorem dX6_truck_8 : decode cX6_truck 8 = .ok (.ifCond .eq 13, 3) := by decide +kernel
theorem dX6_truck_11 : decode cX6_truck 11 = .ok (.new 41, 3) := by decide +kernel
theorem dX6_truck_14 : decode cX6_truck 14 = .ok (.dup, 1) := by decide +kernel
theorem dX6_truck_15 : decode cX6_truck 15 = .ok (.ldc 92, 2) := by decide +kernel
theorem dX6_truck_17 : decode cX6_truck 17 = .ok (.invokespecial 45, 3) := by decide +kernel
theorem dX6_truck_20 : decode cX6_truck 20 = .ok (.athrow, 1) := by decide +kernel
theorem dX6_truck_21 : decode cX6_truck 21 = .ok (.aload_n 0, 1) := by decide +kernel
theorem dX6_truck_22 : decode cX6_truck 22 = .ok (.getfield 12, 3) := by decide +kernel
theorem dX6_truck_25 : decode cX6_truck 25 = .ok (.getfield 94, 3) := by decide +kernel
theorem dX6_truck_28 : decode cX6_truck 28 = .ok (.invokevirtual 50, 3) := by decide +kernel
theorem dX6_truck_31 : decode cX6_truck 31 = .ok (.iconst 4, 1) := by decide +kernel
theorem dX6_truck_32 : decode cX6_truck 32 = .ok (.if_icmp .lt 13, 3) := by decide +kernel
theorem dX6_truck_35 : decode cX6_truck 35 = .ok (.new 56, 3) := by decide +kernel
theorem dX6_truck_38 : decode cX6_truck 38 = .ok (.dup, 1) := by decide +kernel
theorem dX6_truck_39 : decode cX6_truck 39 = .ok (.ldc 97, 2) := by decide +kernel
theorem dX6_truck_41 : decode cX6_truck 41 = .ok (.invokespecial 60, 3) := by decide +kernel
theorem dX6_truck_44 : decode cX6_truck 44 = .ok (.athrow, 1) := by decide +kernel
theorem dX6_truck_45 : decode cX6_truck 45 = .ok (.aload_n 0, 1) := by decide +kernel
theorem dX6_truck_46 : decode cX6_truck 46 = .ok (.getfield 12, 3) := by decide +kernel
theorem dX6_truck_49 : decode cX6_truck 49 = .ok (.getfield 94, 3) := by decide +kernel
theorem dX6_truck_52 : decode cX6_truck 52 = .ok (.new 99, 3) := by decide +kernel
theorem dX6_truck_55 : decode cX6_truck 55 = .ok (.dup, 1) := by decide +kernel
theorem dX6_truck_56 : decode cX6_truck 56 = .ok (.iload_n 1, 1) := by decide +kernel
theorem dX6_truck_57 : decode cX6_truck 57 = .ok (.invokespecial 101, 3) := by decide +kernel
theorem dX6_truck_60 : decode cX6_truck 60 = .ok (.invokevirtual 61, 3) := by decide +kernel
theorem dX6_truck_63 : decode cX6_truck 63 = .ok (.pop, 1) := by decide +kernel
theorem dX6_truck_64 : decode cX6_truck 64 = .ok (.aload_n 0, 1) := by decide +kernel
theorem dX6_truck_65 : decode cX6_truck 65 = .ok (.getfield 12, 3) := by decide +kernel
theorem dX6_truck_68 : decode cX6_truck 68 = .ok (.getfield 94, 3) := by decide +kernel
theorem dX6_truck_71 : decode cX6_truck 71 = .ok (.invokevirtual 50, 3) := by decide +kernel
theorem dX6_truck_74 : decode cX6_truck 74 = .ok (.iconst 1, 1) := by decide +kernel
theorem dX6_truck_75 : decode cX6_truck 75 = .ok (.isub, 1) := by decide +kernel
theorem dX6_truck_76 : decode cX6_truck 76 = .ok (.ireturn, 1) := by decide +kernel
theorem dX6_elevator_0 : decode cX6_elevator 0 = .ok (.iload_n 1, 1) := by decide +kernel
theorem dX6_elevator_1 : decode cX6_elevator 1 = .ok (.iconst 0, 1) := by decide +kernel
theorem dX6_elevator_2 : decode cX6_elevator 2 = .ok (.sipush 300, 3) := by decide +kernel
theorem dX6_elevator_5 : decode cX6_elevator 5 = .ok (.invokestatic 30, 3) := by decide +kernel
theorem dX6_elevator_8 : decode cX6_elevator 8 = .ok (.ifCond .ne 14, 3) := by decide +kernel
theorem dX6_elevator_11 : decode cX6_elevator 11 = .ok (.iload_n 2, 1) := by decide +kernel
theorem dX6_elevator_12 : decode cX6_elevator 12 = .ok (.iconst 0, 1) := by decide +kernel
theorem dX6_elevator_13 : decode cX6_elevator 13 = .ok (.sipush 9999, 3) := by decide +kernel
theorem dX6_elevator_16 : decode cX6_elevator 16 = .ok (.invokestatic 30, 3) := by decide +kernel
theorem dX6_elevator_19 : decode cX6_elevator 19 = .ok (.ifCond .eq 13, 3) := by decide +kernel
theorem dX6_elevator_22 : decode cX6_elevator 22 = .ok (.new 41, 3) := by decide +kernel
theorem dX6_elevator_25 : decode cX6_elevator 25 = .ok (.dup, 1) := by decide +kernel
theorem dX6_elevator_26 : decode cX6_elevator 26 = .ok (.ldc 104, 2) := by decide +kernel
theorem dX6_elevator_28 : decode cX6_elevator 28 = .ok (.invokespecial 45, 3) := by decide +kernel
theorem dX6_elevator_31 : decode cX6_elevator 31 = .ok (.athrow, 1) := by decide +kernel
theorem dX6_elevator_32 : decode cX6_elevator 32 = .ok (.iload_n 3, 1) := by decide +kernel
theorem dX6_elevator_33 : decode cX6_elevator 33 = .ok (.iconst 0, 1) := by decide +kernel
theorem dX6_elevator_34 : decode cX6_elevator 34 = .ok (.bipush 23, 2) := by decide +kernel
theorem dX6_elevator_36 : decode cX6_elevator 36 = .ok (.invokestatic 30, 3) := by decide +kernel
theorem dX6_elevator_39 : decode cX6_elevator 39 = .ok (.ifCond .ne 20, 3) := by decide +kernel
theorem dX6_elevator_42 : decode cX6_elevator 42 = .ok (.iload 4, 2) := by decide +kernel
theorem dX6_elevator_44 : decode cX6_elevator 44 = .ok (.iconst 0, 1) := by decide +kernel
theorem dX6_elevator_45 : decode cX6_elevator 45 = .ok (.bipush 23, 2) := by decide +kernel
theorem dX6_elevator_47 : decode cX6_elevator 47 = .ok (.invokestatic 30, 3) := by decide +kernel
theorem dX6_elevator_50 : decode cX6_elevator 50 = .ok (.ifCond .ne 9, 3) := by decide +kernel
theorem dX6_elevator_53 : decode cX6_elevator 53 = .ok (.iload_n 3, 1) := by decide +kernel
theorem dX6_elevator_54 : decode cX6_elevator 54 = .ok (.iload 4, 2) := by decide +kernel
theorem dX6_elevator_56 : decode cX6_elevator 56 = .ok (.if_icmp .ne 13, 3) := by decide +kernel
theorem dX6_elevator_59 : decode cX6_elevator 59 = .ok (.new 41, 3) := by decide +kernel
theorem dX6_elevator_62 : decode cX6_elevator 62 = .ok (.dup, 1) := by decide +kernel
theorem dX6_elevator_63 : decode cX6_elevator 63 = .ok (.ldc 106, 2) := by decide +kernel
theorem dX6_elevator_65 : decode cX6_elevator 65 = .ok (.invokespecial 45, 3) := by decide +kernel
theorem dX6_elevator_68 : decode cX6_elevator 68 = .ok (.athrow, 1) := by decide +kernel
theorem dX6_elevator_69 : decode cX6_elevator 69 = .ok (.iload 5, 2) := by decide +kernel
theorem dX6_elevator_71 : decode cX6_elevator 71 = .ok (.iconst 5, 1) := by decide +kernel
theorem dX6_elevator_72 : decode cX6_elevator 72 = .ok (.bipush 40, 2) := by decide +kernel
theorem dX6_elevator_74 : decode cX6_elevator 74 = .ok (.invokestatic 30, 3) := by decide +kernel
theorem dX6_elevator_77 : decode cX6_elevator 77 = .ok (.ifCond .ne 15, 3) := by decide +kernel
theorem dX6_elevator_80 : decode cX6_elevator 80 = .ok (.iload 6, 2) := by decide +kernel
theorem dX6_elevator_82 : decode cX6_elevator 82 = .ok (.iload 5, 2) := by decide +kernel
theorem dX6_elevator_84 : decode cX6_elevator 84 = .ok (.bipush 40, 2) := by decide +kernel
theorem dX6_elevator_86 : decode cX6_elevator 86 = .ok (.invokestatic 30, 3) := by decide +kernel
theorem dX6_elevator_89 : decode cX6_elevator 89 = .ok (.ifCond .eq 13, 3) := by decide +kernel
theorem dX6_elevator_92 : decode cX6_elevator 92 = .ok (.new 41, 3) := by decide +kernel
theorem dX6_elevator_95 : decode cX6_elevator 95 = .ok (.dup, 1) := by decide +kernel
theorem dX6_elevator_96 : decode cX6_elevator 96 = .ok (.ldc 108, 2) := by decide +kernel
theorem dX6_elevator_98 : decode cX6_elevator 98 = .ok (.invokespecial 45, 3) := by decide +kernel
theorem dX6_elevator_101 : decode cX6_elevator 101 = .ok (.athrow, 1) := by decide +kernel
theorem dX6_elevator_102 : decode cX6_elevator 102 = .ok (.aload_n 0, 1) := by decide +kernel
theorem dX6_elevator_103 : decode cX6_elevator 103 = .ok (.getfield 12, 3) := by decide +kernel
theorem dX6_elevator_106 : decode cX6_elevator 106 = .ok (.getfield 110, 3) := by decide +kernel
theorem dX6_elevator_109 : decode cX6_elevator 109 = .ok (.invokevirtual 50, 3) := by decide +kernel
theorem dX6_elevator_112 : decode cX6_elevator 112 = .ok (.iconst 3, 1) := by decide +kernel
theorem dX6_elevator_113 : decode cX6_elevator 113 = .ok (.if_icmp .lt 13, 3) := by decide +kernel
theorem dX6_elevator_116 : decode cX6_elevator 116 = .ok (.new 56, 3) := by decide +kernel
theorem dX6_elevator_119 : decode cX6_elevator 119 = .ok (.dup, 1) := by decide +kernel
theorem dX6_elevator_120 : decode cX6_elevator 120 = .ok (.ldc 113, 2) := by decide +kernel
theorem dX6_elevator_122 : decode cX6_elevator 122 = .ok (.invokespecial 60, 3) := by decide +kernel
theorem dX6_elevator_125 : decode cX6_elevator 125 = .ok (.athrow, 1) := by decide +kernel
theorem dX6_elevator_126 : decode cX6_elevator 126 = .ok (.aload_n 0, 1) := by decide +kernel
theorem dX6_elevator_127 : decode cX6_elevator 127 = .ok (.getfield 12, 3) := by decide +kernel
theorem dX6_elevator_130 : decode cX6_elevator 130 = .ok (.getfield 110, 3) := by decide +kernel
theorem dX6_elevator_133 : decode cX6_elevator 133 = .ok (.new 115, 3) := by decide +kernel
theorem dX6_elevator_136 : decode cX6_elevator 136 = .ok (.dup, 1) := by decide +kernel
theorem dX6_elevator_137 : decode cX6_elevator 137 = .ok (.iload_n 1, 1) := by decide +kernel
theorem dX6_elevator_138 : decode cX6_elevator 138 = .ok (.iload_n 2, 1) := by decide +kernel
theorem dX6_elevator_139 : decode cX6_elevator 139 = .ok (.iload_n 3, 1) := by decide +kernel
theorem dX6_elevator_140 : decode cX6_elevator 140 = .ok (.iload 4, 2) := by decide +kernel
theorem dX6_elevator_142 : decode cX6_elevator 142 = .ok (.iload 5, 2) := by decide +kernel
theorem dX6_elevator_144 : decode cX6_elevator 144 = .ok (.iload 6, 2) := by decide +kernel
theorem dX6_elevator_146 : decode cX6_elevator 146 = .ok (.invokespecial 117, 3) := by decide +kernel
theorem dX6_elevator_149 : decode cX6_elevator 149 = .ok (.invokevirtual 61, 3) := by decide +kernel
theorem dX6_elevator_152 : decode cX6_elevator 152 = .ok (.pop, 1) := by decide +kernel
theorem dX6_elevator_153 : decode cX6_elevator 153 = .ok (.aload_n 0, 1) := by decide +kernel
theorem dX6_elevator_154 : decode cX6_elevator 154 = .ok (.getfield 12, 3) := by decide +kernel
theorem dX6_elevator_157 : decode cX6_elevator 157 = .ok (.getfield 110, 3) := by decide +kernel
theorem dX6_elevator_160 : decode cX6_elevator 160 = .ok (.invokevirtual 50, 3) := by decide +kernel
theorem dX6_elevator_163 : decode cX6_elevator 163 = .ok (.iconst 1, 1) := by decide +kernel
theorem dX6_elevator_164 : decode cX6_elevator 164 = .ok (.isub, 1) := by decide +kernel
theorem dX6_elevator_165 : decode cX6_elevator 165 = .ok (.ireturn, 1) := by decide +kernel
theorem dX6_price_0 : decode cX6_price 0 = .ok (.iload_n 1, 1) := by decide +kernel
theorem dX6_price_1 : decode cX6_price 1 = .ok (.iconst 1, 1) := by decide +kernel
theorem dX6_price_2 : decode cX6_price 2 = .ok (.sipush 999, 3) := by decide +kernel
theorem dX6_price_5 : decode cX6_price 5 = .ok (.invokestatic 30, 3) := by decide +kernel
theorem dX6_price_8 : decode cX6_price 8 = .ok (.ifCond .eq 13, 3) := by decide +kernel
theorem dX6_price_11 : decode cX6_price 11 = .ok (.new 41, 3) := by decide +kernel
theorem dX6_price_14 : decode cX6_price 14 = .ok (.dup, 1) := by decide +kernel
theorem dX6_price_15 : decode cX6_price 15 = .ok (.ldc 120, 2) := by decide +kernel
theorem dX6_price_17 : decode cX6_price 17 = .ok (.invokespecial 45, 3) := by decide +kernel
theorem dX6_price_20 : decode cX6_price 20 = .ok (.athrow, 1) := by decide +kernel
theorem dX6_price_21 : decode cX6_price 21 = .ok (.aload_n 0, 1) := by decide +kernel
theorem dX6_price_22 : decode cX6_price 22 = .ok (.getfield 12, 3) := by decide +kernel
theorem dX6_price_25 : decode cX6_price 25 = .ok (.getfield 122, 3) := by decide +kernel
theorem dX6_price_28 : decode cX6_price 28 = .ok (.istore_n 2, 1) := by decide +kernel
theorem dX6_price_29 : decode cX6_price 29 = .ok (.aload_n 0, 1) := by decide +kernel
theorem dX6_price_30 : decode cX6_price 30 = .ok (.getfield 12, 3) := by decide +kernel
theorem dX6_price_33 : decode cX6_price 33 = .ok (.iload_n 1, 1) := by decide +kernel
theorem dX6_price_34 : decode cX6_price 34 = .ok (.putfield 122, 3) := by decide +kernel
theorem dX6_price_37 : decode cX6_price 37 = .ok (.iload_n 2, 1) := by decide +kernel
theorem dX6_price_38 : decode cX6_price 38 = .ok (.ireturn, 1) := by decide +kernel
theorem dX6_cut_0 : decode cX6_cut 0 = .ok (.aload_n 0, 1) := by decide +kernel
theorem dX6_cut_1 : decode cX6_cut 1 = .ok (.getfield 12, 3) := by decide +kernel
theorem dX6_cut_4 : decode cX6_cut 4 = .ok (.iload_n 1, 1) := by decide +kernel
theorem dX6_cut_5 : decode cX6_cut 5 = .ok (.invokevirtual 125, 3) := by decide +kernel
theorem dX6_cut_8 : decode cX6_cut 8 = .ok (.astore_n 3, 1) := by decide +kernel
theorem dX6_cut_9 : decode cX6_cut 9 = .ok (.aload_n 3, 1) := by decide +kernel
theorem dX6_cut_10 : decode cX6_cut 10 = .ok (.ifnonnull 13, 3) := by decide +kernel
theorem dX6_cut_13 : decode cX6_cut 13 = .ok (.new 34, 3) := by decide +kernel
theorem dX6_cut_16 : decode cX6_cut 16 = .ok (.dup, 1) := by decide +kernel
theorem dX6_cut_17 : decode cX6_cut 17 = .ok (.ldc 129, 2) := by decide +kernel
theorem dX6_cut_19 : decode cX6_cut 19 = .ok (.invokespecial 38, 3) := by decide +kernel
theorem dX6_cut_22 : decode cX6_cut 22 = .ok (.athrow, 1) := by decide +kernel
theorem dX6_cut_23 : decode cX6_cut 23 = .ok (.iload_n 2, 1) := by decide +kernel
theorem dX6_cut_24 : decode cX6_cut 24 = .ok (.iconst (-1), 1) := by decide +kernel
theorem dX6_cut_25 : decode cX6_cut 25 = .ok (.if_icmp .eq 24, 3) := by decide +kernel
theorem dX6_cut_28 : decode cX6_cut 28 = .ok (.aload_n 0, 1) := by decide +kernel
theorem dX6_cut_29 : decode cX6_cut 29 = .ok (.getfield 12, 3) := by decide +kernel
theorem dX6_cut_32 : decode cX6_cut 32 = .ok (.iload_n 2, 1) := by decide +kernel
theorem dX6_cut_33 : decode cX6_cut 33 = .ok (.invokevirtual 65, 3) := by decide +kernel
theorem dX6_cut_36 : decode cX6_cut 36 = .ok (.ifnonnull 13, 3) := by decide +kernel
theorem dX6_cut_39 : decode cX6_cut 39 = .ok (.new 34, 3) := by decide +kernel
theorem dX6_cut_42 : decode cX6_cut 42 = .ok (.dup, 1) := by decide +kernel
theorem dX6_cut_43 : decode cX6_cut 43 = .ok (.ldc 69, 2) := by decide +kernel
theorem dX6_cut_45 : decode cX6_cut 45 = .ok (.invokespecial 38, 3) := by decide +kernel
theorem dX6_cut_48 : decode cX6_cut 48 = .ok (.athrow, 1) := by decide +kernel
theorem dX6_cut_49 : decode cX6_cut 49 = .ok (.aload_n 3, 1) := by decide +kernel
theorem dX6_cut_50 : decode cX6_cut 50 = .ok (.iload_n 2, 1) := by decide +kernel
theorem dX6_cut_51 : decode cX6_cut 51 = .ok (.putfield 131, 3) := by decide +kernel
theorem dX6_cut_54 : decode cX6_cut 54 = .ok (.iload_n 2, 1) := by decide +kernel
theorem dX6_cut_55 : decode cX6_cut 55 = .ok (.iconst (-1), 1) := by decide +kernel
theorem dX6_cut_56 : decode cX6_cut 56 = .ok (.if_icmp .ne 7, 3) := by decide +kernel
theorem dX6_cut_59 : decode cX6_cut 59 = .ok (.iconst 0, 1) := by decide +kernel
theorem dX6_cut_60 : decode cX6_cut 60 = .ok (.goto 11, 3) := by decide +kernel
theorem dX6_cut_63 : decode cX6_cut 63 = .ok (.aload_n 0, 1) := by decide +kernel
theorem dX6_cut_64 : decode cX6_cut 64 = .ok (.getfield 12, 3) := by decide +kernel
theorem dX6_cut_67 : decode cX6_cut 67 = .ok (.iload_n 2, 1) := by decide +kernel
theorem dX6_cut_68 : decode cX6_cut 68 = .ok (.invokevirtual 134, 3) := by decide +kernel
theorem dX6_cut_71 : decode cX6_cut 71 = .ok (.ireturn, 1) := by decide +kernel
theorem dX6_fetch_0 : decode cX6_fetch 0 = .ok (.aload_n 0, 1) := by decide +kernel
theorem dX6_fetch_1 : decode cX6_fetch 1 = .ok (.getfield 12, 3) := by decide +kernel
theorem dX6_fetch_4 : decode cX6_fetch 4 = .ok (.iload_n 1, 1) := by decide +kernel
theorem dX6_fetch_5 : decode cX6_fetch 5 = .ok (.invokevirtual 138, 3) := by decide +kernel
theorem dX6_fetch_8 : decode cX6_fetch 8 = .ok (.astore_n 3, 1) := by decide +kernel
theorem dX6_fetch_9 : decode cX6_fetch 9 = .ok (.aload_n 3, 1) := by decide +kernel
theorem dX6_fetch_10 : decode cX6_fetch 10 = .ok (.ifnonnull 13, 3) := by decide +kernel
theorem dX6_fetch_13 : decode cX6_fetch 13 = .ok (.new 34, 3) := by decide +kernel
theorem dX6_fetch_16 : decode cX6_fetch 16 = .ok (.dup, 1) := by decide +kernel
theorem dX6_fetch_17 : decode cX6_fetch 17 = .ok (.ldc 142, 2) := by decide +kernel
theorem dX6_fetch_19 : decode cX6_fetch 19 = .ok (.invokespecial 38, 3) := by decide +kernel
theorem dX6_fetch_22 : decode cX6_fetch 22 = .ok (.athrow, 1) := by decide +kernel
end
section
/-! MY OWN LAYER: a world is a map from addresses to a region's number and a cell; one contract shape for all methods -/
abbrev HM : Type := Nat → Option (Nat × va_E)
abbrev GG : Type := va_G × (Nat → ClassId) × (Nat → Nat)
def hu (M : HM) (a r : Nat) (e : va_E) : HM := fun q => if q = a then some (r, e) else M q
theorem hu_s {M : HM} {a r : Nat} {e : va_E} : hu M a r e a = some (r, e) := if_pos rfl
theorem hu_n {M : HM} {a b r : Nat} {e : va_E} {o : Option (Nat × va_E)} (h : b ≠ a) (ho : M b = o) : hu M a r e b = o := (if_neg h).trans ho
theorem hu_u (M : HM) (a r r2 : Nat) (e e2 : va_E) : hu (hu M a r e) a r2 e2 = hu M a r2 e2 := by
  funext q
  by_cases h : q = a <;> simp [hu, h]
theorem hu_c (M : HM) {a b : Nat} (r r2 : Nat) (e e2 : va_E) (h : a ≠ b) : hu (hu M a r e) b r2 e2 = hu (hu M b r2 e2) a r e := by
  funext q
  by_cases h1 : q = a
  · subst h1; simp [hu, h]
  · by_cases h2 : q = b <;> simp [hu, h1, h2]
theorem hu_i {M : HM} {a r : Nat} {e : va_E} (h : M a = some (r, e)) : hu M a r e = M := by
  funext q
  by_cases h1 : q = a
  · subst h1; simp [hu, h]
  · simp [hu, h1]
/-- an address is not another, by what the map says of them -/
theorem hu_ne {M : HM} {a b : Nat} {x y : Option (Nat × va_E)} (ha : M a = x) (hb : M b = y) (h : x ≠ y) : a ≠ b := fun e => h (by rw [← ha, ← hb, e])
def hm (G : GG) (M : HM) (H : Heap) : Prop := ∃ ws : va_W, va_P G.1 vwCl ws H ∧ va_D (fun q => G.2.2 0 ≤ q) ws ∧ ∀ (a r : Nat) (e : va_E), M a = some (r, e) → ∃ k : Nat, ws[k]? = some (a, e)
def Wd (G : GG) (M : HM) (s : State) (H : Heap) (locs : List Loc) : Prop := hm G M H ∧ va_S (fun q => G.2.2 0 ≤ q) s.heap H locs ∧ G.2.2 0 ≤ s.heap.size
theorem hm.set {G : GG} {M : HM} {ws : va_W} {a r k : Nat} {e0 e : va_E} {H1 : Heap} (hw : ∀ (a r : Nat) (e : va_E), M a = some (r, e) → ∃ k : Nat, ws[k]? = some (a, e)) (hk : ws[k]? = some (a, e0)) (hP : va_P G.1 vwCl (ws.set k (a, e)) H1) (hD : va_D (fun q => G.2.2 0 ≤ q) (ws.set k (a, e))) : hm G (hu M a r e) H1 := by
  have hl := (List.getElem?_eq_some_iff.mp hk).1
  refine ⟨_, hP, hD, fun b r2 e2 hb => ?_⟩
  by_cases h : b = a
  · subst h
    rw [hu_s] at hb
    cases hb
    exact ⟨k, List.getElem?_set_self hl⟩
  · rw [show hu M a r e b = M b from if_neg h] at hb
    obtain ⟨j, hj⟩ := hw b r2 e2 hb
    have hne : k ≠ j := fun z => by
      subst z
      rw [hk] at hj
      cases hj
      exact h rfl
    exact ⟨j, by rw [List.getElem?_set_ne hne]; exact hj⟩
theorem hm.push {G : GG} {M : HM} {ws : va_W} {a r : Nat} {e : va_E} {H1 : Heap} (hw : ∀ (a r : Nat) (e : va_E), M a = some (r, e) → ∃ k : Nat, ws[k]? = some (a, e)) (hP : va_P G.1 vwCl (ws ++ [(a, e)]) H1) (hD : va_D (fun q => G.2.2 0 ≤ q) (ws ++ [(a, e)])) : M a = none ∧ hm G (hu M a r e) H1 := by
  have hlast : (ws ++ [(a, e)])[ws.length]? = some (a, e) := by simp
  refine ⟨?_, _, hP, hD, fun b r2 e2 hb => ?_⟩
  · cases hm0 : M a with
    | none => rfl
    | some q =>
      obtain ⟨j, hj⟩ := hw a q.1 q.2 hm0
      have hjl := (List.getElem?_eq_some_iff.mp hj).1
      have := hD.1 j ws.length (a, q.2) (a, e) (by rw [List.getElem?_append_left hjl]; exact hj) hlast rfl
      omega
  · by_cases h : b = a
    · subst h
      rw [hu_s] at hb
      cases hb
      exact ⟨ws.length, hlast⟩
    · rw [show hu M a r e b = M b from if_neg h] at hb
      obtain ⟨j, hj⟩ := hw b r2 e2 hb
      exact ⟨j, by rw [List.getElem?_append_left (List.getElem?_eq_some_iff.mp hj).1]; exact hj⟩
/-- less is known -/
theorem hm.less {G : GG} {M M2 : HM} {H : Heap} (h : hm G M H) (hs : ∀ a r e, M2 a = some (r, e) → M a = some (r, e)) : hm G M2 H := by
  obtain ⟨ws, h1, h2, h3⟩ := h
  exact ⟨ws, h1, h2, fun a r e q => h3 a r e (hs a r e q)⟩
theorem Wd.eq {G : GG} {M M2 : HM} {s : State} {H : Heap} {locs : List Loc} (h : Wd G M s H locs) (e : M = M2) : Wd G M2 s H locs := e ▸ h
theorem Wd.hA {G : GG} {M : HM} {s : State} {H : Heap} {locs : List Loc} (h : Wd G M s H locs) : ∀ q, s.heap.size ≤ q → G.2.2 0 ≤ q := fun _ hq => Nat.le_trans h.2.2 hq
/-! what holds of the tables and of the statics, at every state -/
def va_AOx (ty : FieldType) (U : State) : Prop := va_Nw (.arrayOver ty) U
abbrev tyG (G : GG) : List (ClassId × FieldType) := [(G.2.1 0, .int), (G.2.1 1, .array .int), (G.2.1 2, .object "java/lang/Object"), (G.2.1 3, .long)]
abbrev mLsize : MethodName := ⟨"java/util/List", "size", "()I"⟩
abbrev mLget : MethodName := ⟨"java/util/List", "get", "(I)Ljava/lang/Object;"⟩
abbrev mLadd : MethodName := ⟨"java/util/List", "add", "(Ljava/lang/Object;)Z"⟩
def Kb (U : State) : Prop := va_Nw (.methodLinkNest RX0 52 yX6_towards RX6) U ∧ va_Nw (.methodLinkNest RX5 42 yX6_towards RX6) U ∧ va_Nw (.methodLinkNest RX8 9 yX7_init RX8) U
def Kc (U : State) : Prop := va_Fw RJx4a65c mLsize yJx4a65c_size_8abf5 U ∧ va_Fw RJx4a65c mLget yJx4a65c_get_915e3 U ∧ va_Fw RJx4a65c mLadd yJx4a65c_add_9ea2d U
def kdL : List String := [RX0, RX1, RX2, RX4, RX5, "[I"]
def Kd (U : State) : Prop := va_AO "java/lang/Object" U ∧ ∀ C ∈ kdL, va_Nw (.castable C "java/lang/Object") U
def Ke (G : GG) (U : State) (H : Heap) : Prop := va_Z RJx4a65c "DEFAULTCAPACITY_EMPTY_ELEMENTDATA" "[Ljava/lang/Object;" (.ref (G.2.2 1)) (fun q => G.2.2 0 ≤ q) U H ∧ (∃ fv, va_T (.object "java/lang/Object") (G.2.2 1) 0 fv (fun q => G.2.2 0 ≤ q) U H) ∧ va_Mi "[Ljava/lang/Object;" (G.2.2 2) U ∧ va_Dc U
def Kw (G : GG) (U : State) : Prop := va_K G.1 vwCl (tyG G) U ∧ Kb U ∧ Kc U ∧ Kd U ∧ Ke G U U.heap
theorem Kw.at {G : GG} {s U : State} (h : Kw G s) (hW : s.WarmedH U.vm) (hq : ∀ a : Nat, a < s.heap.size → ¬ G.2.2 0 ≤ a → U.heap[a]? = s.heap[a]?) : Kw G U := by
  obtain ⟨h1, ⟨b1, b2, b3⟩, ⟨c1, c2, c3⟩, ⟨d1, d2⟩, e1, ⟨fv, e2⟩, e3, e4⟩ := h
  have hvm := hW.alike
  exact ⟨va_K.moved hvm h1, ⟨va_Nw.warmM hW b1, va_Nw.warmM hW b2, va_Nw.warmM hW b3⟩, ⟨va_Fw.moved (by decide) hvm c1, va_Fw.moved (by decide) hvm c2, va_Fw.moved (by decide) hvm c3⟩, ⟨va_AO.moved hvm d1, fun C hC => va_Nw.warmC hW (d2 C hC)⟩, va_Z.kept (va_Z.moved hvm e1) hq, ⟨fv, va_T.kept (va_T.moved hvm e2) hq⟩, va_Mi.moved hvm e3, va_Dc.moved hvm e4⟩
/-! contracts: from any world M; the answer and the world behind it by P -/
abbrev gP (G : GG) (M : HM) : State → Prop := fun U => Kw G U ∧ hm G M U.heap ∧ G.2.2 0 ≤ U.heap.size
abbrev gB (G : GG) (M : HM) (t : State) : Prop := hm G M t.heap
abbrev gA (G : GG) : Nat → Prop := fun q => G.2.2 0 ≤ q
abbrev Mi (l : Launch) (y : MethodName) (ws : List Cond) (fr lo mc ms : Nat) (av : List Value) (G : GG) (M : HM) (P : Int32 → HM → Prop) : Prop := Met l y ws ({ frames := fr, cells := mc, slots := ms, locals := lo } : Room) (va_Pc av (gP G M)) (va_Qi P (gB G) (gA G)) mc ms (gA G)
abbrev Ml (l : Launch) (y : MethodName) (ws : List Cond) (fr lo mc ms : Nat) (av : List Value) (G : GG) (M : HM) (P : Int64 → HM → Prop) : Prop := Met l y ws ({ frames := fr, cells := mc, slots := ms, locals := lo } : Room) (va_Pc av (gP G M)) (va_Ql P (gB G) (gA G)) mc ms (gA G)
abbrev Mv (l : Launch) (y : MethodName) (ws : List Cond) (fr lo mc ms : Nat) (av : List Value) (G : GG) (M : HM) (P : HM → Prop) : Prop := Met l y ws ({ frames := fr, cells := mc, slots := ms, locals := lo } : Room) (va_Pc av (gP G M)) (va_Qv P (gB G) (gA G)) mc ms (gA G)
abbrev Mq (l : Launch) (y : MethodName) (ws : List Cond) (fr lo mc ms : Nat) (av : List Value) (G : GG) (M : HM) (P : Option Nat → HM → Prop) : Prop := Met l y ws ({ frames := fr, cells := mc, slots := ms, locals := lo } : Room) (va_Pc av (gP G M)) (va_Qq P (gB G) (gA G)) mc ms (gA G)
theorem gP.blind {G : GG} {M : HM} {av : List Value} : FrameBlind (va_Pc av (gP G M)) := fun a U g mk h => ⟨h.1, h.2.1.at (State.WarmedH.refl U) (fun _ _ _ => rfl), h.2.2⟩
section GW
variable {p : Program} {l : Launch} {e : Env} {R : Room} {s : State} {m : MethodId} {args : Array Value} {below : List Frame} {meth : Method} {c : Code} {H : Heap} {locs : List Loc} {cells slots : Nat} {Q : State → Prop}
variable {cc : ByteArray} {pc : Nat} {ls : Array Slot} {rest : List Value} {a : Nat} {G : GG} {M : HM} {cl : List vw_C}
theorem Wd.kw {U : State} (hM : Wd G M s H locs) (hK : Kw G s) (hU : U.heap = H) (hW : s.WarmedH U.vm) : Kw G U := hK.at hW (fun q h1 h2 => by rw [hU]; exact hM.2.1.2.1 q h1 h2)
theorem Wd.pre {U : State} {av : List Value} (hM : Wd G M s H locs) (hK : Kw G s) (hU : U.heap = H) (hW : s.WarmedH U.vm) : va_Pc av (gP G M) av.toArray U := ⟨rfl, hM.kw hK hU hW, by rw [hU]; exact hM.1, by rw [hU]; exact Nat.le_trans hM.2.2 hM.2.1.1⟩
theorem Wd.lt {r : Nat} {en : va_E} (hM : Wd G M s H locs) (ha : M a = some (r, en)) : a < H.size := by
  obtain ⟨ws, hP, hD, hw⟩ := hM.1
  obtain ⟨k, hk⟩ := hw _ _ _ ha
  exact (hP k _ hk).lt
theorem Wd.recv {r ci : Nat} {fs : List Value} {q : vw_C} (hM : Wd G M s H locs) (hK : Kw G s) (hc : vwCl[ci]? = some q) (ha : M a = some (r, .inr (ci, fs))) : ∃ cell : Cell, H[a]? = some cell ∧ cell.vm.isStatics = false ∧ s.vm.findClass q.1 = some cell.cls := by
  obtain ⟨ws, hP, hD, hw⟩ := hM.1
  obtain ⟨k, hk⟩ := hw _ _ _ ha
  exact va_recv hK.1 hP hc hk
theorem g_get (hx : p.tables.exec = Jvm.exec) (hb : c.code = cc) {own ref C : String} {T : u_T} {N ci index : Nat} (hts : ∀ w ∈ AL, w.before args s = true) (hown : s.vm.findClass own = some m.cls) (hK : Kw G s) (hM : Wd G M s H locs) (hin : ∀ w ∈ u_ws C T N, w ∈ AL) (hc : vwCl[ci]? = some (C, T, N)) (k : Nat) (hk : k < N) (hlink : Cond.fieldLink own index ref (T k).2.1 (T k).2.2.1 ∈ AL) (hsame : ∀ x, s.fieldFound? (T k).1 (T k).2.1 (T k).2.2.1 = some x → s.fieldFound? ref (T k).2.1 (T k).2.2.1 = some x) {r : Nat} {fs : List Value} {v : Value} (ha : M a = some (r, .inr (ci, fs))) (hv : fs[k]? = some v) (hdg : decode cc pc = .ok (.getfield index, 3))
    (kk : W p l e R s m args below meth c H locs cells slots Q (F0 m (pc + 3) ls (v :: rest))) : W p l e R s m args below meth c H locs cells slots Q (F0 m pc ls (.ref a :: rest)) := by
  obtain ⟨ws, hP, hD, hw⟩ := hM.1
  obtain ⟨k0, hk0⟩ := hw _ _ _ ha
  exact va_get (D := G.1) hx hb hts hin hown hK.1 hP k0 hk0 hc k hk (hts _ hlink) hsame hv hdg kk
theorem g_put (hx : p.tables.exec = Jvm.exec) (hb : c.code = cc) {own ref C : String} {T : u_T} {N ci index : Nat} (hts : ∀ w ∈ AL, w.before args s = true) (hown : s.vm.findClass own = some m.cls) (hK : Kw G s) (hM : Wd G M s H locs) (hin : ∀ w ∈ u_ws C T N, w ∈ AL) (hc : vwCl[ci]? = some (C, T, N)) (k : Nat) (hk : k < N) (hlink : Cond.fieldLink own index ref (T k).2.1 (T k).2.2.1 ∈ AL) (hsame : ∀ x, s.fieldFound? (T k).1 (T k).2.1 (T k).2.2.1 = some x → s.fieldFound? ref (T k).2.1 (T k).2.2.1 = some x) (ty0 : Nat → FieldType) (hty : ∀ k, k < N → parseFieldDescriptor (T k).2.2.1 = some (ty0 k)) (hnm : ∀ a, a < N → ∀ b, b < N → a ≠ b → (T a).2.1 ≠ (T b).2.1) (hfin : (T k).2.2.2 = false) {ty : FieldType} {v : Value} (hd : parseFieldDescriptor (T k).2.2.1 = some ty) (hn : narrow ty v = v) (hfit : fits ty v = true) {r : Nat} {fs : List Value} (ha : M a = some (r, .inr (ci, fs))) (hl : k < fs.length) (hdg : decode cc pc = .ok (.putfield index, 3))
    (kk : ∀ (H : Heap) (locs : List Loc), Wd G (hu M a r (.inr (ci, fs.set k v))) s H locs → W p l e R s m args below meth c H locs cells slots Q (F0 m (pc + 3) ls rest)) : W p l e R s m args below meth c H locs cells slots Q (F0 m pc ls (v :: .ref a :: rest)) := by
  obtain ⟨ws, hP, hD, hw⟩ := hM.1
  obtain ⟨k0, hk0⟩ := hw _ _ _ ha
  exact va_put (D := G.1) hx hb hts hin ty0 hty hnm hown hK.1 hP hD hM.2.1 k0 hk0 hc k hk (hts _ hlink) hsame hfin hd hn hfit hl hdg (fun H1 locs1 hP1 hD1 hS1 => kk H1 locs1 ⟨hm.set hw hk0 hP1 hD1, hS1, hM.2.2⟩)
theorem g_putF (hx : p.tables.exec = Jvm.exec) (hb : c.code = cc) {own ref C : String} {T : u_T} {N ci index : Nat} (hts : ∀ w ∈ AL, w.before args s = true) (hown : s.vm.findClass own = some m.cls) (hK : Kw G s) (hM : Wd G M s H locs) (hin : ∀ w ∈ u_ws C T N, w ∈ AL) (hc : vwCl[ci]? = some (C, T, N)) (k : Nat) (hk : k < N) (hlink : Cond.fieldLink own index ref (T k).2.1 (T k).2.2.1 ∈ AL) (hsame : ∀ x, s.fieldFound? (T k).1 (T k).2.1 (T k).2.2.1 = some x → s.fieldFound? ref (T k).2.1 (T k).2.2.1 = some x) (ty0 : Nat → FieldType) (hty : ∀ k, k < N → parseFieldDescriptor (T k).2.2.1 = some (ty0 k)) (hnm : ∀ a, a < N → ∀ b, b < N → a ≠ b → (T a).2.1 ≠ (T b).2.1) (hfin : (T k).2.2.2 = true) (hin2 : meth.name = "<init>") (hdecl : (T k).1 = own) {ty : FieldType} {v : Value} (hd : parseFieldDescriptor (T k).2.2.1 = some ty) (hn : narrow ty v = v) (hfit : fits ty v = true) {r : Nat} {fs : List Value} (ha : M a = some (r, .inr (ci, fs))) (hl : k < fs.length) (hdg : decode cc pc = .ok (.putfield index, 3))
    (kk : ∀ (H : Heap) (locs : List Loc), Wd G (hu M a r (.inr (ci, fs.set k v))) s H locs → W p l e R s m args below meth c H locs cells slots Q (F0 m (pc + 3) ls rest)) : W p l e R s m args below meth c H locs cells slots Q (F0 m pc ls (v :: .ref a :: rest)) := by
  obtain ⟨ws, hP, hD, hw⟩ := hM.1
  obtain ⟨k0, hk0⟩ := hw _ _ _ ha
  exact va_putF (D := G.1) hx hb hts hin ty0 hty hnm hown hK.1 hP hD hM.2.1 k0 hk0 hc k hk (hts _ hlink) hsame hfin hin2 hdecl hd hn hfit hl hdg (fun H1 locs1 hP1 hD1 hS1 => kk H1 locs1 ⟨hm.set hw hk0 hP1 hD1, hS1, hM.2.2⟩)
theorem g_iald (hx : p.tables.exec = Jvm.exec) (hb : c.code = cc) (hK : Kw G s) (hM : Wd G M s H locs) {n r : Nat} {f : Nat → Int32} (ha : M a = some (r, .inl (G.2.1 0, n, .inl f))) {i : Int32} (hin : vp_in i n) (hdg : decode cc pc = .ok (.iaload, 1))
    (kk : W p l e R s m args below meth c H locs cells slots Q (F0 m (pc + 1) ls (.int (f i.toNatClampNeg) :: rest))) : W p l e R s m args below meth c H locs cells slots Q (F0 m pc ls (.int i :: .ref a :: rest)) := by
  obtain ⟨ws, hP, hD, hw⟩ := hM.1
  obtain ⟨k0, hk0⟩ := hw _ _ _ ha
  exact va_iald (D := G.1) hx hb hK.1 hP k0 0 hk0 rfl hin hdg kk
theorem g_iast (hx : p.tables.exec = Jvm.exec) (hb : c.code = cc) (hK : Kw G s) (hM : Wd G M s H locs) {n r : Nat} {f : Nat → Int32} (ha : M a = some (r, .inl (G.2.1 0, n, .inl f))) {i : Int32} {x : Int32} (hin : vp_in i n) (hdg : decode cc pc = .ok (.iastore, 1))
    (kk : ∀ (H : Heap) (locs : List Loc), Wd G (hu M a r (.inl (G.2.1 0, n, .inl (upd f i.toNatClampNeg x)))) s H locs → W p l e R s m args below meth c H locs cells slots Q (F0 m (pc + 1) ls rest)) : W p l e R s m args below meth c H locs cells slots Q (F0 m pc ls (.int x :: .int i :: .ref a :: rest)) := by
  obtain ⟨ws, hP, hD, hw⟩ := hM.1
  obtain ⟨k0, hk0⟩ := hw _ _ _ ha
  exact va_iast (D := G.1) hx hb hK.1 hP hD hM.2.1 k0 0 hk0 rfl hin hdg (fun H1 locs1 hP1 hD1 hS1 => kk H1 locs1 ⟨hm.set hw hk0 hP1 hD1, hS1, hM.2.2⟩)
theorem g_lald (hx : p.tables.exec = Jvm.exec) (hb : c.code = cc) (hK : Kw G s) (hM : Wd G M s H locs) {n r : Nat} {f : Nat → Int64} (ha : M a = some (r, .inl (G.2.1 3, n, .inr (.inl f)))) {i : Int32} (hin : vp_in i n) (hdg : decode cc pc = .ok (.laload, 1))
    (kk : W p l e R s m args below meth c H locs cells slots Q (F0 m (pc + 1) ls (.long (f i.toNatClampNeg) :: rest))) : W p l e R s m args below meth c H locs cells slots Q (F0 m pc ls (.int i :: .ref a :: rest)) := by
  obtain ⟨ws, hP, hD, hw⟩ := hM.1
  obtain ⟨k0, hk0⟩ := hw _ _ _ ha
  exact va_lald (D := G.1) hx hb hK.1 hP k0 3 hk0 rfl hin hdg kk
theorem g_last (hx : p.tables.exec = Jvm.exec) (hb : c.code = cc) (hK : Kw G s) (hM : Wd G M s H locs) {n r : Nat} {f : Nat → Int64} (ha : M a = some (r, .inl (G.2.1 3, n, .inr (.inl f)))) {i : Int32} {x : Int64} (hin : vp_in i n) (hdg : decode cc pc = .ok (.lastore, 1))
    (kk : ∀ (H : Heap) (locs : List Loc), Wd G (hu M a r (.inl (G.2.1 3, n, .inr (.inl (vp_updL f i.toNatClampNeg x))))) s H locs → W p l e R s m args below meth c H locs cells slots Q (F0 m (pc + 1) ls rest)) : W p l e R s m args below meth c H locs cells slots Q (F0 m pc ls (.long x :: .int i :: .ref a :: rest)) := by
  obtain ⟨ws, hP, hD, hw⟩ := hM.1
  obtain ⟨k0, hk0⟩ := hw _ _ _ ha
  exact va_last (D := G.1) hx hb hK.1 hP hD hM.2.1 k0 3 hk0 rfl hin hdg (fun H1 locs1 hP1 hD1 hS1 => kk H1 locs1 ⟨hm.set hw hk0 hP1 hD1, hS1, hM.2.2⟩)
theorem g_alen (hx : p.tables.exec = Jvm.exec) (hb : c.code = cc) (hK : Kw G s) (hM : Wd G M s H locs) {r j : Nat} {x : vp_A} {ty : FieldType} (ha : M a = some (r, .inl (G.2.1 j, x))) (hj : (tyG G)[j]? = some (G.2.1 j, ty)) {v : Int32} (hv : Int32.ofNat x.1 = v) (hdg : decode cc pc = .ok (.arraylength, 1))
    (kk : W p l e R s m args below meth c H locs cells slots Q (F0 m (pc + 1) ls (.int v :: rest))) : W p l e R s m args below meth c H locs cells slots Q (F0 m pc ls (.ref a :: rest)) := by
  obtain ⟨ws, hP, hD, hw⟩ := hM.1
  obtain ⟨k0, hk0⟩ := hw _ _ _ ha
  exact va_alen (D := G.1) hx hb hK.1 hP k0 j hk0 hj hv hdg kk
theorem g_aald (hx : p.tables.exec = Jvm.exec) (hb : c.code = cc) (hK : Kw G s) (hM : Wd G M s H locs) {n r j : Nat} {f : Nat → Option Nat} (ha : M a = some (r, .inl (G.2.1 j, n, .inr (.inr (.inr (.inr f)))))) {ty : FieldType} (hj : (tyG G)[j]? = some (G.2.1 j, ty)) (href : ty.isReference = true) {i : Int32} (hin : vp_in i n) (hdg : decode cc pc = .ok (.aaload, 1))
    (kk : W p l e R s m args below meth c H locs cells slots Q (F0 m (pc + 1) ls (va_rf (f i.toNatClampNeg) :: rest))) : W p l e R s m args below meth c H locs cells slots Q (F0 m pc ls (.int i :: .ref a :: rest)) := by
  obtain ⟨ws, hP, hD, hw⟩ := hM.1
  obtain ⟨k0, hk0⟩ := hw _ _ _ ha
  have hlt : i.toNatClampNeg < n := Nat.not_le.mp fun q => hin (Or.inr q)
  exact W.aald (v := va_rf (f i.toNatClampNeg)) (ty := ty) hx hb (hP k0 _ hk0) ((hK.1.2 j _ hj).1 n (fun j => va_rf (f j))) href (fun q => by cases q) (by show ¬ (i < 0 ∨ (arrV _ _ _).slots.size ≤ _); rw [arrV_size]; exact hin) (by show (arrV _ _ _).slots[_]? = _; rw [arrV_read _ _ hlt]) rfl rfl hdg kk
theorem g_aast (hx : p.tables.exec = Jvm.exec) (hb : c.code = cc) (hK : Kw G s) (hM : Wd G M s H locs) {n r v : Nat} {f : Nat → Option Nat} (ha : M a = some (r, .inl (G.2.1 2, n, .inr (.inr (.inr (.inr f)))))) (hv : va_Any "java/lang/Object" s H v) {i : Int32} (hin : vp_in i n) (hdg : decode cc pc = .ok (.aastore, 1))
    (kk : ∀ (H : Heap) (locs : List Loc), Wd G (hu M a r (.inl (G.2.1 2, n, .inr (.inr (.inr (.inr (va_up f i.toNatClampNeg (some v)))))))) s H locs → W p l e R s m args below meth c H locs cells slots Q (F0 m (pc + 1) ls rest)) : W p l e R s m args below meth c H locs cells slots Q (F0 m pc ls (.ref v :: .int i :: .ref a :: rest)) := by
  obtain ⟨ws, hP, hD, hw⟩ := hM.1
  obtain ⟨k0, hk0⟩ := hw _ _ _ ha
  exact va_astqM (D := G.1) hx hb hK.1 hP hD hM.2.1 k0 2 hk0 rfl hv hin hdg (fun H1 locs1 hP1 hD1 hS1 => kk H1 locs1 ⟨hm.set hw hk0 hP1 hD1, hS1, hM.2.2⟩)
theorem g_new (hx : p.tables.exec = Jvm.exec) (hb : c.code = cc) {own C : String} {T : u_T} {N ci index : Nat} (hts : ∀ w ∈ AL, w.before args s = true) (hown : s.vm.findClass own = some m.cls) (hK : Kw G s) (hM : Wd G M s H locs) (hin : ∀ w ∈ u_ws C T N, w ∈ AL) (hc : vwCl[ci]? = some (C, T, N)) (ty0 : Nat → FieldType) (hty : ∀ k, k < N → parseFieldDescriptor (T k).2.2.1 = some (ty0 k)) (hcl : Cond.classLink own index C ∈ AL) (hinst : Cond.instantiable C N ∈ AL) (hini : Cond.initialized C ∈ AL) {fs : List Value} (hfs : ∀ j, j < N → defaultValue (ty0 j) = vp_V fs j) (r : Nat) (hcells : cells + 1 ≤ R.cells) (hslots : slots + N ≤ R.slots) (hdg : decode cc pc = .ok (.new index, 3))
    (kk : ∀ (q : Nat) (H : Heap), M q = none → Wd G (hu M q r (.inr (ci, fs))) s H locs → W p l e R s m args below meth c H locs (cells + 1) (slots + N) Q (F0 m (pc + 3) ls (.ref q :: rest))) : W p l e R s m args below meth c H locs cells slots Q (F0 m pc ls rest) := by
  obtain ⟨ws, hP, hD, hw⟩ := hM.1
  exact va_new (D := G.1) hx hb hts hin ty0 hty hown (hts _ hcl) (hts _ hinst) (hts _ hini) hK.1 hP hD hM.2.1 hM.hA hc hfs hcells hslots hdg (fun q H1 hP1 hD1 hS1 => by
    obtain ⟨z1, z2⟩ := hm.push (r := r) hw hP1 hD1
    exact kk q H1 z1 ⟨z2, hS1, hM.2.2⟩)
theorem tyG_at {j : Nat} {ty : FieldType} {cA : ClassId} (hK : Kw G s) (hj : (tyG G)[j]? = some (G.2.1 j, ty)) (hr : va_RA s cA ty) : cA = G.2.1 j := by
  have h2 := (hK.1.2 j _ hj).2
  cases ty with
  | object C =>
    obtain ⟨_, _, _, _, _, h4⟩ := hr
    obtain ⟨_, _, _, _, _, k4⟩ := h2
    exact Option.some.inj (h4.symm.trans k4)
  | _ =>
    have e1 : s.vm.findClass _ = some cA := hr
    have e2 : s.vm.findClass _ = some (G.2.1 j) := h2
    exact Option.some.inj (e1.symm.trans e2)
theorem g_newa (hx : p.tables.exec = Jvm.exec) (hb : c.code = cc) (hK : Kw G s) (hM : Wd G M s H locs) {atype : ArrayType} {ty : FieldType} {j : Nat} (hts : ∀ w ∈ AL, w.before args s = true) (harr : Cond.arrayClass (newarray.typeOf atype) ∈ AL) (hty : newarray.typeOf atype = ty) (hj : (tyG G)[j]? = some (G.2.1 j, ty)) {n : Int32} {N' : Nat} {a0 : vp_A} (h0 : ∀ cA : ClassId, vp_cell cA a0 = arrV cA N' (fun _ => defaultValue ty)) (hn : ¬ n < 0) (hN : n.toNatClampNeg = N') (hbytes : N' * componentBytes ty ≤ 536870912) (r : Nat) (hcells : cells + 1 ≤ R.cells) (hslots : slots + N' ≤ R.slots) (hdg : decode cc pc = .ok (.newarray atype, 2))
    (kk : ∀ (q : Nat) (H : Heap), M q = none → Wd G (hu M q r (.inl (G.2.1 j, a0))) s H locs → W p l e R s m args below meth c H locs (cells + 1) (slots + N') Q (F0 m (pc + 2) ls (.ref q :: rest))) : W p l e R s m args below meth c H locs cells slots Q (F0 m pc ls (.int n :: rest)) := by
  obtain ⟨ws, hP, hD, hw⟩ := hM.1
  exact va_newa (D := G.1) (ty := ty) (a0 := a0) hx hb (hts _ harr) hty hK.1 hP hD hM.2.1 hM.hA h0 hn hN hbytes hcells hslots hdg (fun q cA H1 hK1 hP1 hD1 hS1 => by
    have e := tyG_at hK hj (hK1.2 (tyG G).length (cA, ty) (by simp)).2
    subst e
    obtain ⟨z1, z2⟩ := hm.push (r := r) hw hP1 hD1
    exact kk q H1 z1 ⟨z2, hS1, hM.2.2⟩)
theorem g_newq (hx : p.tables.exec = Jvm.exec) (hb : c.code = cc) {own : String} {index : Nat} (hts : ∀ w ∈ AL, w.before args s = true) (hown : s.vm.findClass own = some m.cls) (hK : Kw G s) (hM : Wd G M s H locs) (hcl : Cond.classLink own index "java/lang/Object" ∈ AL) {n : Int32} {N' : Nat} (hn : ¬ n < 0) (hN : n.toNatClampNeg = N') (hbytes : N' * 4 ≤ 536870912) (r : Nat) (hcells : cells + 1 ≤ R.cells) (hslots : slots + N' ≤ R.slots) (hdg : decode cc pc = .ok (.anewarray index, 3))
    (kk : ∀ (q : Nat) (H : Heap), M q = none → Wd G (hu M q r (.inl (G.2.1 2, N', .inr (.inr (.inr (.inr (fun _ => none))))))) s H locs → W p l e R s m args below meth c H locs (cells + 1) (slots + N') Q (F0 m (pc + 3) ls (.ref q :: rest))) : W p l e R s m args below meth c H locs cells slots Q (F0 m pc ls (.int n :: rest)) := by
  obtain ⟨ws, hP, hD, hw⟩ := hM.1
  exact va_newq (D := G.1) hx hb hown (hts _ hcl) hK.2.2.2.1.1 hK.1 hP hD hM.2.1 hM.hA hn hN hbytes hcells hslots hdg (fun q cA H1 hK1 hP1 hD1 hS1 => by
    have e := tyG_at (j := 2) hK rfl (hK1.2 (tyG G).length (cA, .object "java/lang/Object") (by simp)).2
    subst e
    obtain ⟨z1, z2⟩ := hm.push (r := r) hw hP1 hD1
    exact kk q H1 z1 ⟨z2, hS1, hM.2.2⟩)
theorem g_copyi (hx : p.tables.exec = Jvm.exec) (hb : c.code = cc) (hml : c.maxLocals = ls.size) {own : String} {index : Nat} (hts : ∀ w ∈ AL, w.before args s = true) (hown : s.vm.findClass own = some m.cls) (hK : Kw G s) (hM : Wd G M s H locs) (hlink : Cond.methodLink own index arraycopyName ∈ AL) {a0 n0 n1 r0 r1 : Nat} {f g : Nat → Int32} (ha0 : M a0 = some (r0, .inl (G.2.1 0, n0, .inl f))) (ha : M a = some (r1, .inl (G.2.1 0, n1, .inl g))) {sp dp n : Int32} (h1 : ¬ sp < 0) (h2 : ¬ dp < 0) (h3 : ¬ n < 0) (h4 : sp.toNatClampNeg + n.toNatClampNeg ≤ n0) (h5 : dp.toNatClampNeg + n.toNatClampNeg ≤ n1) (hfr : 1 ≤ R.frames) (hlo : (rest.map fun v => v.category).sum + (nativeFrameWords "java/lang/System" "arraycopy" 5 + 11) ≤ R.locals) (hdg : decode cc pc = .ok (.invokestatic index, 3))
    (kk : ∀ (H : Heap) (locs : List Loc), Wd G (hu M a r1 (.inl (G.2.1 0, n1, .inl (va_cpy f g sp.toNatClampNeg dp.toNatClampNeg n.toNatClampNeg)))) s H locs → W p l e R s m args below meth c H locs cells slots Q (F0 m (pc + 3) ls rest)) : W p l e R s m args below meth c H locs cells slots Q (F0 m pc ls (.int n :: .int dp :: .ref a :: .int sp :: .ref a0 :: rest)) := by
  obtain ⟨ws, hP, hD, hw⟩ := hM.1
  obtain ⟨k0, hk0⟩ := hw _ _ _ ha
  obtain ⟨k1, hk1⟩ := hw _ _ _ ha0
  exact va_copyi (D := G.1) hx hb hml hown (hts _ hlink) (hts _ wv_acopy) (hts _ wt_acopy) (hts _ wn_java_lang_System) hK.1 hP hD hM.2.1 k1 k0 0 0 hk1 hk0 rfl rfl rfl h1 h2 h3 h4 h5 (fun _ _ => rfl) hfr hlo hdg (fun H1 locs1 hP1 hD1 hS1 => kk H1 locs1 ⟨hm.set hw hk0 hP1 hD1, hS1, hM.2.2⟩)
theorem g_iret (hx : p.tables.exec = Jvm.exec) (hb : c.code = cc) (hr : meth.sig.returnType = some .int) (hlocks : meth.locks = false) (hM : Wd G M s H locs) {mc ms : Nat} (h1 : cells ≤ mc) (h2 : slots ≤ ms) {P : Int32 → HM → Prop} {v : Int32} (hv : P v M) (hdg : decode cc pc = .ok (.ireturn, 1)) : W p l e R s m args below meth c H locs cells slots (MQ below (va_Qi P (gB G) (gA G)) args s mc ms (gA G)) (F0 m pc ls [.int v]) :=
  W.widen h1 h2 (W.iret (v := v) hx hb hr (fun t ht _ => ⟨⟨v, M, rfl, hv, by show hm G M t.heap; rw [ht]; exact hM.1⟩, hM.2.1.F ht⟩) hM.2.1.2.2 hdg hlocks)
theorem g_lret (hx : p.tables.exec = Jvm.exec) (hb : c.code = cc) (hr : meth.sig.returnType = some .long) (hlocks : meth.locks = false) (hM : Wd G M s H locs) {mc ms : Nat} (h1 : cells ≤ mc) (h2 : slots ≤ ms) {P : Int64 → HM → Prop} {v : Int64} (hv : P v M) (hdg : decode cc pc = .ok (.lreturn, 1)) : W p l e R s m args below meth c H locs cells slots (MQ below (va_Ql P (gB G) (gA G)) args s mc ms (gA G)) (F0 m pc ls [.long v]) :=
  W.widen h1 h2 (W.lret (v := v) hx hb hr (fun t ht _ => ⟨⟨v, M, rfl, hv, by show hm G M t.heap; rw [ht]; exact hM.1⟩, hM.2.1.F ht⟩) hM.2.1.2.2 hdg hlocks)
theorem g_zret (hx : p.tables.exec = Jvm.exec) (hb : c.code = cc) (hr : meth.sig.returnType = some .boolean) (hlocks : meth.locks = false) (hM : Wd G M s H locs) {mc ms : Nat} (h1 : cells ≤ mc) (h2 : slots ≤ ms) {P : Int32 → HM → Prop} {v : Int32} (hz : narrow .boolean (.int v) = .int v) (hv : P v M) (hdg : decode cc pc = .ok (.ireturn, 1)) : W p l e R s m args below meth c H locs cells slots (MQ below (va_Qi P (gB G) (gA G)) args s mc ms (gA G)) (F0 m pc ls [.int v]) :=
  W.widen h1 h2 (W.zret (v := v) hx hb hr hz (fun t ht _ => ⟨⟨v, M, rfl, hv, by show hm G M t.heap; rw [ht]; exact hM.1⟩, hM.2.1.F ht⟩) hM.2.1.2.2 hdg hlocks)
theorem g_vret (hx : p.tables.exec = Jvm.exec) (hb : c.code = cc) (hr : meth.sig.returnType = none) (hlocks : meth.locks = false) (hM : Wd G M s H locs) {mc ms : Nat} (h1 : cells ≤ mc) (h2 : slots ≤ ms) {P : HM → Prop} (hv : P M) (hdg : decode cc pc = .ok (.return_, 1)) : W p l e R s m args below meth c H locs cells slots (MQ below (va_Qv P (gB G) (gA G)) args s mc ms (gA G)) (F0 m pc ls []) :=
  W.widen h1 h2 (W.vret hx hb hr (fun t ht _ => ⟨⟨M, rfl, hv, by show hm G M t.heap; rw [ht]; exact hM.1⟩, hM.2.1.F ht⟩) hM.2.1.2.2 hdg hlocks)
theorem g_qret (hx : p.tables.exec = Jvm.exec) (hb : c.code = cc) {rt : FieldType} (hr : meth.sig.returnType = some rt) (hrt : (∃ n, rt = .object n) ∨ ∃ t, rt = .array t) (hlocks : meth.locks = false) (hM : Wd G M s H locs) {mc ms : Nat} (h1 : cells ≤ mc) (h2 : slots ≤ ms) {P : Option Nat → HM → Prop} {v : Option Nat} (hv : P v M) (hdg : decode cc pc = .ok (.areturn, 1)) : W p l e R s m args below meth c H locs cells slots (MQ below (va_Qq P (gB G) (gA G)) args s mc ms (gA G)) (F0 m pc ls [va_rf v]) :=
  W.widen h1 h2 (W.aret (v := va_rf v) hx hb hr hrt (by cases v with | none => exact Or.inl rfl | some q => exact Or.inr ⟨q, rfl⟩) (fun t ht _ => ⟨⟨v, M, rfl, hv, by show hm G M t.heap; rw [ht]; exact hM.1⟩, hM.2.1.F ht⟩) hM.2.1.2.2 hdg hlocks)
end GW
theorem Mi.go {l : Launch} {y : MethodName} {cc : ByteArray} {n fr lo mc ms : Nat} {ret : Option FieldType} {av : List Value} {G : GG} {M : HM} {P : Int32 → HM → Prop} (hy : plainName y.cls = true) (hav : (lg_sl av).length ≤ n)
    (h : ∀ (p : Program) (e : Env) (s : State) (m : MethodId) (below : List Frame) (meth : Method) (c : Code) (ls : Array Slot), p.tables.exec = Jvm.exec → c.code = cc → meth.sig.returnType = ret → c.maxLocals = n → s.vm.findClass y.cls = some m.cls → meth.locks = false → meth.name = y.name → (∀ w ∈ AL, w.before av.toArray s = true) → Kw G s → Wd G M s s.heap [] → lv_has ls n (lv_args 0 av) → W p l e ({ frames := fr, cells := mc, slots := ms, locals := lo } : Room) s m av.toArray below meth c s.heap [] 0 0 (MQ below (va_Qi P (gB G) (gA G)) av.toArray s mc ms (gA G)) (F0 m 0 ls [])) : Mi l y (.code y cc n ret :: AL) fr lo mc ms av G M P := by
  refine Met.ofW (cc := cc) (maxL := n) (ret := ret) hy rfl ?_
  intro p e s m args below meth c s₁ B hml hv
  obtain ⟨rfl, hK, hM, hsz⟩ := hv
  have hts := atoms_spec (ws := .code y cc n ret :: AL) B.pre
  have hl := lv_entry av (n := n) hav
  rw [lg_entry_eq]
  exact h p e s m below meth c _ B.exec B.bytes B.returns hml (findClass_of_methodNamed B.named) B.notSynchronized (name_of_methodNamed B.named B.method).1 (fun w hw => hts w (List.mem_cons_of_mem _ hw)) hK ⟨hM, va_S.rf, hsz⟩ hl
theorem Ml.go {l : Launch} {y : MethodName} {cc : ByteArray} {n fr lo mc ms : Nat} {ret : Option FieldType} {av : List Value} {G : GG} {M : HM} {P : Int64 → HM → Prop} (hy : plainName y.cls = true) (hav : (lg_sl av).length ≤ n)
    (h : ∀ (p : Program) (e : Env) (s : State) (m : MethodId) (below : List Frame) (meth : Method) (c : Code) (ls : Array Slot), p.tables.exec = Jvm.exec → c.code = cc → meth.sig.returnType = ret → c.maxLocals = n → s.vm.findClass y.cls = some m.cls → meth.locks = false → meth.name = y.name → (∀ w ∈ AL, w.before av.toArray s = true) → Kw G s → Wd G M s s.heap [] → lv_has ls n (lv_args 0 av) → W p l e ({ frames := fr, cells := mc, slots := ms, locals := lo } : Room) s m av.toArray below meth c s.heap [] 0 0 (MQ below (va_Ql P (gB G) (gA G)) av.toArray s mc ms (gA G)) (F0 m 0 ls [])) : Ml l y (.code y cc n ret :: AL) fr lo mc ms av G M P := by
  refine Met.ofW (cc := cc) (maxL := n) (ret := ret) hy rfl ?_
  intro p e s m args below meth c s₁ B hml hv
  obtain ⟨rfl, hK, hM, hsz⟩ := hv
  have hts := atoms_spec (ws := .code y cc n ret :: AL) B.pre
  have hl := lv_entry av (n := n) hav
  rw [lg_entry_eq]
  exact h p e s m below meth c _ B.exec B.bytes B.returns hml (findClass_of_methodNamed B.named) B.notSynchronized (name_of_methodNamed B.named B.method).1 (fun w hw => hts w (List.mem_cons_of_mem _ hw)) hK ⟨hM, va_S.rf, hsz⟩ hl
theorem Mv.go {l : Launch} {y : MethodName} {cc : ByteArray} {n fr lo mc ms : Nat} {ret : Option FieldType} {av : List Value} {G : GG} {M : HM} {P : HM → Prop} (hy : plainName y.cls = true) (hav : (lg_sl av).length ≤ n)
    (h : ∀ (p : Program) (e : Env) (s : State) (m : MethodId) (below : List Frame) (meth : Method) (c : Code) (ls : Array Slot), p.tables.exec = Jvm.exec → c.code = cc → meth.sig.returnType = ret → c.maxLocals = n → s.vm.findClass y.cls = some m.cls → meth.locks = false → meth.name = y.name → (∀ w ∈ AL, w.before av.toArray s = true) → Kw G s → Wd G M s s.heap [] → lv_has ls n (lv_args 0 av) → W p l e ({ frames := fr, cells := mc, slots := ms, locals := lo } : Room) s m av.toArray below meth c s.heap [] 0 0 (MQ below (va_Qv P (gB G) (gA G)) av.toArray s mc ms (gA G)) (F0 m 0 ls [])) : Mv l y (.code y cc n ret :: AL) fr lo mc ms av G M P := by
  refine Met.ofW (cc := cc) (maxL := n) (ret := ret) hy rfl ?_
  intro p e s m args below meth c s₁ B hml hv
  obtain ⟨rfl, hK, hM, hsz⟩ := hv
  have hts := atoms_spec (ws := .code y cc n ret :: AL) B.pre
  have hl := lv_entry av (n := n) hav
  rw [lg_entry_eq]
  exact h p e s m below meth c _ B.exec B.bytes B.returns hml (findClass_of_methodNamed B.named) B.notSynchronized (name_of_methodNamed B.named B.method).1 (fun w hw => hts w (List.mem_cons_of_mem _ hw)) hK ⟨hM, va_S.rf, hsz⟩ hl
theorem Mq.go {l : Launch} {y : MethodName} {cc : ByteArray} {n fr lo mc ms : Nat} {ret : Option FieldType} {av : List Value} {G : GG} {M : HM} {P : Option Nat → HM → Prop} (hy : plainName y.cls = true) (hav : (lg_sl av).length ≤ n)
    (h : ∀ (p : Program) (e : Env) (s : State) (m : MethodId) (below : List Frame) (meth : Method) (c : Code) (ls : Array Slot), p.tables.exec = Jvm.exec → c.code = cc → meth.sig.returnType = ret → c.maxLocals = n → s.vm.findClass y.cls = some m.cls → meth.locks = false → meth.name = y.name → (∀ w ∈ AL, w.before av.toArray s = true) → Kw G s → Wd G M s s.heap [] → lv_has ls n (lv_args 0 av) → W p l e ({ frames := fr, cells := mc, slots := ms, locals := lo } : Room) s m av.toArray below meth c s.heap [] 0 0 (MQ below (va_Qq P (gB G) (gA G)) av.toArray s mc ms (gA G)) (F0 m 0 ls [])) : Mq l y (.code y cc n ret :: AL) fr lo mc ms av G M P := by
  refine Met.ofW (cc := cc) (maxL := n) (ret := ret) hy rfl ?_
  intro p e s m args below meth c s₁ B hml hv
  obtain ⟨rfl, hK, hM, hsz⟩ := hv
  have hts := atoms_spec (ws := .code y cc n ret :: AL) B.pre
  have hl := lv_entry av (n := n) hav
  rw [lg_entry_eq]
  exact h p e s m below meth c _ B.exec B.bytes B.returns hml (findClass_of_methodNamed B.named) B.notSynchronized (name_of_methodNamed B.named B.method).1 (fun w hw => hts w (List.mem_cons_of_mem _ hw)) hK ⟨hM, va_S.rf, hsz⟩ hl
theorem al_in {y : MethodName} {cc : ByteArray} {n : Nat} {ret : Option FieldType} (h : Cond.code y cc n ret ∈ AL) : GoodIn AL (.code y cc n ret :: AL) := fun w hw => by
  rcases List.mem_cons.mp hw with e | h2
  · subst e; exact ⟨h, al_gw _ h⟩
  · exact ⟨h2, al_gw _ h2⟩
abbrev okM (y : MethodName) (n : Nat) : Prop := y.cls ≠ "java/lang/invoke/MethodHandle" ∧ y.cls ≠ "java/lang/invoke/VarHandle" ∧ (parseMethodDescriptor y.desc).map (fun d => d.parameters.length) = some n
section GC
variable {p : Program} {l : Launch} {e : Env} {R : Room} {s : State} {m : MethodId} {args : Array Value} {below : List Frame} {meth : Method} {c : Code} {H : Heap} {locs : List Loc} {cells slots : Nat} {Q : State → Prop}
variable {cc bytes : ByteArray} {pc nL n9 maxL fr lo mc ms index : Nat} {ls : Array Slot} {As rest : List Value} {b : Nat} {G : GG} {M : HM} {own C : String} {y : MethodName} {ret : Option FieldType}
theorem g_callVi {st0 : List Value} (hx : p.tables.exec = Jvm.exec) (hb : c.code = cc) (hml : c.maxLocals = nL) (hls : ls.size = nL) (hown : s.vm.findClass own = some m.cls) (hts : ∀ w ∈ AL, w.before args s = true) (hK : Kw G s) (hM : Wd G M s H locs) {P : Int32 → HM → Prop} (hC : Mi l y (.code y bytes maxL ret :: AL) fr lo mc ms (.ref b :: As) G M P) (hlk : Cond.methodLink own index y ∈ AL) (hin : Cond.instanceMethod y ∈ AL) (hsel : Cond.selects y.cls y y ∈ AL) (hini : Cond.initialized y.cls ∈ AL) (hcd : Cond.code y bytes maxL ret ∈ AL) (hd : okM y n9) (hrv : ∃ cell : Cell, H[b]? = some cell ∧ cell.vm.isStatics = false ∧ s.vm.findClass y.cls = some cell.cls) (hR : fr + 1 ≤ R.frames ∧ 8 + (maxL + 11) + lo ≤ R.locals) (hf : cells + mc ≤ R.cells ∧ slots + ms ≤ R.slots) (hn : As.length = n9) (hst : (rest.map fun v => v.category).sum ≤ 8) (hst0 : st0 = As.reverse ++ .ref b :: rest) (hdg : decode cc pc = .ok (.invokevirtual index, 3))
    (kk : ∀ (r : Int32) (M1 : HM) (H : Heap) (locs : List Loc), P r M1 → Wd G M1 s H locs → W p l e R s m args below meth c H locs (cells + mc) (slots + ms) Q (F0 m (pc + 3) ls (.int r :: rest))) : W p l e R s m args below meth c H locs cells slots Q (F0 m pc ls (st0)) :=
  va_calli (va_runV (As := As) (rest := rest) ⟨hx, hb, hml, hown, hts⟩ hC ⟨callB_of n9 hts (al_in hcd) rfl rfl rfl (hts _ hini) (hts _ hlk) hd hR, hts _ hin, hts _ hsel⟩ ⟨gP.blind, hrv, fun U hU hW => hM.pre hK hU hW⟩ rfl hn hls hst0 (lv_room hst) hdg hf) hM.2.1 (fun _ _ h => h) (fun _ h => h) (fun r u t H1 locs1 ht hvm hp hB hz hk hS1 => kk r u H1 locs1 hp ⟨by rw [← ht]; exact hB, hS1, hM.2.2⟩)
theorem g_callVl {st0 : List Value} (hx : p.tables.exec = Jvm.exec) (hb : c.code = cc) (hml : c.maxLocals = nL) (hls : ls.size = nL) (hown : s.vm.findClass own = some m.cls) (hts : ∀ w ∈ AL, w.before args s = true) (hK : Kw G s) (hM : Wd G M s H locs) {P : Int64 → HM → Prop} (hC : Ml l y (.code y bytes maxL ret :: AL) fr lo mc ms (.ref b :: As) G M P) (hlk : Cond.methodLink own index y ∈ AL) (hin : Cond.instanceMethod y ∈ AL) (hsel : Cond.selects y.cls y y ∈ AL) (hini : Cond.initialized y.cls ∈ AL) (hcd : Cond.code y bytes maxL ret ∈ AL) (hd : okM y n9) (hrv : ∃ cell : Cell, H[b]? = some cell ∧ cell.vm.isStatics = false ∧ s.vm.findClass y.cls = some cell.cls) (hR : fr + 1 ≤ R.frames ∧ 8 + (maxL + 11) + lo ≤ R.locals) (hf : cells + mc ≤ R.cells ∧ slots + ms ≤ R.slots) (hn : As.length = n9) (hst : (rest.map fun v => v.category).sum ≤ 8) (hst0 : st0 = As.reverse ++ .ref b :: rest) (hdg : decode cc pc = .ok (.invokevirtual index, 3))
    (kk : ∀ (r : Int64) (M1 : HM) (H : Heap) (locs : List Loc), P r M1 → Wd G M1 s H locs → W p l e R s m args below meth c H locs (cells + mc) (slots + ms) Q (F0 m (pc + 3) ls (.long r :: rest))) : W p l e R s m args below meth c H locs cells slots Q (F0 m pc ls (st0)) :=
  va_calll (va_runV (As := As) (rest := rest) ⟨hx, hb, hml, hown, hts⟩ hC ⟨callB_of n9 hts (al_in hcd) rfl rfl rfl (hts _ hini) (hts _ hlk) hd hR, hts _ hin, hts _ hsel⟩ ⟨gP.blind, hrv, fun U hU hW => hM.pre hK hU hW⟩ rfl hn hls hst0 (lv_room hst) hdg hf) hM.2.1 (fun _ _ h => h) (fun _ h => h) (fun r u t H1 locs1 ht hvm hp hB hz hk hS1 => kk r u H1 locs1 hp ⟨by rw [← ht]; exact hB, hS1, hM.2.2⟩)
theorem g_callVv {st0 : List Value} (hx : p.tables.exec = Jvm.exec) (hb : c.code = cc) (hml : c.maxLocals = nL) (hls : ls.size = nL) (hown : s.vm.findClass own = some m.cls) (hts : ∀ w ∈ AL, w.before args s = true) (hK : Kw G s) (hM : Wd G M s H locs) {P : HM → Prop} (hC : Mv l y (.code y bytes maxL ret :: AL) fr lo mc ms (.ref b :: As) G M P) (hlk : Cond.methodLink own index y ∈ AL) (hin : Cond.instanceMethod y ∈ AL) (hsel : Cond.selects y.cls y y ∈ AL) (hini : Cond.initialized y.cls ∈ AL) (hcd : Cond.code y bytes maxL ret ∈ AL) (hd : okM y n9) (hrv : ∃ cell : Cell, H[b]? = some cell ∧ cell.vm.isStatics = false ∧ s.vm.findClass y.cls = some cell.cls) (hR : fr + 1 ≤ R.frames ∧ 8 + (maxL + 11) + lo ≤ R.locals) (hf : cells + mc ≤ R.cells ∧ slots + ms ≤ R.slots) (hn : As.length = n9) (hst : (rest.map fun v => v.category).sum ≤ 8) (hst0 : st0 = As.reverse ++ .ref b :: rest) (hdg : decode cc pc = .ok (.invokevirtual index, 3))
    (kk : ∀ (M1 : HM) (H : Heap) (locs : List Loc), P M1 → Wd G M1 s H locs → W p l e R s m args below meth c H locs (cells + mc) (slots + ms) Q (F0 m (pc + 3) ls (rest))) : W p l e R s m args below meth c H locs cells slots Q (F0 m pc ls (st0)) :=
  va_callv (va_runV (As := As) (rest := rest) ⟨hx, hb, hml, hown, hts⟩ hC ⟨callB_of n9 hts (al_in hcd) rfl rfl rfl (hts _ hini) (hts _ hlk) hd hR, hts _ hin, hts _ hsel⟩ ⟨gP.blind, hrv, fun U hU hW => hM.pre hK hU hW⟩ rfl hn hls hst0 (lv_room hst) hdg hf) hM.2.1 (fun _ _ h => h) (fun _ h => h) (fun u t H1 locs1 ht hvm hp hB hz hk hS1 => kk u H1 locs1 hp ⟨by rw [← ht]; exact hB, hS1, hM.2.2⟩)
theorem g_callVq {st0 : List Value} (hx : p.tables.exec = Jvm.exec) (hb : c.code = cc) (hml : c.maxLocals = nL) (hls : ls.size = nL) (hown : s.vm.findClass own = some m.cls) (hts : ∀ w ∈ AL, w.before args s = true) (hK : Kw G s) (hM : Wd G M s H locs) {P : Option Nat → HM → Prop} (hC : Mq l y (.code y bytes maxL ret :: AL) fr lo mc ms (.ref b :: As) G M P) (hlk : Cond.methodLink own index y ∈ AL) (hin : Cond.instanceMethod y ∈ AL) (hsel : Cond.selects y.cls y y ∈ AL) (hini : Cond.initialized y.cls ∈ AL) (hcd : Cond.code y bytes maxL ret ∈ AL) (hd : okM y n9) (hrv : ∃ cell : Cell, H[b]? = some cell ∧ cell.vm.isStatics = false ∧ s.vm.findClass y.cls = some cell.cls) (hR : fr + 1 ≤ R.frames ∧ 8 + (maxL + 11) + lo ≤ R.locals) (hf : cells + mc ≤ R.cells ∧ slots + ms ≤ R.slots) (hn : As.length = n9) (hst : (rest.map fun v => v.category).sum ≤ 8) (hst0 : st0 = As.reverse ++ .ref b :: rest) (hdg : decode cc pc = .ok (.invokevirtual index, 3))
    (kk : ∀ (r : Option Nat) (M1 : HM) (H : Heap) (locs : List Loc), P r M1 → Wd G M1 s H locs → W p l e R s m args below meth c H locs (cells + mc) (slots + ms) Q (F0 m (pc + 3) ls (va_rf r :: rest))) : W p l e R s m args below meth c H locs cells slots Q (F0 m pc ls (st0)) :=
  va_callq (va_runV (As := As) (rest := rest) ⟨hx, hb, hml, hown, hts⟩ hC ⟨callB_of n9 hts (al_in hcd) rfl rfl rfl (hts _ hini) (hts _ hlk) hd hR, hts _ hin, hts _ hsel⟩ ⟨gP.blind, hrv, fun U hU hW => hM.pre hK hU hW⟩ rfl hn hls hst0 (lv_room hst) hdg hf) hM.2.1 (fun _ _ h => h) (fun _ h => h) (fun r u t H1 locs1 ht hvm hp hB hz hk hS1 => kk r u H1 locs1 hp ⟨by rw [← ht]; exact hB, hS1, hM.2.2⟩)
theorem g_callSi {st0 : List Value} (hx : p.tables.exec = Jvm.exec) (hb : c.code = cc) (hml : c.maxLocals = nL) (hls : ls.size = nL) (hown : s.vm.findClass own = some m.cls) (hts : ∀ w ∈ AL, w.before args s = true) (hK : Kw G s) (hM : Wd G M s H locs) {P : Int32 → HM → Prop} (hC : Mi l y (.code y bytes maxL ret :: AL) fr lo mc ms As G M P) (hlk : Cond.methodLink own index y ∈ AL) (hin : Cond.static y ∈ AL) (hini : Cond.initialized y.cls ∈ AL) (hcd : Cond.code y bytes maxL ret ∈ AL) (hd : okM y n9) (hR : fr + 1 ≤ R.frames ∧ 8 + (maxL + 11) + lo ≤ R.locals) (hf : cells + mc ≤ R.cells ∧ slots + ms ≤ R.slots) (hn : As.length = n9) (hst : (rest.map fun v => v.category).sum ≤ 8) (hst0 : st0 = As.reverse ++ rest) (hdg : decode cc pc = .ok (.invokestatic index, 3))
    (kk : ∀ (r : Int32) (M1 : HM) (H : Heap) (locs : List Loc), P r M1 → Wd G M1 s H locs → W p l e R s m args below meth c H locs (cells + mc) (slots + ms) Q (F0 m (pc + 3) ls (.int r :: rest))) : W p l e R s m args below meth c H locs cells slots Q (F0 m pc ls (st0)) :=
  va_calli (va_runS (As := As) (rest := rest) ⟨hx, hb, hml, hown, hts⟩ hC ⟨callB_of n9 hts (al_in hcd) rfl rfl rfl (hts _ hini) (hts _ hlk) hd hR, hts _ hin⟩ ⟨gP.blind, fun U hU hW => hM.pre hK hU hW⟩ rfl hn hls hst0 (lv_room hst) hdg hf) hM.2.1 (fun _ _ h => h) (fun _ h => h) (fun r u t H1 locs1 ht hvm hp hB hz hk hS1 => kk r u H1 locs1 hp ⟨by rw [← ht]; exact hB, hS1, hM.2.2⟩)
theorem g_callSl {st0 : List Value} (hx : p.tables.exec = Jvm.exec) (hb : c.code = cc) (hml : c.maxLocals = nL) (hls : ls.size = nL) (hown : s.vm.findClass own = some m.cls) (hts : ∀ w ∈ AL, w.before args s = true) (hK : Kw G s) (hM : Wd G M s H locs) {P : Int64 → HM → Prop} (hC : Ml l y (.code y bytes maxL ret :: AL) fr lo mc ms As G M P) (hlk : Cond.methodLink own index y ∈ AL) (hin : Cond.static y ∈ AL) (hini : Cond.initialized y.cls ∈ AL) (hcd : Cond.code y bytes maxL ret ∈ AL) (hd : okM y n9) (hR : fr + 1 ≤ R.frames ∧ 8 + (maxL + 11) + lo ≤ R.locals) (hf : cells + mc ≤ R.cells ∧ slots + ms ≤ R.slots) (hn : As.length = n9) (hst : (rest.map fun v => v.category).sum ≤ 8) (hst0 : st0 = As.reverse ++ rest) (hdg : decode cc pc = .ok (.invokestatic index, 3))
    (kk : ∀ (r : Int64) (M1 : HM) (H : Heap) (locs : List Loc), P r M1 → Wd G M1 s H locs → W p l e R s m args below meth c H locs (cells + mc) (slots + ms) Q (F0 m (pc + 3) ls (.long r :: rest))) : W p l e R s m args below meth c H locs cells slots Q (F0 m pc ls (st0)) :=
  va_calll (va_runS (As := As) (rest := rest) ⟨hx, hb, hml, hown, hts⟩ hC ⟨callB_of n9 hts (al_in hcd) rfl rfl rfl (hts _ hini) (hts _ hlk) hd hR, hts _ hin⟩ ⟨gP.blind, fun U hU hW => hM.pre hK hU hW⟩ rfl hn hls hst0 (lv_room hst) hdg hf) hM.2.1 (fun _ _ h => h) (fun _ h => h) (fun r u t H1 locs1 ht hvm hp hB hz hk hS1 => kk r u H1 locs1 hp ⟨by rw [← ht]; exact hB, hS1, hM.2.2⟩)
theorem g_callSv {st0 : List Value} (hx : p.tables.exec = Jvm.exec) (hb : c.code = cc) (hml : c.maxLocals = nL) (hls : ls.size = nL) (hown : s.vm.findClass own = some m.cls) (hts : ∀ w ∈ AL, w.before args s = true) (hK : Kw G s) (hM : Wd G M s H locs) {P : HM → Prop} (hC : Mv l y (.code y bytes maxL ret :: AL) fr lo mc ms As G M P) (hlk : Cond.methodLink own index y ∈ AL) (hin : Cond.static y ∈ AL) (hini : Cond.initialized y.cls ∈ AL) (hcd : Cond.code y bytes maxL ret ∈ AL) (hd : okM y n9) (hR : fr + 1 ≤ R.frames ∧ 8 + (maxL + 11) + lo ≤ R.locals) (hf : cells + mc ≤ R.cells ∧ slots + ms ≤ R.slots) (hn : As.length = n9) (hst : (rest.map fun v => v.category).sum ≤ 8) (hst0 : st0 = As.reverse ++ rest) (hdg : decode cc pc = .ok (.invokestatic index, 3))
    (kk : ∀ (M1 : HM) (H : Heap) (locs : List Loc), P M1 → Wd G M1 s H locs → W p l e R s m args below meth c H locs (cells + mc) (slots + ms) Q (F0 m (pc + 3) ls (rest))) : W p l e R s m args below meth c H locs cells slots Q (F0 m pc ls (st0)) :=
  va_callv (va_runS (As := As) (rest := rest) ⟨hx, hb, hml, hown, hts⟩ hC ⟨callB_of n9 hts (al_in hcd) rfl rfl rfl (hts _ hini) (hts _ hlk) hd hR, hts _ hin⟩ ⟨gP.blind, fun U hU hW => hM.pre hK hU hW⟩ rfl hn hls hst0 (lv_room hst) hdg hf) hM.2.1 (fun _ _ h => h) (fun _ h => h) (fun u t H1 locs1 ht hvm hp hB hz hk hS1 => kk u H1 locs1 hp ⟨by rw [← ht]; exact hB, hS1, hM.2.2⟩)
theorem g_callSq {st0 : List Value} (hx : p.tables.exec = Jvm.exec) (hb : c.code = cc) (hml : c.maxLocals = nL) (hls : ls.size = nL) (hown : s.vm.findClass own = some m.cls) (hts : ∀ w ∈ AL, w.before args s = true) (hK : Kw G s) (hM : Wd G M s H locs) {P : Option Nat → HM → Prop} (hC : Mq l y (.code y bytes maxL ret :: AL) fr lo mc ms As G M P) (hlk : Cond.methodLink own index y ∈ AL) (hin : Cond.static y ∈ AL) (hini : Cond.initialized y.cls ∈ AL) (hcd : Cond.code y bytes maxL ret ∈ AL) (hd : okM y n9) (hR : fr + 1 ≤ R.frames ∧ 8 + (maxL + 11) + lo ≤ R.locals) (hf : cells + mc ≤ R.cells ∧ slots + ms ≤ R.slots) (hn : As.length = n9) (hst : (rest.map fun v => v.category).sum ≤ 8) (hst0 : st0 = As.reverse ++ rest) (hdg : decode cc pc = .ok (.invokestatic index, 3))
    (kk : ∀ (r : Option Nat) (M1 : HM) (H : Heap) (locs : List Loc), P r M1 → Wd G M1 s H locs → W p l e R s m args below meth c H locs (cells + mc) (slots + ms) Q (F0 m (pc + 3) ls (va_rf r :: rest))) : W p l e R s m args below meth c H locs cells slots Q (F0 m pc ls (st0)) :=
  va_callq (va_runS (As := As) (rest := rest) ⟨hx, hb, hml, hown, hts⟩ hC ⟨callB_of n9 hts (al_in hcd) rfl rfl rfl (hts _ hini) (hts _ hlk) hd hR, hts _ hin⟩ ⟨gP.blind, fun U hU hW => hM.pre hK hU hW⟩ rfl hn hls hst0 (lv_room hst) hdg hf) hM.2.1 (fun _ _ h => h) (fun _ h => h) (fun r u t H1 locs1 ht hvm hp hB hz hk hS1 => kk r u H1 locs1 hp ⟨by rw [← ht]; exact hB, hS1, hM.2.2⟩)
theorem g_callIv {st0 : List Value} (hx : p.tables.exec = Jvm.exec) (hb : c.code = cc) (hml : c.maxLocals = nL) (hls : ls.size = nL) (hown : s.vm.findClass own = some m.cls) (hts : ∀ w ∈ AL, w.before args s = true) (hK : Kw G s) (hM : Wd G M s H locs) {P : HM → Prop} (hC : Mv l y (.code y bytes maxL none :: AL) fr lo mc ms (.ref b :: As) G M P) (hlk : Cond.methodLink own index y ∈ AL) (hin : Cond.instanceMethod y ∈ AL) (hini : Cond.initialized y.cls ∈ AL) (hnm : y.name = "<init>") (hcd : Cond.code y bytes maxL none ∈ AL) (hd : okM y n9) (hR : fr + 1 ≤ R.frames ∧ 8 + (maxL + 11) + lo ≤ R.locals) (hf : cells + mc ≤ R.cells ∧ slots + ms ≤ R.slots) (hn : As.length = n9) (hst : (rest.map fun v => v.category).sum ≤ 8) (hst0 : st0 = As.reverse ++ .ref b :: rest) (hdg : decode cc pc = .ok (.invokespecial index, 3))
    (kk : ∀ (M1 : HM) (H : Heap) (locs : List Loc), P M1 → Wd G M1 s H locs → W p l e R s m args below meth c H locs (cells + mc) (slots + ms) Q (F0 m (pc + 3) ls (rest))) : W p l e R s m args below meth c H locs cells slots Q (F0 m pc ls (st0)) :=
  va_callv (va_runI (As := As) (rest := rest) ⟨hx, hb, hml, hown, hts⟩ hC ⟨callB_of n9 hts (al_in hcd) rfl rfl rfl (hts _ hini) (hts _ hlk) hd hR, hnm, hts _ hin⟩ ⟨gP.blind, fun U hU hW => hM.pre hK hU hW⟩ rfl hn hls hst0 (lv_room hst) hdg hf) hM.2.1 (fun _ _ h => h) (fun _ h => h) (fun u t H1 locs1 ht hvm hp hB hz hk hS1 => kk u H1 locs1 hp ⟨by rw [← ht]; exact hB, hS1, hM.2.2⟩)
theorem g_callSNi {st0 : List Value} (hx : p.tables.exec = Jvm.exec) (hb : c.code = cc) (hml : c.maxLocals = nL) (hls : ls.size = nL) (hown : s.vm.findClass own = some m.cls) (hts : ∀ w ∈ AL, w.before args s = true) (hK : Kw G s) (hM : Wd G M s H locs) {P : Int32 → HM → Prop} (hC : Mi l y (.code y bytes maxL ret :: AL) fr lo mc ms As G M P) {host : String} (hlk : va_Nw (.methodLinkNest own index y host) s) (hin : Cond.static y ∈ AL) (hini : Cond.initialized y.cls ∈ AL) (hcd : Cond.code y bytes maxL ret ∈ AL) (hd : okM y n9) (hR : fr + 1 ≤ R.frames ∧ 8 + (maxL + 11) + lo ≤ R.locals) (hf : cells + mc ≤ R.cells ∧ slots + ms ≤ R.slots) (hn : As.length = n9) (hst : (rest.map fun v => v.category).sum ≤ 8) (hst0 : st0 = As.reverse ++ rest) (hdg : decode cc pc = .ok (.invokestatic index, 3))
    (kk : ∀ (r : Int32) (M1 : HM) (H : Heap) (locs : List Loc), P r M1 → Wd G M1 s H locs → W p l e R s m args below meth c H locs (cells + mc) (slots + ms) Q (F0 m (pc + 3) ls (.int r :: rest))) : W p l e R s m args below meth c H locs cells slots Q (F0 m pc ls (st0)) :=
  va_calli (va_runSN (As := As) (rest := rest) ⟨hx, hb, hml, hown, hts⟩ hC ⟨va_cnB n9 hts (al_in hcd) rfl rfl rfl hlk (hts _ hini) hd hR, hts _ hin, trivial⟩ ⟨gP.blind, fun U hU hW => hM.pre hK hU hW⟩ rfl hn hls hst0 (lv_room hst) hdg hf) hM.2.1 (fun _ _ h => h) (fun _ h => h) (fun r u t H1 locs1 ht hvm hp hB hz hk hS1 => kk r u H1 locs1 hp ⟨by rw [← ht]; exact hB, hS1, hM.2.2⟩)
theorem g_callINv {st0 : List Value} (hx : p.tables.exec = Jvm.exec) (hb : c.code = cc) (hml : c.maxLocals = nL) (hls : ls.size = nL) (hown : s.vm.findClass own = some m.cls) (hts : ∀ w ∈ AL, w.before args s = true) (hK : Kw G s) (hM : Wd G M s H locs) {P : HM → Prop} (hC : Mv l y (.code y bytes maxL none :: AL) fr lo mc ms (.ref b :: As) G M P) {host : String} (hlk : va_Nw (.methodLinkNest own index y host) s) (hin : Cond.instanceMethod y ∈ AL) (hini : Cond.initialized y.cls ∈ AL) (hnm : y.name = "<init>") (hcd : Cond.code y bytes maxL none ∈ AL) (hd : okM y n9) (hR : fr + 1 ≤ R.frames ∧ 8 + (maxL + 11) + lo ≤ R.locals) (hf : cells + mc ≤ R.cells ∧ slots + ms ≤ R.slots) (hn : As.length = n9) (hst : (rest.map fun v => v.category).sum ≤ 8) (hst0 : st0 = As.reverse ++ .ref b :: rest) (hdg : decode cc pc = .ok (.invokespecial index, 3))
    (kk : ∀ (M1 : HM) (H : Heap) (locs : List Loc), P M1 → Wd G M1 s H locs → W p l e R s m args below meth c H locs (cells + mc) (slots + ms) Q (F0 m (pc + 3) ls (rest))) : W p l e R s m args below meth c H locs cells slots Q (F0 m pc ls (st0)) :=
  va_callv (va_runIN (As := As) (rest := rest) ⟨hx, hb, hml, hown, hts⟩ hC ⟨va_cnB n9 hts (al_in hcd) rfl rfl rfl hlk (hts _ hini) hd hR, hnm, hts _ hin⟩ ⟨gP.blind, fun U hU hW => hM.pre hK hU hW⟩ rfl hn hls hst0 (lv_room hst) hdg hf) hM.2.1 (fun _ _ h => h) (fun _ h => h) (fun u t H1 locs1 ht hvm hp hB hz hk hS1 => kk u H1 locs1 hp ⟨by rw [← ht]; exact hB, hS1, hM.2.2⟩)
theorem g_callFi {st0 : List Value} {x : MethodName} {count : Nat} {cC : ClassId} (hx : p.tables.exec = Jvm.exec) (hb : c.code = cc) (hml : c.maxLocals = nL) (hls : ls.size = nL) (hown : s.vm.findClass own = some m.cls) (hts : ∀ w ∈ AL, w.before args s = true) (hK : Kw G s) (hM : Wd G M s H locs) {P : Int32 → HM → Prop} (hC : Mi l y (.code y bytes maxL ret :: AL) fr lo mc ms (.ref b :: As) G M P) (hat : ClassAt s C cC) (hF : va_Fw C x y s) (hlk : Cond.methodLink own index x ∈ AL) (hsel : Cond.selects C x y ∈ AL) (hin : Cond.instanceMethod y ∈ AL) (hini : Cond.initialized y.cls ∈ AL) (hcd : Cond.code y bytes maxL ret ∈ AL) (hd : okM x n9) (hrv : ∃ cell : Cell, H[b]? = some cell ∧ cell.vm.isStatics = false ∧ s.vm.findClass C = some cell.cls) (hR : fr + 1 ≤ R.frames ∧ 8 + (maxL + 11) + lo ≤ R.locals) (hf : cells + mc ≤ R.cells ∧ slots + ms ≤ R.slots) (hn : As.length = n9) (hst : (rest.map fun v => v.category).sum ≤ 8) (hst0 : st0 = As.reverse ++ .ref b :: rest) (hdg : decode cc pc = .ok (.invokeinterface index count, 5))
    (kk : ∀ (r : Int32) (M1 : HM) (H : Heap) (locs : List Loc), P r M1 → Wd G M1 s H locs → W p l e R s m args below meth c H locs (cells + mc) (slots + ms) Q (F0 m (pc + 5) ls (.int r :: rest))) : W p l e R s m args below meth c H locs cells slots Q (F0 m pc ls (st0)) :=
  va_callFi (va_runF (As := As) (rest := rest) hat ⟨hx, hb, hml, hown, hts⟩ hC (va_cwF n9 hts (fun w hw => by
    simp only [va_wsF, List.mem_append, List.mem_cons, List.not_mem_nil, or_false] at hw
    rcases hw with (rfl | rfl | rfl | rfl) | rfl | hw
    · exact ⟨hlk, al_gw _ hlk⟩
    · exact ⟨hsel, al_gw _ hsel⟩
    · exact ⟨hin, al_gw _ hin⟩
    · exact ⟨hini, al_gw _ hini⟩
    · exact ⟨hcd, al_gw _ hcd⟩
    · exact ⟨hw, al_gw _ hw⟩) rfl rfl rfl hF hd hR) ⟨gP.blind, hrv, fun U hU hW => hM.pre hK hU hW⟩ rfl hn hls hst0 (lv_room hst) hdg hf) hM.2.1 (fun _ _ h => h) (fun _ h => h) (fun r u t H1 locs1 ht hvm hp hB hz hk hS1 => kk r u H1 locs1 hp ⟨by rw [← ht]; exact hB, hS1, hM.2.2⟩)
theorem g_callFq {st0 : List Value} {x : MethodName} {count : Nat} {cC : ClassId} (hx : p.tables.exec = Jvm.exec) (hb : c.code = cc) (hml : c.maxLocals = nL) (hls : ls.size = nL) (hown : s.vm.findClass own = some m.cls) (hts : ∀ w ∈ AL, w.before args s = true) (hK : Kw G s) (hM : Wd G M s H locs) {P : Option Nat → HM → Prop} (hC : Mq l y (.code y bytes maxL ret :: AL) fr lo mc ms (.ref b :: As) G M P) (hat : ClassAt s C cC) (hF : va_Fw C x y s) (hlk : Cond.methodLink own index x ∈ AL) (hsel : Cond.selects C x y ∈ AL) (hin : Cond.instanceMethod y ∈ AL) (hini : Cond.initialized y.cls ∈ AL) (hcd : Cond.code y bytes maxL ret ∈ AL) (hd : okM x n9) (hrv : ∃ cell : Cell, H[b]? = some cell ∧ cell.vm.isStatics = false ∧ s.vm.findClass C = some cell.cls) (hR : fr + 1 ≤ R.frames ∧ 8 + (maxL + 11) + lo ≤ R.locals) (hf : cells + mc ≤ R.cells ∧ slots + ms ≤ R.slots) (hn : As.length = n9) (hst : (rest.map fun v => v.category).sum ≤ 8) (hst0 : st0 = As.reverse ++ .ref b :: rest) (hdg : decode cc pc = .ok (.invokeinterface index count, 5))
    (kk : ∀ (r : Option Nat) (M1 : HM) (H : Heap) (locs : List Loc), P r M1 → Wd G M1 s H locs → W p l e R s m args below meth c H locs (cells + mc) (slots + ms) Q (F0 m (pc + 5) ls (va_rf r :: rest))) : W p l e R s m args below meth c H locs cells slots Q (F0 m pc ls (st0)) :=
  va_callFq (va_runF (As := As) (rest := rest) hat ⟨hx, hb, hml, hown, hts⟩ hC (va_cwF n9 hts (fun w hw => by
    simp only [va_wsF, List.mem_append, List.mem_cons, List.not_mem_nil, or_false] at hw
    rcases hw with (rfl | rfl | rfl | rfl) | rfl | hw
    · exact ⟨hlk, al_gw _ hlk⟩
    · exact ⟨hsel, al_gw _ hsel⟩
    · exact ⟨hin, al_gw _ hin⟩
    · exact ⟨hini, al_gw _ hini⟩
    · exact ⟨hcd, al_gw _ hcd⟩
    · exact ⟨hw, al_gw _ hw⟩) rfl rfl rfl hF hd hR) ⟨gP.blind, hrv, fun U hU hW => hM.pre hK hU hW⟩ rfl hn hls hst0 (lv_room hst) hdg hf) hM.2.1 (fun _ _ h => h) (fun _ h => h) (fun r u t H1 locs1 ht hvm hp hB hz hk hS1 => kk r u H1 locs1 hp ⟨by rw [← ht]; exact hB, hS1, hM.2.2⟩)
end GC
end
section
def rw13 (v0 v1 v2 v3 v4 v5 v6 v7 v8 v9 v10 v11 v12 : Int32) : Nat → Int32 := fun k => match k with | 0 => v0 | 1 => v1 | 2 => v2 | 3 => v3 | 4 => v4 | 5 => v5 | 6 => v6 | 7 => v7 | 8 => v8 | 9 => v9 | 10 => v10 | 11 => v11 | 12 => v12 | _ => 0
def rw11 (v0 v1 v2 v3 v4 v5 v6 v7 v8 v9 v10 : Int32) : Nat → Int32 := fun k => match k with | 0 => v0 | 1 => v1 | 2 => v2 | 3 => v3 | 4 => v4 | 5 => v5 | 6 => v6 | 7 => v7 | 8 => v8 | 9 => v9 | 10 => v10 | _ => 0
def rw10 (v0 v1 v2 v3 v4 v5 v6 v7 v8 v9 : Int32) : Nat → Int32 := fun k => match k with | 0 => v0 | 1 => v1 | 2 => v2 | 3 => v3 | 4 => v4 | 5 => v5 | 6 => v6 | 7 => v7 | 8 => v8 | 9 => v9 | _ => 0
def rw8 (v0 v1 v2 v3 v4 v5 v6 v7 : Int32) : Nat → Int32 := fun k => match k with | 0 => v0 | 1 => v1 | 2 => v2 | 3 => v3 | 4 => v4 | 5 => v5 | 6 => v6 | 7 => v7 | _ => 0
def rw7 (v0 v1 v2 v3 v4 v5 v6 : Int32) : Nat → Int32 := fun k => match k with | 0 => v0 | 1 => v1 | 2 => v2 | 3 => v3 | 4 => v4 | 5 => v5 | 6 => v6 | _ => 0
def rw6 (v0 v1 v2 v3 v4 v5 : Int32) : Nat → Int32 := fun k => match k with | 0 => v0 | 1 => v1 | 2 => v2 | 3 => v3 | 4 => v4 | 5 => v5 | _ => 0
def rw4 (v0 v1 v2 v3 : Int32) : Nat → Int32 := fun k => match k with | 0 => v0 | 1 => v1 | 2 => v2 | 3 => v3 | _ => 0
theorem ru4_0 (v0 v1 v2 v3 x : Int32) : upd (rw4 v0 v1 v2 v3) 0 x = rw4 x v1 v2 v3 := funext fun j => by
  by_cases h : j = 0
  · subst h; rfl
  · simp only [upd, if_neg h]
    unfold rw4
    split <;> first | rfl | exact absurd rfl h
theorem ru4_1 (v0 v1 v2 v3 x : Int32) : upd (rw4 v0 v1 v2 v3) 1 x = rw4 v0 x v2 v3 := funext fun j => by
  by_cases h : j = 1
  · subst h; rfl
  · simp only [upd, if_neg h]
    unfold rw4
    split <;> first | rfl | exact absurd rfl h
theorem ru4_2 (v0 v1 v2 v3 x : Int32) : upd (rw4 v0 v1 v2 v3) 2 x = rw4 v0 v1 x v3 := funext fun j => by
  by_cases h : j = 2
  · subst h; rfl
  · simp only [upd, if_neg h]
    unfold rw4
    split <;> first | rfl | exact absurd rfl h
theorem ru4_3 (v0 v1 v2 v3 x : Int32) : upd (rw4 v0 v1 v2 v3) 3 x = rw4 v0 v1 v2 x := funext fun j => by
  by_cases h : j = 3
  · subst h; rfl
  · simp only [upd, if_neg h]
    unfold rw4
    split <;> first | rfl | exact absurd rfl h
theorem ru6_0 (v0 v1 v2 v3 v4 v5 x : Int32) : upd (rw6 v0 v1 v2 v3 v4 v5) 0 x = rw6 x v1 v2 v3 v4 v5 := funext fun j => by
  by_cases h : j = 0
  · subst h; rfl
  · simp only [upd, if_neg h]
    unfold rw6
    split <;> first | rfl | exact absurd rfl h
theorem ru6_1 (v0 v1 v2 v3 v4 v5 x : Int32) : upd (rw6 v0 v1 v2 v3 v4 v5) 1 x = rw6 v0 x v2 v3 v4 v5 := funext fun j => by
  by_cases h : j = 1
  · subst h; rfl
  · simp only [upd, if_neg h]
    unfold rw6
    split <;> first | rfl | exact absurd rfl h
theorem ru6_2 (v0 v1 v2 v3 v4 v5 x : Int32) : upd (rw6 v0 v1 v2 v3 v4 v5) 2 x = rw6 v0 v1 x v3 v4 v5 := funext fun j => by
  by_cases h : j = 2
  · subst h; rfl
  · simp only [upd, if_neg h]
    unfold rw6
    split <;> first | rfl | exact absurd rfl h
theorem ru6_3 (v0 v1 v2 v3 v4 v5 x : Int32) : upd (rw6 v0 v1 v2 v3 v4 v5) 3 x = rw6 v0 v1 v2 x v4 v5 := funext fun j => by
  by_cases h : j = 3
  · subst h; rfl
  · simp only [upd, if_neg h]
    unfold rw6
    split <;> first | rfl | exact absurd rfl h
theorem ru6_4 (v0 v1 v2 v3 v4 v5 x : Int32) : upd (rw6 v0 v1 v2 v3 v4 v5) 4 x = rw6 v0 v1 v2 v3 x v5 := funext fun j => by
  by_cases h : j = 4
  · subst h; rfl
  · simp only [upd, if_neg h]
    unfold rw6
    split <;> first | rfl | exact absurd rfl h
theorem ru6_5 (v0 v1 v2 v3 v4 v5 x : Int32) : upd (rw6 v0 v1 v2 v3 v4 v5) 5 x = rw6 v0 v1 v2 v3 v4 x := funext fun j => by
  by_cases h : j = 5
  · subst h; rfl
  · simp only [upd, if_neg h]
    unfold rw6
    split <;> first | rfl | exact absurd rfl h
theorem ru7_0 (v0 v1 v2 v3 v4 v5 v6 x : Int32) : upd (rw7 v0 v1 v2 v3 v4 v5 v6) 0 x = rw7 x v1 v2 v3 v4 v5 v6 := funext fun j => by
  by_cases h : j = 0
  · subst h; rfl
  · simp only [upd, if_neg h]
    unfold rw7
    split <;> first | rfl | exact absurd rfl h
theorem ru7_1 (v0 v1 v2 v3 v4 v5 v6 x : Int32) : upd (rw7 v0 v1 v2 v3 v4 v5 v6) 1 x = rw7 v0 x v2 v3 v4 v5 v6 := funext fun j => by
  by_cases h : j = 1
  · subst h; rfl
  · simp only [upd, if_neg h]
    unfold rw7
    split <;> first | rfl | exact absurd rfl h
theorem ru7_2 (v0 v1 v2 v3 v4 v5 v6 x : Int32) : upd (rw7 v0 v1 v2 v3 v4 v5 v6) 2 x = rw7 v0 v1 x v3 v4 v5 v6 := funext fun j => by
  by_cases h : j = 2
  · subst h; rfl
  · simp only [upd, if_neg h]
    unfold rw7
    split <;> first | rfl | exact absurd rfl h
theorem ru7_3 (v0 v1 v2 v3 v4 v5 v6 x : Int32) : upd (rw7 v0 v1 v2 v3 v4 v5 v6) 3 x = rw7 v0 v1 v2 x v4 v5 v6 := funext fun j => by
  by_cases h : j = 3
  · subst h; rfl
  · simp only [upd, if_neg h]
    unfold rw7
    split <;> first | rfl | exact absurd rfl h
theorem ru7_4 (v0 v1 v2 v3 v4 v5 v6 x : Int32) : upd (rw7 v0 v1 v2 v3 v4 v5 v6) 4 x = rw7 v0 v1 v2 v3 x v5 v6 := funext fun j => by
  by_cases h : j = 4
  · subst h; rfl
  · simp only [upd, if_neg h]
    unfold rw7
    split <;> first | rfl | exact absurd rfl h
theorem ru7_5 (v0 v1 v2 v3 v4 v5 v6 x : Int32) : upd (rw7 v0 v1 v2 v3 v4 v5 v6) 5 x = rw7 v0 v1 v2 v3 v4 x v6 := funext fun j => by
  by_cases h : j = 5
  · subst h; rfl
  · simp only [upd, if_neg h]
    unfold rw7
    split <;> first | rfl | exact absurd rfl h
theorem ru7_6 (v0 v1 v2 v3 v4 v5 v6 x : Int32) : upd (rw7 v0 v1 v2 v3 v4 v5 v6) 6 x = rw7 v0 v1 v2 v3 v4 v5 x := funext fun j => by
  by_cases h : j = 6
  · subst h; rfl
  · simp only [upd, if_neg h]
    unfold rw7
    split <;> first | rfl | exact absurd rfl h
theorem ru8_0 (v0 v1 v2 v3 v4 v5 v6 v7 x : Int32) : upd (rw8 v0 v1 v2 v3 v4 v5 v6 v7) 0 x = rw8 x v1 v2 v3 v4 v5 v6 v7 := funext fun j => by
  by_cases h : j = 0
  · subst h; rfl
  · simp only [upd, if_neg h]
    unfold rw8
    split <;> first | rfl | exact absurd rfl h
theorem ru8_1 (v0 v1 v2 v3 v4 v5 v6 v7 x : Int32) : upd (rw8 v0 v1 v2 v3 v4 v5 v6 v7) 1 x = rw8 v0 x v2 v3 v4 v5 v6 v7 := funext fun j => by
  by_cases h : j = 1
  · subst h; rfl
  · simp only [upd, if_neg h]
    unfold rw8
    split <;> first | rfl | exact absurd rfl h
theorem ru8_2 (v0 v1 v2 v3 v4 v5 v6 v7 x : Int32) : upd (rw8 v0 v1 v2 v3 v4 v5 v6 v7) 2 x = rw8 v0 v1 x v3 v4 v5 v6 v7 := funext fun j => by
  by_cases h : j = 2
  · subst h; rfl
  · simp only [upd, if_neg h]
    unfold rw8
    split <;> first | rfl | exact absurd rfl h
theorem ru8_3 (v0 v1 v2 v3 v4 v5 v6 v7 x : Int32) : upd (rw8 v0 v1 v2 v3 v4 v5 v6 v7) 3 x = rw8 v0 v1 v2 x v4 v5 v6 v7 := funext fun j => by
  by_cases h : j = 3
  · subst h; rfl
  · simp only [upd, if_neg h]
    unfold rw8
    split <;> first | rfl | exact absurd rfl h
theorem ru8_4 (v0 v1 v2 v3 v4 v5 v6 v7 x : Int32) : upd (rw8 v0 v1 v2 v3 v4 v5 v6 v7) 4 x = rw8 v0 v1 v2 v3 x v5 v6 v7 := funext fun j => by
  by_cases h : j = 4
  · subst h; rfl
  · simp only [upd, if_neg h]
    unfold rw8
    split <;> first | rfl | exact absurd rfl h
theorem ru8_5 (v0 v1 v2 v3 v4 v5 v6 v7 x : Int32) : upd (rw8 v0 v1 v2 v3 v4 v5 v6 v7) 5 x = rw8 v0 v1 v2 v3 v4 x v6 v7 := funext fun j => by
  by_cases h : j = 5
  · subst h; rfl
  · simp only [upd, if_neg h]
    unfold rw8
    split <;> first | rfl | exact absurd rfl h
theorem ru8_6 (v0 v1 v2 v3 v4 v5 v6 v7 x : Int32) : upd (rw8 v0 v1 v2 v3 v4 v5 v6 v7) 6 x = rw8 v0 v1 v2 v3 v4 v5 x v7 := funext fun j => by
  by_cases h : j = 6
  · subst h; rfl
  · simp only [upd, if_neg h]
    unfold rw8
    split <;> first | rfl | exact absurd rfl h
theorem ru8_7 (v0 v1 v2 v3 v4 v5 v6 v7 x : Int32) : upd (rw8 v0 v1 v2 v3 v4 v5 v6 v7) 7 x = rw8 v0 v1 v2 v3 v4 v5 v6 x := funext fun j => by
  by_cases h : j = 7
  · subst h; rfl
  · simp only [upd, if_neg h]
    unfold rw8
    split <;> first | rfl | exact absurd rfl h
theorem ru10_0 (v0 v1 v2 v3 v4 v5 v6 v7 v8 v9 x : Int32) : upd (rw10 v0 v1 v2 v3 v4 v5 v6 v7 v8 v9) 0 x = rw10 x v1 v2 v3 v4 v5 v6 v7 v8 v9 := funext fun j => by
  by_cases h : j = 0
  · subst h; rfl
  · simp only [upd, if_neg h]
    unfold rw10
    split <;> first | rfl | exact absurd rfl h
theorem ru10_1 (v0 v1 v2 v3 v4 v5 v6 v7 v8 v9 x : Int32) : upd (rw10 v0 v1 v2 v3 v4 v5 v6 v7 v8 v9) 1 x = rw10 v0 x v2 v3 v4 v5 v6 v7 v8 v9 := funext fun j => by
  by_cases h : j = 1
  · subst h; rfl
  · simp only [upd, if_neg h]
    unfold rw10
    split <;> first | rfl | exact absurd rfl h
theorem ru10_2 (v0 v1 v2 v3 v4 v5 v6 v7 v8 v9 x : Int32) : upd (rw10 v0 v1 v2 v3 v4 v5 v6 v7 v8 v9) 2 x = rw10 v0 v1 x v3 v4 v5 v6 v7 v8 v9 := funext fun j => by
  by_cases h : j = 2
  · subst h; rfl
  · simp only [upd, if_neg h]
    unfold rw10
    split <;> first | rfl | exact absurd rfl h
theorem ru10_3 (v0 v1 v2 v3 v4 v5 v6 v7 v8 v9 x : Int32) : upd (rw10 v0 v1 v2 v3 v4 v5 v6 v7 v8 v9) 3 x = rw10 v0 v1 v2 x v4 v5 v6 v7 v8 v9 := funext fun j => by
  by_cases h : j = 3
  · subst h; rfl
  · simp only [upd, if_neg h]
    unfold rw10
    split <;> first | rfl | exact absurd rfl h
theorem ru10_4 (v0 v1 v2 v3 v4 v5 v6 v7 v8 v9 x : Int32) : upd (rw10 v0 v1 v2 v3 v4 v5 v6 v7 v8 v9) 4 x = rw10 v0 v1 v2 v3 x v5 v6 v7 v8 v9 := funext fun j => by
  by_cases h : j = 4
  · subst h; rfl
  · simp only [upd, if_neg h]
    unfold rw10
    split <;> first | rfl | exact absurd rfl h
theorem ru10_5 (v0 v1 v2 v3 v4 v5 v6 v7 v8 v9 x : Int32) : upd (rw10 v0 v1 v2 v3 v4 v5 v6 v7 v8 v9) 5 x = rw10 v0 v1 v2 v3 v4 x v6 v7 v8 v9 := funext fun j => by
  by_cases h : j = 5
  · subst h; rfl
  · simp only [upd, if_neg h]
    unfold rw10
    split <;> first | rfl | exact absurd rfl h
theorem ru10_6 (v0 v1 v2 v3 v4 v5 v6 v7 v8 v9 x : Int32) : upd (rw10 v0 v1 v2 v3 v4 v5 v6 v7 v8 v9) 6 x = rw10 v0 v1 v2 v3 v4 v5 x v7 v8 v9 := funext fun j => by
  by_cases h : j = 6
  · subst h; rfl
  · simp only [upd, if_neg h]
    unfold rw10
    split <;> first | rfl | exact absurd rfl h
theorem ru10_7 (v0 v1 v2 v3 v4 v5 v6 v7 v8 v9 x : Int32) : upd (rw10 v0 v1 v2 v3 v4 v5 v6 v7 v8 v9) 7 x = rw10 v0 v1 v2 v3 v4 v5 v6 x v8 v9 := funext fun j => by
  by_cases h : j = 7
  · subst h; rfl
  · simp only [upd, if_neg h]
    unfold rw10
    split <;> first | rfl | exact absurd rfl h
theorem ru10_8 (v0 v1 v2 v3 v4 v5 v6 v7 v8 v9 x : Int32) : upd (rw10 v0 v1 v2 v3 v4 v5 v6 v7 v8 v9) 8 x = rw10 v0 v1 v2 v3 v4 v5 v6 v7 x v9 := funext fun j => by
  by_cases h : j = 8
  · subst h; rfl
  · simp only [upd, if_neg h]
    unfold rw10
    split <;> first | rfl | exact absurd rfl h
theorem ru10_9 (v0 v1 v2 v3 v4 v5 v6 v7 v8 v9 x : Int32) : upd (rw10 v0 v1 v2 v3 v4 v5 v6 v7 v8 v9) 9 x = rw10 v0 v1 v2 v3 v4 v5 v6 v7 v8 x := funext fun j => by
  by_cases h : j = 9
  · subst h; rfl
  · simp only [upd, if_neg h]
    unfold rw10
    split <;> first | rfl | exact absurd rfl h
theorem ru11_0 (v0 v1 v2 v3 v4 v5 v6 v7 v8 v9 v10 x : Int32) : upd (rw11 v0 v1 v2 v3 v4 v5 v6 v7 v8 v9 v10) 0 x = rw11 x v1 v2 v3 v4 v5 v6 v7 v8 v9 v10 := funext fun j => by
  by_cases h : j = 0
  · subst h; rfl
  · simp only [upd, if_neg h]
    unfold rw11
    split <;> first | rfl | exact absurd rfl h
theorem ru11_1 (v0 v1 v2 v3 v4 v5 v6 v7 v8 v9 v10 x : Int32) : upd (rw11 v0 v1 v2 v3 v4 v5 v6 v7 v8 v9 v10) 1 x = rw11 v0 x v2 v3 v4 v5 v6 v7 v8 v9 v10 := funext fun j => by
  by_cases h : j = 1
  · subst h; rfl
  · simp only [upd, if_neg h]
    unfold rw11
    split <;> first | rfl | exact absurd rfl h
theorem ru11_2 (v0 v1 v2 v3 v4 v5 v6 v7 v8 v9 v10 x : Int32) : upd (rw11 v0 v1 v2 v3 v4 v5 v6 v7 v8 v9 v10) 2 x = rw11 v0 v1 x v3 v4 v5 v6 v7 v8 v9 v10 := funext fun j => by
  by_cases h : j = 2
  · subst h; rfl
  · simp only [upd, if_neg h]
    unfold rw11
    split <;> first | rfl | exact absurd rfl h
theorem ru11_3 (v0 v1 v2 v3 v4 v5 v6 v7 v8 v9 v10 x : Int32) : upd (rw11 v0 v1 v2 v3 v4 v5 v6 v7 v8 v9 v10) 3 x = rw11 v0 v1 v2 x v4 v5 v6 v7 v8 v9 v10 := funext fun j => by
  by_cases h : j = 3
  · subst h; rfl
  · simp only [upd, if_neg h]
    unfold rw11
    split <;> first | rfl | exact absurd rfl h
theorem ru11_4 (v0 v1 v2 v3 v4 v5 v6 v7 v8 v9 v10 x : Int32) : upd (rw11 v0 v1 v2 v3 v4 v5 v6 v7 v8 v9 v10) 4 x = rw11 v0 v1 v2 v3 x v5 v6 v7 v8 v9 v10 := funext fun j => by
  by_cases h : j = 4
  · subst h; rfl
  · simp only [upd, if_neg h]
    unfold rw11
    split <;> first | rfl | exact absurd rfl h
theorem ru11_5 (v0 v1 v2 v3 v4 v5 v6 v7 v8 v9 v10 x : Int32) : upd (rw11 v0 v1 v2 v3 v4 v5 v6 v7 v8 v9 v10) 5 x = rw11 v0 v1 v2 v3 v4 x v6 v7 v8 v9 v10 := funext fun j => by
  by_cases h : j = 5
  · subst h; rfl
  · simp only [upd, if_neg h]
    unfold rw11
    split <;> first | rfl | exact absurd rfl h
theorem ru11_6 (v0 v1 v2 v3 v4 v5 v6 v7 v8 v9 v10 x : Int32) : upd (rw11 v0 v1 v2 v3 v4 v5 v6 v7 v8 v9 v10) 6 x = rw11 v0 v1 v2 v3 v4 v5 x v7 v8 v9 v10 := funext fun j => by
  by_cases h : j = 6
  · subst h; rfl
  · simp only [upd, if_neg h]
    unfold rw11
    split <;> first | rfl | exact absurd rfl h
theorem ru11_7 (v0 v1 v2 v3 v4 v5 v6 v7 v8 v9 v10 x : Int32) : upd (rw11 v0 v1 v2 v3 v4 v5 v6 v7 v8 v9 v10) 7 x = rw11 v0 v1 v2 v3 v4 v5 v6 x v8 v9 v10 := funext fun j => by
  by_cases h : j = 7
  · subst h; rfl
  · simp only [upd, if_neg h]
    unfold rw11
    split <;> first | rfl | exact absurd rfl h
theorem ru11_8 (v0 v1 v2 v3 v4 v5 v6 v7 v8 v9 v10 x : Int32) : upd (rw11 v0 v1 v2 v3 v4 v5 v6 v7 v8 v9 v10) 8 x = rw11 v0 v1 v2 v3 v4 v5 v6 v7 x v9 v10 := funext fun j => by
  by_cases h : j = 8
  · subst h; rfl
  · simp only [upd, if_neg h]
    unfold rw11
    split <;> first | rfl | exact absurd rfl h
theorem ru11_9 (v0 v1 v2 v3 v4 v5 v6 v7 v8 v9 v10 x : Int32) : upd (rw11 v0 v1 v2 v3 v4 v5 v6 v7 v8 v9 v10) 9 x = rw11 v0 v1 v2 v3 v4 v5 v6 v7 v8 x v10 := funext fun j => by
  by_cases h : j = 9
  · subst h; rfl
  · simp only [upd, if_neg h]
    unfold rw11
    split <;> first | rfl | exact absurd rfl h
theorem ru11_10 (v0 v1 v2 v3 v4 v5 v6 v7 v8 v9 v10 x : Int32) : upd (rw11 v0 v1 v2 v3 v4 v5 v6 v7 v8 v9 v10) 10 x = rw11 v0 v1 v2 v3 v4 v5 v6 v7 v8 v9 x := funext fun j => by
  by_cases h : j = 10
  · subst h; rfl
  · simp only [upd, if_neg h]
    unfold rw11
    split <;> first | rfl | exact absurd rfl h
theorem ru13_0 (v0 v1 v2 v3 v4 v5 v6 v7 v8 v9 v10 v11 v12 x : Int32) : upd (rw13 v0 v1 v2 v3 v4 v5 v6 v7 v8 v9 v10 v11 v12) 0 x = rw13 x v1 v2 v3 v4 v5 v6 v7 v8 v9 v10 v11 v12 := funext fun j => by
  by_cases h : j = 0
  · subst h; rfl
  · simp only [upd, if_neg h]
    unfold rw13
    split <;> first | rfl | exact absurd rfl h
theorem ru13_1 (v0 v1 v2 v3 v4 v5 v6 v7 v8 v9 v10 v11 v12 x : Int32) : upd (rw13 v0 v1 v2 v3 v4 v5 v6 v7 v8 v9 v10 v11 v12) 1 x = rw13 v0 x v2 v3 v4 v5 v6 v7 v8 v9 v10 v11 v12 := funext fun j => by
  by_cases h : j = 1
  · subst h; rfl
  · simp only [upd, if_neg h]
    unfold rw13
    split <;> first | rfl | exact absurd rfl h
theorem ru13_2 (v0 v1 v2 v3 v4 v5 v6 v7 v8 v9 v10 v11 v12 x : Int32) : upd (rw13 v0 v1 v2 v3 v4 v5 v6 v7 v8 v9 v10 v11 v12) 2 x = rw13 v0 v1 x v3 v4 v5 v6 v7 v8 v9 v10 v11 v12 := funext fun j => by
  by_cases h : j = 2
  · subst h; rfl
  · simp only [upd, if_neg h]
    unfold rw13
    split <;> first | rfl | exact absurd rfl h
theorem ru13_3 (v0 v1 v2 v3 v4 v5 v6 v7 v8 v9 v10 v11 v12 x : Int32) : upd (rw13 v0 v1 v2 v3 v4 v5 v6 v7 v8 v9 v10 v11 v12) 3 x = rw13 v0 v1 v2 x v4 v5 v6 v7 v8 v9 v10 v11 v12 := funext fun j => by
  by_cases h : j = 3
  · subst h; rfl
  · simp only [upd, if_neg h]
    unfold rw13
    split <;> first | rfl | exact absurd rfl h
theorem ru13_4 (v0 v1 v2 v3 v4 v5 v6 v7 v8 v9 v10 v11 v12 x : Int32) : upd (rw13 v0 v1 v2 v3 v4 v5 v6 v7 v8 v9 v10 v11 v12) 4 x = rw13 v0 v1 v2 v3 x v5 v6 v7 v8 v9 v10 v11 v12 := funext fun j => by
  by_cases h : j = 4
  · subst h; rfl
  · simp only [upd, if_neg h]
    unfold rw13
    split <;> first | rfl | exact absurd rfl h
theorem ru13_5 (v0 v1 v2 v3 v4 v5 v6 v7 v8 v9 v10 v11 v12 x : Int32) : upd (rw13 v0 v1 v2 v3 v4 v5 v6 v7 v8 v9 v10 v11 v12) 5 x = rw13 v0 v1 v2 v3 v4 x v6 v7 v8 v9 v10 v11 v12 := funext fun j => by
  by_cases h : j = 5
  · subst h; rfl
  · simp only [upd, if_neg h]
    unfold rw13
    split <;> first | rfl | exact absurd rfl h
theorem ru13_6 (v0 v1 v2 v3 v4 v5 v6 v7 v8 v9 v10 v11 v12 x : Int32) : upd (rw13 v0 v1 v2 v3 v4 v5 v6 v7 v8 v9 v10 v11 v12) 6 x = rw13 v0 v1 v2 v3 v4 v5 x v7 v8 v9 v10 v11 v12 := funext fun j => by
  by_cases h : j = 6
  · subst h; rfl
  · simp only [upd, if_neg h]
    unfold rw13
    split <;> first | rfl | exact absurd rfl h
theorem ru13_7 (v0 v1 v2 v3 v4 v5 v6 v7 v8 v9 v10 v11 v12 x : Int32) : upd (rw13 v0 v1 v2 v3 v4 v5 v6 v7 v8 v9 v10 v11 v12) 7 x = rw13 v0 v1 v2 v3 v4 v5 v6 x v8 v9 v10 v11 v12 := funext fun j => by
  by_cases h : j = 7
  · subst h; rfl
  · simp only [upd, if_neg h]
    unfold rw13
    split <;> first | rfl | exact absurd rfl h
theorem ru13_8 (v0 v1 v2 v3 v4 v5 v6 v7 v8 v9 v10 v11 v12 x : Int32) : upd (rw13 v0 v1 v2 v3 v4 v5 v6 v7 v8 v9 v10 v11 v12) 8 x = rw13 v0 v1 v2 v3 v4 v5 v6 v7 x v9 v10 v11 v12 := funext fun j => by
  by_cases h : j = 8
  · subst h; rfl
  · simp only [upd, if_neg h]
    unfold rw13
    split <;> first | rfl | exact absurd rfl h
theorem ru13_9 (v0 v1 v2 v3 v4 v5 v6 v7 v8 v9 v10 v11 v12 x : Int32) : upd (rw13 v0 v1 v2 v3 v4 v5 v6 v7 v8 v9 v10 v11 v12) 9 x = rw13 v0 v1 v2 v3 v4 v5 v6 v7 v8 x v10 v11 v12 := funext fun j => by
  by_cases h : j = 9
  · subst h; rfl
  · simp only [upd, if_neg h]
    unfold rw13
    split <;> first | rfl | exact absurd rfl h
theorem ru13_10 (v0 v1 v2 v3 v4 v5 v6 v7 v8 v9 v10 v11 v12 x : Int32) : upd (rw13 v0 v1 v2 v3 v4 v5 v6 v7 v8 v9 v10 v11 v12) 10 x = rw13 v0 v1 v2 v3 v4 v5 v6 v7 v8 v9 x v11 v12 := funext fun j => by
  by_cases h : j = 10
  · subst h; rfl
  · simp only [upd, if_neg h]
    unfold rw13
    split <;> first | rfl | exact absurd rfl h
theorem ru13_11 (v0 v1 v2 v3 v4 v5 v6 v7 v8 v9 v10 v11 v12 x : Int32) : upd (rw13 v0 v1 v2 v3 v4 v5 v6 v7 v8 v9 v10 v11 v12) 11 x = rw13 v0 v1 v2 v3 v4 v5 v6 v7 v8 v9 v10 x v12 := funext fun j => by
  by_cases h : j = 11
  · subst h; rfl
  · simp only [upd, if_neg h]
    unfold rw13
    split <;> first | rfl | exact absurd rfl h
theorem ru13_12 (v0 v1 v2 v3 v4 v5 v6 v7 v8 v9 v10 v11 v12 x : Int32) : upd (rw13 v0 v1 v2 v3 v4 v5 v6 v7 v8 v9 v10 v11 v12) 12 x = rw13 v0 v1 v2 v3 v4 v5 v6 v7 v8 v9 v10 v11 x := funext fun j => by
  by_cases h : j = 12
  · subst h; rfl
  · simp only [upd, if_neg h]
    unfold rw13
    split <;> first | rfl | exact absurd rfl h
section GF
variable {p : Program} {l : Launch} {e : Env} {R : Room} {s : State} {m : MethodId} {args : Array Value} {below : List Frame} {meth : Method} {c : Code} {H : Heap} {locs : List Loc} {cells slots : Nat} {Q : State → Prop}
variable {cc : ByteArray} {pc a r : Nat} {ls : Array Slot} {rest : List Value} {G : GG} {M : HM}
theorem fg_Jx4a65c_9 {v0 v1 v2 : Value} (hx : p.tables.exec = Jvm.exec) (hb : c.code = cc) (hts : ∀ w ∈ AL, w.before args s = true) (hown : s.vm.findClass RJx4a65c = some m.cls) (hK : Kw G s) (hM : Wd G M s H locs) (ha : M a = some (r, .inr (0, [v0, v1, v2]))) (hdg : decode cc pc = .ok (.getfield 9, 3)) (kk : W p l e R s m args below meth c H locs cells slots Q (F0 m (pc + 3) ls (v1 :: rest))) : W p l e R s m args below meth c H locs cells slots Q (F0 m pc ls (.ref a :: rest)) :=
  g_get (own := RJx4a65c) (ref := "java/util/ArrayList") (C := RJx4a65c) (T := TJx4a65c) (N := 3) (ci := 0) (index := 9) hx hb hts hown hK hM iaJx4a65c rfl 1 (by decide) wf_Jx4a65c_9 (fun _ h => h) ha rfl hdg kk
theorem fg_Jx4a65c_48 {v0 v1 v2 : Value} (hx : p.tables.exec = Jvm.exec) (hb : c.code = cc) (hts : ∀ w ∈ AL, w.before args s = true) (hown : s.vm.findClass RJx4a65c = some m.cls) (hK : Kw G s) (hM : Wd G M s H locs) (ha : M a = some (r, .inr (0, [v0, v1, v2]))) (hdg : decode cc pc = .ok (.getfield 48, 3)) (kk : W p l e R s m args below meth c H locs cells slots Q (F0 m (pc + 3) ls (v2 :: rest))) : W p l e R s m args below meth c H locs cells slots Q (F0 m pc ls (.ref a :: rest)) :=
  g_get (own := RJx4a65c) (ref := "java/util/ArrayList") (C := RJx4a65c) (T := TJx4a65c) (N := 3) (ci := 0) (index := 48) hx hb hts hown hK hM iaJx4a65c rfl 2 (by decide) wf_Jx4a65c_48 (fun _ h => h) ha rfl hdg kk
theorem fg_Jx4a65c_63 {v0 v1 v2 : Value} (hx : p.tables.exec = Jvm.exec) (hb : c.code = cc) (hts : ∀ w ∈ AL, w.before args s = true) (hown : s.vm.findClass RJx4a65c = some m.cls) (hK : Kw G s) (hM : Wd G M s H locs) (ha : M a = some (r, .inr (0, [v0, v1, v2]))) (hdg : decode cc pc = .ok (.getfield 63, 3)) (kk : W p l e R s m args below meth c H locs cells slots Q (F0 m (pc + 3) ls (v0 :: rest))) : W p l e R s m args below meth c H locs cells slots Q (F0 m pc ls (.ref a :: rest)) :=
  g_get (own := RJx4a65c) (ref := "java/util/ArrayList") (C := RJx4a65c) (T := TJx4a65c) (N := 3) (ci := 0) (index := 63) hx hb hts hown hK hM iaJx4a65c rfl 0 (by decide) wf_Jx4a65c_63 (fun x9 h9 => u_same (hts _ ws_java_util_ArrayList_java_util_AbstractList_modCount_I) x9 h9) ha rfl hdg kk
theorem fg_X0_9 {v0 v1 v2 v3 v4 v5 v6 v7 v8 v9 v10 v11 : Value} (hx : p.tables.exec = Jvm.exec) (hb : c.code = cc) (hts : ∀ w ∈ AL, w.before args s = true) (hown : s.vm.findClass RX0 = some m.cls) (hK : Kw G s) (hM : Wd G M s H locs) (ha : M a = some (r, .inr (1, [v0, v1, v2, v3, v4, v5, v6, v7, v8, v9, v10, v11]))) (hdg : decode cc pc = .ok (.getfield 9, 3)) (kk : W p l e R s m args below meth c H locs cells slots Q (F0 m (pc + 3) ls (v4 :: rest))) : W p l e R s m args below meth c H locs cells slots Q (F0 m pc ls (.ref a :: rest)) :=
  g_get (own := RX0) (ref := "WheatRun$Combine") (C := RX0) (T := TX0) (N := 12) (ci := 1) (index := 9) hx hb hts hown hK hM iaX0 rfl 4 (by decide) wf_X0_9 (fun _ h => h) ha rfl hdg kk
theorem fg_X0_15 {v0 v1 v2 v3 v4 v5 v6 v7 v8 v9 v10 v11 : Value} (hx : p.tables.exec = Jvm.exec) (hb : c.code = cc) (hts : ∀ w ∈ AL, w.before args s = true) (hown : s.vm.findClass RX0 = some m.cls) (hK : Kw G s) (hM : Wd G M s H locs) (ha : M a = some (r, .inr (1, [v0, v1, v2, v3, v4, v5, v6, v7, v8, v9, v10, v11]))) (hdg : decode cc pc = .ok (.getfield 15, 3)) (kk : W p l e R s m args below meth c H locs cells slots Q (F0 m (pc + 3) ls (v9 :: rest))) : W p l e R s m args below meth c H locs cells slots Q (F0 m pc ls (.ref a :: rest)) :=
  g_get (own := RX0) (ref := "WheatRun$Combine") (C := RX0) (T := TX0) (N := 12) (ci := 1) (index := 15) hx hb hts hown hK hM iaX0 rfl 9 (by decide) wf_X0_15 (fun _ h => h) ha rfl hdg kk
theorem fg_X0_18 {v0 v1 v2 v3 v4 v5 v6 v7 v8 v9 v10 v11 : Value} (hx : p.tables.exec = Jvm.exec) (hb : c.code = cc) (hts : ∀ w ∈ AL, w.before args s = true) (hown : s.vm.findClass RX0 = some m.cls) (hK : Kw G s) (hM : Wd G M s H locs) (ha : M a = some (r, .inr (1, [v0, v1, v2, v3, v4, v5, v6, v7, v8, v9, v10, v11]))) (hdg : decode cc pc = .ok (.getfield 18, 3)) (kk : W p l e R s m args below meth c H locs cells slots Q (F0 m (pc + 3) ls (v0 :: rest))) : W p l e R s m args below meth c H locs cells slots Q (F0 m pc ls (.ref a :: rest)) :=
  g_get (own := RX0) (ref := "WheatRun$Combine") (C := RX0) (T := TX0) (N := 12) (ci := 1) (index := 18) hx hb hts hown hK hM iaX0 rfl 0 (by decide) wf_X0_18 (fun _ h => h) ha rfl hdg kk
theorem fg_X0_21 {v0 v1 v2 v3 v4 v5 v6 v7 v8 v9 v10 v11 : Value} (hx : p.tables.exec = Jvm.exec) (hb : c.code = cc) (hts : ∀ w ∈ AL, w.before args s = true) (hown : s.vm.findClass RX0 = some m.cls) (hK : Kw G s) (hM : Wd G M s H locs) (ha : M a = some (r, .inr (1, [v0, v1, v2, v3, v4, v5, v6, v7, v8, v9, v10, v11]))) (hdg : decode cc pc = .ok (.getfield 21, 3)) (kk : W p l e R s m args below meth c H locs cells slots Q (F0 m (pc + 3) ls (v1 :: rest))) : W p l e R s m args below meth c H locs cells slots Q (F0 m pc ls (.ref a :: rest)) :=
  g_get (own := RX0) (ref := "WheatRun$Combine") (C := RX0) (T := TX0) (N := 12) (ci := 1) (index := 21) hx hb hts hown hK hM iaX0 rfl 1 (by decide) wf_X0_21 (fun _ h => h) ha rfl hdg kk
theorem fg_X0_24 {v0 v1 v2 v3 v4 v5 v6 v7 v8 v9 v10 v11 : Value} (hx : p.tables.exec = Jvm.exec) (hb : c.code = cc) (hts : ∀ w ∈ AL, w.before args s = true) (hown : s.vm.findClass RX0 = some m.cls) (hK : Kw G s) (hM : Wd G M s H locs) (ha : M a = some (r, .inr (1, [v0, v1, v2, v3, v4, v5, v6, v7, v8, v9, v10, v11]))) (hdg : decode cc pc = .ok (.getfield 24, 3)) (kk : W p l e R s m args below meth c H locs cells slots Q (F0 m (pc + 3) ls (v2 :: rest))) : W p l e R s m args below meth c H locs cells slots Q (F0 m pc ls (.ref a :: rest)) :=
  g_get (own := RX0) (ref := "WheatRun$Combine") (C := RX0) (T := TX0) (N := 12) (ci := 1) (index := 24) hx hb hts hown hK hM iaX0 rfl 2 (by decide) wf_X0_24 (fun _ h => h) ha rfl hdg kk
theorem fg_X0_27 {v0 v1 v2 v3 v4 v5 v6 v7 v8 v9 v10 v11 : Value} (hx : p.tables.exec = Jvm.exec) (hb : c.code = cc) (hts : ∀ w ∈ AL, w.before args s = true) (hown : s.vm.findClass RX0 = some m.cls) (hK : Kw G s) (hM : Wd G M s H locs) (ha : M a = some (r, .inr (1, [v0, v1, v2, v3, v4, v5, v6, v7, v8, v9, v10, v11]))) (hdg : decode cc pc = .ok (.getfield 27, 3)) (kk : W p l e R s m args below meth c H locs cells slots Q (F0 m (pc + 3) ls (v3 :: rest))) : W p l e R s m args below meth c H locs cells slots Q (F0 m pc ls (.ref a :: rest)) :=
  g_get (own := RX0) (ref := "WheatRun$Combine") (C := RX0) (T := TX0) (N := 12) (ci := 1) (index := 27) hx hb hts hown hK hM iaX0 rfl 3 (by decide) wf_X0_27 (fun _ h => h) ha rfl hdg kk
theorem fg_X0_30 {v0 v1 v2 v3 v4 v5 v6 v7 v8 v9 v10 v11 : Value} (hx : p.tables.exec = Jvm.exec) (hb : c.code = cc) (hts : ∀ w ∈ AL, w.before args s = true) (hown : s.vm.findClass RX0 = some m.cls) (hK : Kw G s) (hM : Wd G M s H locs) (ha : M a = some (r, .inr (1, [v0, v1, v2, v3, v4, v5, v6, v7, v8, v9, v10, v11]))) (hdg : decode cc pc = .ok (.getfield 30, 3)) (kk : W p l e R s m args below meth c H locs cells slots Q (F0 m (pc + 3) ls (v5 :: rest))) : W p l e R s m args below meth c H locs cells slots Q (F0 m pc ls (.ref a :: rest)) :=
  g_get (own := RX0) (ref := "WheatRun$Combine") (C := RX0) (T := TX0) (N := 12) (ci := 1) (index := 30) hx hb hts hown hK hM iaX0 rfl 5 (by decide) wf_X0_30 (fun _ h => h) ha rfl hdg kk
theorem fg_X0_33 {v0 v1 v2 v3 v4 v5 v6 v7 v8 v9 v10 v11 : Value} (hx : p.tables.exec = Jvm.exec) (hb : c.code = cc) (hts : ∀ w ∈ AL, w.before args s = true) (hown : s.vm.findClass RX0 = some m.cls) (hK : Kw G s) (hM : Wd G M s H locs) (ha : M a = some (r, .inr (1, [v0, v1, v2, v3, v4, v5, v6, v7, v8, v9, v10, v11]))) (hdg : decode cc pc = .ok (.getfield 33, 3)) (kk : W p l e R s m args below meth c H locs cells slots Q (F0 m (pc + 3) ls (v6 :: rest))) : W p l e R s m args below meth c H locs cells slots Q (F0 m pc ls (.ref a :: rest)) :=
  g_get (own := RX0) (ref := "WheatRun$Combine") (C := RX0) (T := TX0) (N := 12) (ci := 1) (index := 33) hx hb hts hown hK hM iaX0 rfl 6 (by decide) wf_X0_33 (fun _ h => h) ha rfl hdg kk
theorem fg_X0_36 {v0 v1 v2 v3 v4 v5 v6 v7 v8 v9 v10 v11 : Value} (hx : p.tables.exec = Jvm.exec) (hb : c.code = cc) (hts : ∀ w ∈ AL, w.before args s = true) (hown : s.vm.findClass RX0 = some m.cls) (hK : Kw G s) (hM : Wd G M s H locs) (ha : M a = some (r, .inr (1, [v0, v1, v2, v3, v4, v5, v6, v7, v8, v9, v10, v11]))) (hdg : decode cc pc = .ok (.getfield 36, 3)) (kk : W p l e R s m args below meth c H locs cells slots Q (F0 m (pc + 3) ls (v7 :: rest))) : W p l e R s m args below meth c H locs cells slots Q (F0 m pc ls (.ref a :: rest)) :=
  g_get (own := RX0) (ref := "WheatRun$Combine") (C := RX0) (T := TX0) (N := 12) (ci := 1) (index := 36) hx hb hts hown hK hM iaX0 rfl 7 (by decide) wf_X0_36 (fun _ h => h) ha rfl hdg kk
theorem fg_X0_40 {v0 v1 v2 v3 v4 v5 v6 v7 v8 v9 v10 v11 : Value} (hx : p.tables.exec = Jvm.exec) (hb : c.code = cc) (hts : ∀ w ∈ AL, w.before args s = true) (hown : s.vm.findClass RX0 = some m.cls) (hK : Kw G s) (hM : Wd G M s H locs) (ha : M a = some (r, .inr (1, [v0, v1, v2, v3, v4, v5, v6, v7, v8, v9, v10, v11]))) (hdg : decode cc pc = .ok (.getfield 40, 3)) (kk : W p l e R s m args below meth c H locs cells slots Q (F0 m (pc + 3) ls (v8 :: rest))) : W p l e R s m args below meth c H locs cells slots Q (F0 m pc ls (.ref a :: rest)) :=
  g_get (own := RX0) (ref := "WheatRun$Combine") (C := RX0) (T := TX0) (N := 12) (ci := 1) (index := 40) hx hb hts hown hK hM iaX0 rfl 8 (by decide) wf_X0_40 (fun _ h => h) ha rfl hdg kk
theorem fg_X0_43 {v0 v1 v2 v3 v4 v5 v6 v7 v8 v9 v10 v11 : Value} (hx : p.tables.exec = Jvm.exec) (hb : c.code = cc) (hts : ∀ w ∈ AL, w.before args s = true) (hown : s.vm.findClass RX0 = some m.cls) (hK : Kw G s) (hM : Wd G M s H locs) (ha : M a = some (r, .inr (1, [v0, v1, v2, v3, v4, v5, v6, v7, v8, v9, v10, v11]))) (hdg : decode cc pc = .ok (.getfield 43, 3)) (kk : W p l e R s m args below meth c H locs cells slots Q (F0 m (pc + 3) ls (v10 :: rest))) : W p l e R s m args below meth c H locs cells slots Q (F0 m pc ls (.ref a :: rest)) :=
  g_get (own := RX0) (ref := "WheatRun$Combine") (C := RX0) (T := TX0) (N := 12) (ci := 1) (index := 43) hx hb hts hown hK hM iaX0 rfl 10 (by decide) wf_X0_43 (fun _ h => h) ha rfl hdg kk
theorem fg_X0_46 {v0 v1 v2 v3 v4 v5 v6 v7 v8 v9 v10 v11 : Value} (hx : p.tables.exec = Jvm.exec) (hb : c.code = cc) (hts : ∀ w ∈ AL, w.before args s = true) (hown : s.vm.findClass RX0 = some m.cls) (hK : Kw G s) (hM : Wd G M s H locs) (ha : M a = some (r, .inr (1, [v0, v1, v2, v3, v4, v5, v6, v7, v8, v9, v10, v11]))) (hdg : decode cc pc = .ok (.getfield 46, 3)) (kk : W p l e R s m args below meth c H locs cells slots Q (F0 m (pc + 3) ls (v11 :: rest))) : W p l e R s m args below meth c H locs cells slots Q (F0 m pc ls (.ref a :: rest)) :=
  g_get (own := RX0) (ref := "WheatRun$Combine") (C := RX0) (T := TX0) (N := 12) (ci := 1) (index := 46) hx hb hts hown hK hM iaX0 rfl 11 (by decide) wf_X0_46 (fun _ h => h) ha rfl hdg kk
theorem fg_X0_49 {v0 v1 v2 v3 v4 v5 v6 v7 v8 v9 v10 v11 v12 : Value} (hx : p.tables.exec = Jvm.exec) (hb : c.code = cc) (hts : ∀ w ∈ AL, w.before args s = true) (hown : s.vm.findClass RX0 = some m.cls) (hK : Kw G s) (hM : Wd G M s H locs) (ha : M a = some (r, .inr (3, [v0, v1, v2, v3, v4, v5, v6, v7, v8, v9, v10, v11, v12]))) (hdg : decode cc pc = .ok (.getfield 49, 3)) (kk : W p l e R s m args below meth c H locs cells slots Q (F0 m (pc + 3) ls (v1 :: rest))) : W p l e R s m args below meth c H locs cells slots Q (F0 m pc ls (.ref a :: rest)) :=
  g_get (own := RX0) (ref := "WheatRun$Field") (C := RX2) (T := TX2) (N := 13) (ci := 3) (index := 49) hx hb hts hown hK hM iaX2 rfl 1 (by decide) wf_X0_49 (fun _ h => h) ha rfl hdg kk
theorem fg_X0_85 {v0 v1 v2 v3 v4 v5 v6 v7 v8 v9 v10 v11 v12 : Value} (hx : p.tables.exec = Jvm.exec) (hb : c.code = cc) (hts : ∀ w ∈ AL, w.before args s = true) (hown : s.vm.findClass RX0 = some m.cls) (hK : Kw G s) (hM : Wd G M s H locs) (ha : M a = some (r, .inr (3, [v0, v1, v2, v3, v4, v5, v6, v7, v8, v9, v10, v11, v12]))) (hdg : decode cc pc = .ok (.getfield 85, 3)) (kk : W p l e R s m args below meth c H locs cells slots Q (F0 m (pc + 3) ls (v5 :: rest))) : W p l e R s m args below meth c H locs cells slots Q (F0 m pc ls (.ref a :: rest)) :=
  g_get (own := RX0) (ref := "WheatRun$Field") (C := RX2) (T := TX2) (N := 13) (ci := 3) (index := 85) hx hb hts hown hK hM iaX2 rfl 5 (by decide) wf_X0_85 (fun _ h => h) ha rfl hdg kk
theorem fg_X0_86 {v0 v1 v2 v3 v4 v5 v6 v7 v8 v9 v10 v11 v12 : Value} (hx : p.tables.exec = Jvm.exec) (hb : c.code = cc) (hts : ∀ w ∈ AL, w.before args s = true) (hown : s.vm.findClass RX0 = some m.cls) (hK : Kw G s) (hM : Wd G M s H locs) (ha : M a = some (r, .inr (3, [v0, v1, v2, v3, v4, v5, v6, v7, v8, v9, v10, v11, v12]))) (hdg : decode cc pc = .ok (.getfield 86, 3)) (kk : W p l e R s m args below meth c H locs cells slots Q (F0 m (pc + 3) ls (v9 :: rest))) : W p l e R s m args below meth c H locs cells slots Q (F0 m pc ls (.ref a :: rest)) :=
  g_get (own := RX0) (ref := "WheatRun$Field") (C := RX2) (T := TX2) (N := 13) (ci := 3) (index := 86) hx hb hts hown hK hM iaX2 rfl 9 (by decide) wf_X0_86 (fun _ h => h) ha rfl hdg kk
theorem fg_X0_93 {v0 v1 v2 v3 v4 v5 v6 v7 v8 v9 v10 v11 v12 : Value} (hx : p.tables.exec = Jvm.exec) (hb : c.code = cc) (hts : ∀ w ∈ AL, w.before args s = true) (hown : s.vm.findClass RX0 = some m.cls) (hK : Kw G s) (hM : Wd G M s H locs) (ha : M a = some (r, .inr (3, [v0, v1, v2, v3, v4, v5, v6, v7, v8, v9, v10, v11, v12]))) (hdg : decode cc pc = .ok (.getfield 93, 3)) (kk : W p l e R s m args below meth c H locs cells slots Q (F0 m (pc + 3) ls (v7 :: rest))) : W p l e R s m args below meth c H locs cells slots Q (F0 m pc ls (.ref a :: rest)) :=
  g_get (own := RX0) (ref := "WheatRun$Field") (C := RX2) (T := TX2) (N := 13) (ci := 3) (index := 93) hx hb hts hown hK hM iaX2 rfl 7 (by decide) wf_X0_93 (fun _ h => h) ha rfl hdg kk
theorem fg_X1_7 {v0 v1 v2 v3 v4 v5 : Value} (hx : p.tables.exec = Jvm.exec) (hb : c.code = cc) (hts : ∀ w ∈ AL, w.before args s = true) (hown : s.vm.findClass RX1 = some m.cls) (hK : Kw G s) (hM : Wd G M s H locs) (ha : M a = some (r, .inr (2, [v0, v1, v2, v3, v4, v5]))) (hdg : decode cc pc = .ok (.getfield 7, 3)) (kk : W p l e R s m args below meth c H locs cells slots Q (F0 m (pc + 3) ls (v0 :: rest))) : W p l e R s m args below meth c H locs cells slots Q (F0 m pc ls (.ref a :: rest)) :=
  g_get (own := RX1) (ref := "WheatRun$Elevator") (C := RX1) (T := TX1) (N := 6) (ci := 2) (index := 7) hx hb hts hown hK hM iaX1 rfl 0 (by decide) wf_X1_7 (fun _ h => h) ha rfl hdg kk
theorem fg_X1_13 {v0 v1 v2 v3 v4 v5 : Value} (hx : p.tables.exec = Jvm.exec) (hb : c.code = cc) (hts : ∀ w ∈ AL, w.before args s = true) (hown : s.vm.findClass RX1 = some m.cls) (hK : Kw G s) (hM : Wd G M s H locs) (ha : M a = some (r, .inr (2, [v0, v1, v2, v3, v4, v5]))) (hdg : decode cc pc = .ok (.getfield 13, 3)) (kk : W p l e R s m args below meth c H locs cells slots Q (F0 m (pc + 3) ls (v1 :: rest))) : W p l e R s m args below meth c H locs cells slots Q (F0 m pc ls (.ref a :: rest)) :=
  g_get (own := RX1) (ref := "WheatRun$Elevator") (C := RX1) (T := TX1) (N := 6) (ci := 2) (index := 13) hx hb hts hown hK hM iaX1 rfl 1 (by decide) wf_X1_13 (fun _ h => h) ha rfl hdg kk
theorem fg_X1_16 {v0 v1 v2 v3 v4 v5 : Value} (hx : p.tables.exec = Jvm.exec) (hb : c.code = cc) (hts : ∀ w ∈ AL, w.before args s = true) (hown : s.vm.findClass RX1 = some m.cls) (hK : Kw G s) (hM : Wd G M s H locs) (ha : M a = some (r, .inr (2, [v0, v1, v2, v3, v4, v5]))) (hdg : decode cc pc = .ok (.getfield 16, 3)) (kk : W p l e R s m args below meth c H locs cells slots Q (F0 m (pc + 3) ls (v2 :: rest))) : W p l e R s m args below meth c H locs cells slots Q (F0 m pc ls (.ref a :: rest)) :=
  g_get (own := RX1) (ref := "WheatRun$Elevator") (C := RX1) (T := TX1) (N := 6) (ci := 2) (index := 16) hx hb hts hown hK hM iaX1 rfl 2 (by decide) wf_X1_16 (fun _ h => h) ha rfl hdg kk
theorem fg_X1_19 {v0 v1 v2 v3 v4 v5 : Value} (hx : p.tables.exec = Jvm.exec) (hb : c.code = cc) (hts : ∀ w ∈ AL, w.before args s = true) (hown : s.vm.findClass RX1 = some m.cls) (hK : Kw G s) (hM : Wd G M s H locs) (ha : M a = some (r, .inr (2, [v0, v1, v2, v3, v4, v5]))) (hdg : decode cc pc = .ok (.getfield 19, 3)) (kk : W p l e R s m args below meth c H locs cells slots Q (F0 m (pc + 3) ls (v3 :: rest))) : W p l e R s m args below meth c H locs cells slots Q (F0 m pc ls (.ref a :: rest)) :=
  g_get (own := RX1) (ref := "WheatRun$Elevator") (C := RX1) (T := TX1) (N := 6) (ci := 2) (index := 19) hx hb hts hown hK hM iaX1 rfl 3 (by decide) wf_X1_19 (fun _ h => h) ha rfl hdg kk
theorem fg_X1_22 {v0 v1 v2 v3 v4 v5 : Value} (hx : p.tables.exec = Jvm.exec) (hb : c.code = cc) (hts : ∀ w ∈ AL, w.before args s = true) (hown : s.vm.findClass RX1 = some m.cls) (hK : Kw G s) (hM : Wd G M s H locs) (ha : M a = some (r, .inr (2, [v0, v1, v2, v3, v4, v5]))) (hdg : decode cc pc = .ok (.getfield 22, 3)) (kk : W p l e R s m args below meth c H locs cells slots Q (F0 m (pc + 3) ls (v4 :: rest))) : W p l e R s m args below meth c H locs cells slots Q (F0 m pc ls (.ref a :: rest)) :=
  g_get (own := RX1) (ref := "WheatRun$Elevator") (C := RX1) (T := TX1) (N := 6) (ci := 2) (index := 22) hx hb hts hown hK hM iaX1 rfl 4 (by decide) wf_X1_22 (fun _ h => h) ha rfl hdg kk
theorem fg_X1_25 {v0 v1 v2 v3 v4 v5 : Value} (hx : p.tables.exec = Jvm.exec) (hb : c.code = cc) (hts : ∀ w ∈ AL, w.before args s = true) (hown : s.vm.findClass RX1 = some m.cls) (hK : Kw G s) (hM : Wd G M s H locs) (ha : M a = some (r, .inr (2, [v0, v1, v2, v3, v4, v5]))) (hdg : decode cc pc = .ok (.getfield 25, 3)) (kk : W p l e R s m args below meth c H locs cells slots Q (F0 m (pc + 3) ls (v5 :: rest))) : W p l e R s m args below meth c H locs cells slots Q (F0 m pc ls (.ref a :: rest)) :=
  g_get (own := RX1) (ref := "WheatRun$Elevator") (C := RX1) (T := TX1) (N := 6) (ci := 2) (index := 25) hx hb hts hown hK hM iaX1 rfl 5 (by decide) wf_X1_25 (fun _ h => h) ha rfl hdg kk
theorem fg_X1_32 {v0 v1 v2 v3 v4 v5 v6 v7 v8 v9 : Value} (hx : p.tables.exec = Jvm.exec) (hb : c.code = cc) (hts : ∀ w ∈ AL, w.before args s = true) (hown : s.vm.findClass RX1 = some m.cls) (hK : Kw G s) (hM : Wd G M s H locs) (ha : M a = some (r, .inr (6, [v0, v1, v2, v3, v4, v5, v6, v7, v8, v9]))) (hdg : decode cc pc = .ok (.getfield 32, 3)) (kk : W p l e R s m args below meth c H locs cells slots Q (F0 m (pc + 3) ls (v4 :: rest))) : W p l e R s m args below meth c H locs cells slots Q (F0 m pc ls (.ref a :: rest)) :=
  g_get (own := RX1) (ref := "WheatRun$Truck") (C := RX5) (T := TX5) (N := 10) (ci := 6) (index := 32) hx hb hts hown hK hM iaX5 rfl 4 (by decide) wf_X1_32 (fun _ h => h) ha rfl hdg kk
theorem fg_X1_37 {v0 v1 v2 v3 v4 v5 v6 v7 v8 v9 : Value} (hx : p.tables.exec = Jvm.exec) (hb : c.code = cc) (hts : ∀ w ∈ AL, w.before args s = true) (hown : s.vm.findClass RX1 = some m.cls) (hK : Kw G s) (hM : Wd G M s H locs) (ha : M a = some (r, .inr (6, [v0, v1, v2, v3, v4, v5, v6, v7, v8, v9]))) (hdg : decode cc pc = .ok (.getfield 37, 3)) (kk : W p l e R s m args below meth c H locs cells slots Q (F0 m (pc + 3) ls (v2 :: rest))) : W p l e R s m args below meth c H locs cells slots Q (F0 m pc ls (.ref a :: rest)) :=
  g_get (own := RX1) (ref := "WheatRun$Truck") (C := RX5) (T := TX5) (N := 10) (ci := 6) (index := 37) hx hb hts hown hK hM iaX5 rfl 2 (by decide) wf_X1_37 (fun _ h => h) ha rfl hdg kk
theorem fg_X2_9 {v0 v1 v2 v3 v4 v5 v6 v7 v8 v9 v10 v11 v12 : Value} (hx : p.tables.exec = Jvm.exec) (hb : c.code = cc) (hts : ∀ w ∈ AL, w.before args s = true) (hown : s.vm.findClass RX2 = some m.cls) (hK : Kw G s) (hM : Wd G M s H locs) (ha : M a = some (r, .inr (3, [v0, v1, v2, v3, v4, v5, v6, v7, v8, v9, v10, v11, v12]))) (hdg : decode cc pc = .ok (.getfield 9, 3)) (kk : W p l e R s m args below meth c H locs cells slots Q (F0 m (pc + 3) ls (v7 :: rest))) : W p l e R s m args below meth c H locs cells slots Q (F0 m pc ls (.ref a :: rest)) :=
  g_get (own := RX2) (ref := "WheatRun$Field") (C := RX2) (T := TX2) (N := 13) (ci := 3) (index := 9) hx hb hts hown hK hM iaX2 rfl 7 (by decide) wf_X2_9 (fun _ h => h) ha rfl hdg kk
theorem fg_X2_15 {v0 v1 v2 v3 v4 v5 v6 v7 v8 v9 v10 v11 v12 : Value} (hx : p.tables.exec = Jvm.exec) (hb : c.code = cc) (hts : ∀ w ∈ AL, w.before args s = true) (hown : s.vm.findClass RX2 = some m.cls) (hK : Kw G s) (hM : Wd G M s H locs) (ha : M a = some (r, .inr (3, [v0, v1, v2, v3, v4, v5, v6, v7, v8, v9, v10, v11, v12]))) (hdg : decode cc pc = .ok (.getfield 15, 3)) (kk : W p l e R s m args below meth c H locs cells slots Q (F0 m (pc + 3) ls (v0 :: rest))) : W p l e R s m args below meth c H locs cells slots Q (F0 m pc ls (.ref a :: rest)) :=
  g_get (own := RX2) (ref := "WheatRun$Field") (C := RX2) (T := TX2) (N := 13) (ci := 3) (index := 15) hx hb hts hown hK hM iaX2 rfl 0 (by decide) wf_X2_15 (fun _ h => h) ha rfl hdg kk
theorem fg_X2_18 {v0 v1 v2 v3 v4 v5 v6 v7 v8 v9 v10 v11 v12 : Value} (hx : p.tables.exec = Jvm.exec) (hb : c.code = cc) (hts : ∀ w ∈ AL, w.before args s = true) (hown : s.vm.findClass RX2 = some m.cls) (hK : Kw G s) (hM : Wd G M s H locs) (ha : M a = some (r, .inr (3, [v0, v1, v2, v3, v4, v5, v6, v7, v8, v9, v10, v11, v12]))) (hdg : decode cc pc = .ok (.getfield 18, 3)) (kk : W p l e R s m args below meth c H locs cells slots Q (F0 m (pc + 3) ls (v1 :: rest))) : W p l e R s m args below meth c H locs cells slots Q (F0 m pc ls (.ref a :: rest)) :=
  g_get (own := RX2) (ref := "WheatRun$Field") (C := RX2) (T := TX2) (N := 13) (ci := 3) (index := 18) hx hb hts hown hK hM iaX2 rfl 1 (by decide) wf_X2_18 (fun _ h => h) ha rfl hdg kk
theorem fg_X2_21 {v0 v1 v2 v3 v4 v5 v6 v7 v8 v9 v10 v11 v12 : Value} (hx : p.tables.exec = Jvm.exec) (hb : c.code = cc) (hts : ∀ w ∈ AL, w.before args s = true) (hown : s.vm.findClass RX2 = some m.cls) (hK : Kw G s) (hM : Wd G M s H locs) (ha : M a = some (r, .inr (3, [v0, v1, v2, v3, v4, v5, v6, v7, v8, v9, v10, v11, v12]))) (hdg : decode cc pc = .ok (.getfield 21, 3)) (kk : W p l e R s m args below meth c H locs cells slots Q (F0 m (pc + 3) ls (v2 :: rest))) : W p l e R s m args below meth c H locs cells slots Q (F0 m pc ls (.ref a :: rest)) :=
  g_get (own := RX2) (ref := "WheatRun$Field") (C := RX2) (T := TX2) (N := 13) (ci := 3) (index := 21) hx hb hts hown hK hM iaX2 rfl 2 (by decide) wf_X2_21 (fun _ h => h) ha rfl hdg kk
theorem fg_X2_24 {v0 v1 v2 v3 v4 v5 v6 v7 v8 v9 v10 v11 v12 : Value} (hx : p.tables.exec = Jvm.exec) (hb : c.code = cc) (hts : ∀ w ∈ AL, w.before args s = true) (hown : s.vm.findClass RX2 = some m.cls) (hK : Kw G s) (hM : Wd G M s H locs) (ha : M a = some (r, .inr (3, [v0, v1, v2, v3, v4, v5, v6, v7, v8, v9, v10, v11, v12]))) (hdg : decode cc pc = .ok (.getfield 24, 3)) (kk : W p l e R s m args below meth c H locs cells slots Q (F0 m (pc + 3) ls (v3 :: rest))) : W p l e R s m args below meth c H locs cells slots Q (F0 m pc ls (.ref a :: rest)) :=
  g_get (own := RX2) (ref := "WheatRun$Field") (C := RX2) (T := TX2) (N := 13) (ci := 3) (index := 24) hx hb hts hown hK hM iaX2 rfl 3 (by decide) wf_X2_24 (fun _ h => h) ha rfl hdg kk
theorem fg_X2_27 {v0 v1 v2 v3 v4 v5 v6 v7 v8 v9 v10 v11 v12 : Value} (hx : p.tables.exec = Jvm.exec) (hb : c.code = cc) (hts : ∀ w ∈ AL, w.before args s = true) (hown : s.vm.findClass RX2 = some m.cls) (hK : Kw G s) (hM : Wd G M s H locs) (ha : M a = some (r, .inr (3, [v0, v1, v2, v3, v4, v5, v6, v7, v8, v9, v10, v11, v12]))) (hdg : decode cc pc = .ok (.getfield 27, 3)) (kk : W p l e R s m args below meth c H locs cells slots Q (F0 m (pc + 3) ls (v4 :: rest))) : W p l e R s m args below meth c H locs cells slots Q (F0 m pc ls (.ref a :: rest)) :=
  g_get (own := RX2) (ref := "WheatRun$Field") (C := RX2) (T := TX2) (N := 13) (ci := 3) (index := 27) hx hb hts hown hK hM iaX2 rfl 4 (by decide) wf_X2_27 (fun _ h => h) ha rfl hdg kk
theorem fg_X2_30 {v0 v1 v2 v3 v4 v5 v6 v7 v8 v9 v10 v11 v12 : Value} (hx : p.tables.exec = Jvm.exec) (hb : c.code = cc) (hts : ∀ w ∈ AL, w.before args s = true) (hown : s.vm.findClass RX2 = some m.cls) (hK : Kw G s) (hM : Wd G M s H locs) (ha : M a = some (r, .inr (3, [v0, v1, v2, v3, v4, v5, v6, v7, v8, v9, v10, v11, v12]))) (hdg : decode cc pc = .ok (.getfield 30, 3)) (kk : W p l e R s m args below meth c H locs cells slots Q (F0 m (pc + 3) ls (v5 :: rest))) : W p l e R s m args below meth c H locs cells slots Q (F0 m pc ls (.ref a :: rest)) :=
  g_get (own := RX2) (ref := "WheatRun$Field") (C := RX2) (T := TX2) (N := 13) (ci := 3) (index := 30) hx hb hts hown hK hM iaX2 rfl 5 (by decide) wf_X2_30 (fun _ h => h) ha rfl hdg kk
theorem fg_X2_33 {v0 v1 v2 v3 v4 v5 v6 v7 v8 v9 v10 v11 v12 : Value} (hx : p.tables.exec = Jvm.exec) (hb : c.code = cc) (hts : ∀ w ∈ AL, w.before args s = true) (hown : s.vm.findClass RX2 = some m.cls) (hK : Kw G s) (hM : Wd G M s H locs) (ha : M a = some (r, .inr (3, [v0, v1, v2, v3, v4, v5, v6, v7, v8, v9, v10, v11, v12]))) (hdg : decode cc pc = .ok (.getfield 33, 3)) (kk : W p l e R s m args below meth c H locs cells slots Q (F0 m (pc + 3) ls (v6 :: rest))) : W p l e R s m args below meth c H locs cells slots Q (F0 m pc ls (.ref a :: rest)) :=
  g_get (own := RX2) (ref := "WheatRun$Field") (C := RX2) (T := TX2) (N := 13) (ci := 3) (index := 33) hx hb hts hown hK hM iaX2 rfl 6 (by decide) wf_X2_33 (fun _ h => h) ha rfl hdg kk
theorem fg_X2_36 {v0 v1 v2 v3 v4 v5 v6 v7 v8 v9 v10 v11 v12 : Value} (hx : p.tables.exec = Jvm.exec) (hb : c.code = cc) (hts : ∀ w ∈ AL, w.before args s = true) (hown : s.vm.findClass RX2 = some m.cls) (hK : Kw G s) (hM : Wd G M s H locs) (ha : M a = some (r, .inr (3, [v0, v1, v2, v3, v4, v5, v6, v7, v8, v9, v10, v11, v12]))) (hdg : decode cc pc = .ok (.getfield 36, 3)) (kk : W p l e R s m args below meth c H locs cells slots Q (F0 m (pc + 3) ls (v8 :: rest))) : W p l e R s m args below meth c H locs cells slots Q (F0 m pc ls (.ref a :: rest)) :=
  g_get (own := RX2) (ref := "WheatRun$Field") (C := RX2) (T := TX2) (N := 13) (ci := 3) (index := 36) hx hb hts hown hK hM iaX2 rfl 8 (by decide) wf_X2_36 (fun _ h => h) ha rfl hdg kk
theorem fg_X2_39 {v0 v1 v2 v3 v4 v5 v6 v7 v8 v9 v10 v11 v12 : Value} (hx : p.tables.exec = Jvm.exec) (hb : c.code = cc) (hts : ∀ w ∈ AL, w.before args s = true) (hown : s.vm.findClass RX2 = some m.cls) (hK : Kw G s) (hM : Wd G M s H locs) (ha : M a = some (r, .inr (3, [v0, v1, v2, v3, v4, v5, v6, v7, v8, v9, v10, v11, v12]))) (hdg : decode cc pc = .ok (.getfield 39, 3)) (kk : W p l e R s m args below meth c H locs cells slots Q (F0 m (pc + 3) ls (v9 :: rest))) : W p l e R s m args below meth c H locs cells slots Q (F0 m pc ls (.ref a :: rest)) :=
  g_get (own := RX2) (ref := "WheatRun$Field") (C := RX2) (T := TX2) (N := 13) (ci := 3) (index := 39) hx hb hts hown hK hM iaX2 rfl 9 (by decide) wf_X2_39 (fun _ h => h) ha rfl hdg kk
theorem fg_X2_42 {v0 v1 v2 v3 v4 v5 v6 v7 v8 v9 v10 v11 v12 : Value} (hx : p.tables.exec = Jvm.exec) (hb : c.code = cc) (hts : ∀ w ∈ AL, w.before args s = true) (hown : s.vm.findClass RX2 = some m.cls) (hK : Kw G s) (hM : Wd G M s H locs) (ha : M a = some (r, .inr (3, [v0, v1, v2, v3, v4, v5, v6, v7, v8, v9, v10, v11, v12]))) (hdg : decode cc pc = .ok (.getfield 42, 3)) (kk : W p l e R s m args below meth c H locs cells slots Q (F0 m (pc + 3) ls (v10 :: rest))) : W p l e R s m args below meth c H locs cells slots Q (F0 m pc ls (.ref a :: rest)) :=
  g_get (own := RX2) (ref := "WheatRun$Field") (C := RX2) (T := TX2) (N := 13) (ci := 3) (index := 42) hx hb hts hown hK hM iaX2 rfl 10 (by decide) wf_X2_42 (fun _ h => h) ha rfl hdg kk
theorem fg_X2_45 {v0 v1 v2 v3 v4 v5 v6 v7 v8 v9 v10 v11 v12 : Value} (hx : p.tables.exec = Jvm.exec) (hb : c.code = cc) (hts : ∀ w ∈ AL, w.before args s = true) (hown : s.vm.findClass RX2 = some m.cls) (hK : Kw G s) (hM : Wd G M s H locs) (ha : M a = some (r, .inr (3, [v0, v1, v2, v3, v4, v5, v6, v7, v8, v9, v10, v11, v12]))) (hdg : decode cc pc = .ok (.getfield 45, 3)) (kk : W p l e R s m args below meth c H locs cells slots Q (F0 m (pc + 3) ls (v11 :: rest))) : W p l e R s m args below meth c H locs cells slots Q (F0 m pc ls (.ref a :: rest)) :=
  g_get (own := RX2) (ref := "WheatRun$Field") (C := RX2) (T := TX2) (N := 13) (ci := 3) (index := 45) hx hb hts hown hK hM iaX2 rfl 11 (by decide) wf_X2_45 (fun _ h => h) ha rfl hdg kk
theorem fg_X2_48 {v0 v1 v2 v3 v4 v5 v6 v7 v8 v9 v10 v11 v12 : Value} (hx : p.tables.exec = Jvm.exec) (hb : c.code = cc) (hts : ∀ w ∈ AL, w.before args s = true) (hown : s.vm.findClass RX2 = some m.cls) (hK : Kw G s) (hM : Wd G M s H locs) (ha : M a = some (r, .inr (3, [v0, v1, v2, v3, v4, v5, v6, v7, v8, v9, v10, v11, v12]))) (hdg : decode cc pc = .ok (.getfield 48, 3)) (kk : W p l e R s m args below meth c H locs cells slots Q (F0 m (pc + 3) ls (v12 :: rest))) : W p l e R s m args below meth c H locs cells slots Q (F0 m pc ls (.ref a :: rest)) :=
  g_get (own := RX2) (ref := "WheatRun$Field") (C := RX2) (T := TX2) (N := 13) (ci := 3) (index := 48) hx hb hts hown hK hM iaX2 rfl 12 (by decide) wf_X2_48 (fun _ h => h) ha rfl hdg kk
theorem fg_X3_12 {v0 v1 v2 v3 v4 v5 v6 v7 v8 : Value} (hx : p.tables.exec = Jvm.exec) (hb : c.code = cc) (hts : ∀ w ∈ AL, w.before args s = true) (hown : s.vm.findClass RX3 = some m.cls) (hK : Kw G s) (hM : Wd G M s H locs) (ha : M a = some (r, .inr (4, [v0, v1, v2, v3, v4, v5, v6, v7, v8]))) (hdg : decode cc pc = .ok (.getfield 12, 3)) (kk : W p l e R s m args below meth c H locs cells slots Q (F0 m (pc + 3) ls (v0 :: rest))) : W p l e R s m args below meth c H locs cells slots Q (F0 m pc ls (.ref a :: rest)) :=
  g_get (own := RX3) (ref := "WheatRun$Land") (C := RX3) (T := TX3) (N := 9) (ci := 4) (index := 12) hx hb hts hown hK hM iaX3 rfl 0 (by decide) wf_X3_12 (fun _ h => h) ha rfl hdg kk
theorem fg_X3_18 {v0 v1 v2 v3 v4 v5 v6 v7 v8 : Value} (hx : p.tables.exec = Jvm.exec) (hb : c.code = cc) (hts : ∀ w ∈ AL, w.before args s = true) (hown : s.vm.findClass RX3 = some m.cls) (hK : Kw G s) (hM : Wd G M s H locs) (ha : M a = some (r, .inr (4, [v0, v1, v2, v3, v4, v5, v6, v7, v8]))) (hdg : decode cc pc = .ok (.getfield 18, 3)) (kk : W p l e R s m args below meth c H locs cells slots Q (F0 m (pc + 3) ls (v1 :: rest))) : W p l e R s m args below meth c H locs cells slots Q (F0 m pc ls (.ref a :: rest)) :=
  g_get (own := RX3) (ref := "WheatRun$Land") (C := RX3) (T := TX3) (N := 9) (ci := 4) (index := 18) hx hb hts hown hK hM iaX3 rfl 1 (by decide) wf_X3_18 (fun _ h => h) ha rfl hdg kk
theorem fg_X3_21 {v0 v1 v2 v3 v4 v5 v6 v7 v8 : Value} (hx : p.tables.exec = Jvm.exec) (hb : c.code = cc) (hts : ∀ w ∈ AL, w.before args s = true) (hown : s.vm.findClass RX3 = some m.cls) (hK : Kw G s) (hM : Wd G M s H locs) (ha : M a = some (r, .inr (4, [v0, v1, v2, v3, v4, v5, v6, v7, v8]))) (hdg : decode cc pc = .ok (.getfield 21, 3)) (kk : W p l e R s m args below meth c H locs cells slots Q (F0 m (pc + 3) ls (v2 :: rest))) : W p l e R s m args below meth c H locs cells slots Q (F0 m pc ls (.ref a :: rest)) :=
  g_get (own := RX3) (ref := "WheatRun$Land") (C := RX3) (T := TX3) (N := 9) (ci := 4) (index := 21) hx hb hts hown hK hM iaX3 rfl 2 (by decide) wf_X3_21 (fun _ h => h) ha rfl hdg kk
theorem fg_X3_24 {v0 v1 v2 v3 v4 v5 v6 v7 v8 : Value} (hx : p.tables.exec = Jvm.exec) (hb : c.code = cc) (hts : ∀ w ∈ AL, w.before args s = true) (hown : s.vm.findClass RX3 = some m.cls) (hK : Kw G s) (hM : Wd G M s H locs) (ha : M a = some (r, .inr (4, [v0, v1, v2, v3, v4, v5, v6, v7, v8]))) (hdg : decode cc pc = .ok (.getfield 24, 3)) (kk : W p l e R s m args below meth c H locs cells slots Q (F0 m (pc + 3) ls (v3 :: rest))) : W p l e R s m args below meth c H locs cells slots Q (F0 m pc ls (.ref a :: rest)) :=
  g_get (own := RX3) (ref := "WheatRun$Land") (C := RX3) (T := TX3) (N := 9) (ci := 4) (index := 24) hx hb hts hown hK hM iaX3 rfl 3 (by decide) wf_X3_24 (fun _ h => h) ha rfl hdg kk
theorem fg_X3_27 {v0 v1 v2 v3 v4 v5 v6 v7 v8 : Value} (hx : p.tables.exec = Jvm.exec) (hb : c.code = cc) (hts : ∀ w ∈ AL, w.before args s = true) (hown : s.vm.findClass RX3 = some m.cls) (hK : Kw G s) (hM : Wd G M s H locs) (ha : M a = some (r, .inr (4, [v0, v1, v2, v3, v4, v5, v6, v7, v8]))) (hdg : decode cc pc = .ok (.getfield 27, 3)) (kk : W p l e R s m args below meth c H locs cells slots Q (F0 m (pc + 3) ls (v4 :: rest))) : W p l e R s m args below meth c H locs cells slots Q (F0 m pc ls (.ref a :: rest)) :=
  g_get (own := RX3) (ref := "WheatRun$Land") (C := RX3) (T := TX3) (N := 9) (ci := 4) (index := 27) hx hb hts hown hK hM iaX3 rfl 4 (by decide) wf_X3_27 (fun _ h => h) ha rfl hdg kk
theorem fg_X3_30 {v0 v1 v2 v3 v4 v5 v6 v7 v8 : Value} (hx : p.tables.exec = Jvm.exec) (hb : c.code = cc) (hts : ∀ w ∈ AL, w.before args s = true) (hown : s.vm.findClass RX3 = some m.cls) (hK : Kw G s) (hM : Wd G M s H locs) (ha : M a = some (r, .inr (4, [v0, v1, v2, v3, v4, v5, v6, v7, v8]))) (hdg : decode cc pc = .ok (.getfield 30, 3)) (kk : W p l e R s m args below meth c H locs cells slots Q (F0 m (pc + 3) ls (v7 :: rest))) : W p l e R s m args below meth c H locs cells slots Q (F0 m pc ls (.ref a :: rest)) :=
  g_get (own := RX3) (ref := "WheatRun$Land") (C := RX3) (T := TX3) (N := 9) (ci := 4) (index := 30) hx hb hts hown hK hM iaX3 rfl 7 (by decide) wf_X3_30 (fun _ h => h) ha rfl hdg kk
theorem fg_X3_34 {v0 v1 v2 v3 v4 v5 v6 v7 v8 : Value} (hx : p.tables.exec = Jvm.exec) (hb : c.code = cc) (hts : ∀ w ∈ AL, w.before args s = true) (hown : s.vm.findClass RX3 = some m.cls) (hK : Kw G s) (hM : Wd G M s H locs) (ha : M a = some (r, .inr (4, [v0, v1, v2, v3, v4, v5, v6, v7, v8]))) (hdg : decode cc pc = .ok (.getfield 34, 3)) (kk : W p l e R s m args below meth c H locs cells slots Q (F0 m (pc + 3) ls (v8 :: rest))) : W p l e R s m args below meth c H locs cells slots Q (F0 m pc ls (.ref a :: rest)) :=
  g_get (own := RX3) (ref := "WheatRun$Land") (C := RX3) (T := TX3) (N := 9) (ci := 4) (index := 34) hx hb hts hown hK hM iaX3 rfl 8 (by decide) wf_X3_34 (fun _ h => h) ha rfl hdg kk
theorem fg_X3_37 {v0 v1 v2 v3 v4 v5 v6 v7 v8 : Value} (hx : p.tables.exec = Jvm.exec) (hb : c.code = cc) (hts : ∀ w ∈ AL, w.before args s = true) (hown : s.vm.findClass RX3 = some m.cls) (hK : Kw G s) (hM : Wd G M s H locs) (ha : M a = some (r, .inr (4, [v0, v1, v2, v3, v4, v5, v6, v7, v8]))) (hdg : decode cc pc = .ok (.getfield 37, 3)) (kk : W p l e R s m args below meth c H locs cells slots Q (F0 m (pc + 3) ls (v5 :: rest))) : W p l e R s m args below meth c H locs cells slots Q (F0 m pc ls (.ref a :: rest)) :=
  g_get (own := RX3) (ref := "WheatRun$Land") (C := RX3) (T := TX3) (N := 9) (ci := 4) (index := 37) hx hb hts hown hK hM iaX3 rfl 5 (by decide) wf_X3_37 (fun _ h => h) ha rfl hdg kk
theorem fg_X3_41 {v0 v1 v2 v3 v4 v5 v6 v7 v8 : Value} (hx : p.tables.exec = Jvm.exec) (hb : c.code = cc) (hts : ∀ w ∈ AL, w.before args s = true) (hown : s.vm.findClass RX3 = some m.cls) (hK : Kw G s) (hM : Wd G M s H locs) (ha : M a = some (r, .inr (4, [v0, v1, v2, v3, v4, v5, v6, v7, v8]))) (hdg : decode cc pc = .ok (.getfield 41, 3)) (kk : W p l e R s m args below meth c H locs cells slots Q (F0 m (pc + 3) ls (v6 :: rest))) : W p l e R s m args below meth c H locs cells slots Q (F0 m pc ls (.ref a :: rest)) :=
  g_get (own := RX3) (ref := "WheatRun$Land") (C := RX3) (T := TX3) (N := 9) (ci := 4) (index := 41) hx hb hts hown hK hM iaX3 rfl 6 (by decide) wf_X3_41 (fun _ h => h) ha rfl hdg kk
theorem fg_X3_102 {v0 v1 v2 v3 v4 v5 v6 v7 v8 v9 v10 v11 : Value} (hx : p.tables.exec = Jvm.exec) (hb : c.code = cc) (hts : ∀ w ∈ AL, w.before args s = true) (hown : s.vm.findClass RX3 = some m.cls) (hK : Kw G s) (hM : Wd G M s H locs) (ha : M a = some (r, .inr (1, [v0, v1, v2, v3, v4, v5, v6, v7, v8, v9, v10, v11]))) (hdg : decode cc pc = .ok (.getfield 102, 3)) (kk : W p l e R s m args below meth c H locs cells slots Q (F0 m (pc + 3) ls (v9 :: rest))) : W p l e R s m args below meth c H locs cells slots Q (F0 m pc ls (.ref a :: rest)) :=
  g_get (own := RX3) (ref := "WheatRun$Combine") (C := RX0) (T := TX0) (N := 12) (ci := 1) (index := 102) hx hb hts hown hK hM iaX0 rfl 9 (by decide) wf_X3_102 (fun _ h => h) ha rfl hdg kk
theorem fg_X3_115 {v0 v1 v2 v3 v4 v5 v6 v7 v8 v9 : Value} (hx : p.tables.exec = Jvm.exec) (hb : c.code = cc) (hts : ∀ w ∈ AL, w.before args s = true) (hown : s.vm.findClass RX3 = some m.cls) (hK : Kw G s) (hM : Wd G M s H locs) (ha : M a = some (r, .inr (6, [v0, v1, v2, v3, v4, v5, v6, v7, v8, v9]))) (hdg : decode cc pc = .ok (.getfield 115, 3)) (kk : W p l e R s m args below meth c H locs cells slots Q (F0 m (pc + 3) ls (v7 :: rest))) : W p l e R s m args below meth c H locs cells slots Q (F0 m pc ls (.ref a :: rest)) :=
  g_get (own := RX3) (ref := "WheatRun$Truck") (C := RX5) (T := TX5) (N := 10) (ci := 6) (index := 115) hx hb hts hown hK hM iaX5 rfl 7 (by decide) wf_X3_115 (fun _ h => h) ha rfl hdg kk
theorem fg_X3_122 {v0 v1 v2 v3 v4 v5 v6 v7 v8 v9 : Value} (hx : p.tables.exec = Jvm.exec) (hb : c.code = cc) (hts : ∀ w ∈ AL, w.before args s = true) (hown : s.vm.findClass RX3 = some m.cls) (hK : Kw G s) (hM : Wd G M s H locs) (ha : M a = some (r, .inr (6, [v0, v1, v2, v3, v4, v5, v6, v7, v8, v9]))) (hdg : decode cc pc = .ok (.getfield 122, 3)) (kk : W p l e R s m args below meth c H locs cells slots Q (F0 m (pc + 3) ls (v8 :: rest))) : W p l e R s m args below meth c H locs cells slots Q (F0 m pc ls (.ref a :: rest)) :=
  g_get (own := RX3) (ref := "WheatRun$Truck") (C := RX5) (T := TX5) (N := 10) (ci := 6) (index := 122) hx hb hts hown hK hM iaX5 rfl 8 (by decide) wf_X3_122 (fun _ h => h) ha rfl hdg kk
theorem fg_X3_136 {v0 v1 v2 v3 v4 v5 v6 v7 v8 v9 : Value} (hx : p.tables.exec = Jvm.exec) (hb : c.code = cc) (hts : ∀ w ∈ AL, w.before args s = true) (hown : s.vm.findClass RX3 = some m.cls) (hK : Kw G s) (hM : Wd G M s H locs) (ha : M a = some (r, .inr (6, [v0, v1, v2, v3, v4, v5, v6, v7, v8, v9]))) (hdg : decode cc pc = .ok (.getfield 136, 3)) (kk : W p l e R s m args below meth c H locs cells slots Q (F0 m (pc + 3) ls (v0 :: rest))) : W p l e R s m args below meth c H locs cells slots Q (F0 m pc ls (.ref a :: rest)) :=
  g_get (own := RX3) (ref := "WheatRun$Truck") (C := RX5) (T := TX5) (N := 10) (ci := 6) (index := 136) hx hb hts hown hK hM iaX5 rfl 0 (by decide) wf_X3_136 (fun _ h => h) ha rfl hdg kk
theorem fg_X3_139 {v0 v1 v2 v3 v4 v5 v6 v7 v8 v9 v10 v11 : Value} (hx : p.tables.exec = Jvm.exec) (hb : c.code = cc) (hts : ∀ w ∈ AL, w.before args s = true) (hown : s.vm.findClass RX3 = some m.cls) (hK : Kw G s) (hM : Wd G M s H locs) (ha : M a = some (r, .inr (1, [v0, v1, v2, v3, v4, v5, v6, v7, v8, v9, v10, v11]))) (hdg : decode cc pc = .ok (.getfield 139, 3)) (kk : W p l e R s m args below meth c H locs cells slots Q (F0 m (pc + 3) ls (v1 :: rest))) : W p l e R s m args below meth c H locs cells slots Q (F0 m pc ls (.ref a :: rest)) :=
  g_get (own := RX3) (ref := "WheatRun$Combine") (C := RX0) (T := TX0) (N := 12) (ci := 1) (index := 139) hx hb hts hown hK hM iaX0 rfl 1 (by decide) wf_X3_139 (fun _ h => h) ha rfl hdg kk
theorem fg_X3_146 {v0 v1 v2 v3 v4 v5 : Value} (hx : p.tables.exec = Jvm.exec) (hb : c.code = cc) (hts : ∀ w ∈ AL, w.before args s = true) (hown : s.vm.findClass RX3 = some m.cls) (hK : Kw G s) (hM : Wd G M s H locs) (ha : M a = some (r, .inr (2, [v0, v1, v2, v3, v4, v5]))) (hdg : decode cc pc = .ok (.getfield 146, 3)) (kk : W p l e R s m args below meth c H locs cells slots Q (F0 m (pc + 3) ls (v0 :: rest))) : W p l e R s m args below meth c H locs cells slots Q (F0 m pc ls (.ref a :: rest)) :=
  g_get (own := RX3) (ref := "WheatRun$Elevator") (C := RX1) (T := TX1) (N := 6) (ci := 2) (index := 146) hx hb hts hown hK hM iaX1 rfl 0 (by decide) wf_X3_146 (fun _ h => h) ha rfl hdg kk
theorem fg_X3_147 {v0 v1 v2 v3 v4 v5 v6 v7 v8 v9 : Value} (hx : p.tables.exec = Jvm.exec) (hb : c.code = cc) (hts : ∀ w ∈ AL, w.before args s = true) (hown : s.vm.findClass RX3 = some m.cls) (hK : Kw G s) (hM : Wd G M s H locs) (ha : M a = some (r, .inr (6, [v0, v1, v2, v3, v4, v5, v6, v7, v8, v9]))) (hdg : decode cc pc = .ok (.getfield 147, 3)) (kk : W p l e R s m args below meth c H locs cells slots Q (F0 m (pc + 3) ls (v2 :: rest))) : W p l e R s m args below meth c H locs cells slots Q (F0 m pc ls (.ref a :: rest)) :=
  g_get (own := RX3) (ref := "WheatRun$Truck") (C := RX5) (T := TX5) (N := 10) (ci := 6) (index := 147) hx hb hts hown hK hM iaX5 rfl 2 (by decide) wf_X3_147 (fun _ h => h) ha rfl hdg kk
theorem fg_X3_158 {v0 v1 v2 v3 v4 v5 v6 v7 v8 v9 : Value} (hx : p.tables.exec = Jvm.exec) (hb : c.code = cc) (hts : ∀ w ∈ AL, w.before args s = true) (hown : s.vm.findClass RX3 = some m.cls) (hK : Kw G s) (hM : Wd G M s H locs) (ha : M a = some (r, .inr (6, [v0, v1, v2, v3, v4, v5, v6, v7, v8, v9]))) (hdg : decode cc pc = .ok (.getfield 158, 3)) (kk : W p l e R s m args below meth c H locs cells slots Q (F0 m (pc + 3) ls (v6 :: rest))) : W p l e R s m args below meth c H locs cells slots Q (F0 m pc ls (.ref a :: rest)) :=
  g_get (own := RX3) (ref := "WheatRun$Truck") (C := RX5) (T := TX5) (N := 10) (ci := 6) (index := 158) hx hb hts hown hK hM iaX5 rfl 6 (by decide) wf_X3_158 (fun _ h => h) ha rfl hdg kk
theorem fg_X3_161 {v0 v1 v2 v3 v4 v5 : Value} (hx : p.tables.exec = Jvm.exec) (hb : c.code = cc) (hts : ∀ w ∈ AL, w.before args s = true) (hown : s.vm.findClass RX3 = some m.cls) (hK : Kw G s) (hM : Wd G M s H locs) (ha : M a = some (r, .inr (2, [v0, v1, v2, v3, v4, v5]))) (hdg : decode cc pc = .ok (.getfield 161, 3)) (kk : W p l e R s m args below meth c H locs cells slots Q (F0 m (pc + 3) ls (v1 :: rest))) : W p l e R s m args below meth c H locs cells slots Q (F0 m pc ls (.ref a :: rest)) :=
  g_get (own := RX3) (ref := "WheatRun$Elevator") (C := RX1) (T := TX1) (N := 6) (ci := 2) (index := 161) hx hb hts hown hK hM iaX1 rfl 1 (by decide) wf_X3_161 (fun _ h => h) ha rfl hdg kk
theorem fg_X3_167 {v0 v1 v2 v3 v4 v5 v6 v7 v8 v9 : Value} (hx : p.tables.exec = Jvm.exec) (hb : c.code = cc) (hts : ∀ w ∈ AL, w.before args s = true) (hown : s.vm.findClass RX3 = some m.cls) (hK : Kw G s) (hM : Wd G M s H locs) (ha : M a = some (r, .inr (6, [v0, v1, v2, v3, v4, v5, v6, v7, v8, v9]))) (hdg : decode cc pc = .ok (.getfield 167, 3)) (kk : W p l e R s m args below meth c H locs cells slots Q (F0 m (pc + 3) ls (v4 :: rest))) : W p l e R s m args below meth c H locs cells slots Q (F0 m pc ls (.ref a :: rest)) :=
  g_get (own := RX3) (ref := "WheatRun$Truck") (C := RX5) (T := TX5) (N := 10) (ci := 6) (index := 167) hx hb hts hown hK hM iaX5 rfl 4 (by decide) wf_X3_167 (fun _ h => h) ha rfl hdg kk
theorem fg_X3_177 {v0 v1 v2 v3 v4 v5 v6 : Value} (hx : p.tables.exec = Jvm.exec) (hb : c.code = cc) (hts : ∀ w ∈ AL, w.before args s = true) (hown : s.vm.findClass RX3 = some m.cls) (hK : Kw G s) (hM : Wd G M s H locs) (ha : M a = some (r, .inr (5, [v0, v1, v2, v3, v4, v5, v6]))) (hdg : decode cc pc = .ok (.getfield 177, 3)) (kk : W p l e R s m args below meth c H locs cells slots Q (F0 m (pc + 3) ls (v1 :: rest))) : W p l e R s m args below meth c H locs cells slots Q (F0 m pc ls (.ref a :: rest)) :=
  g_get (own := RX3) (ref := "WheatRun$Ticket") (C := RX4) (T := TX4) (N := 7) (ci := 5) (index := 177) hx hb hts hown hK hM iaX4 rfl 1 (by decide) wf_X3_177 (fun _ h => h) ha rfl hdg kk
theorem fg_X3_180 {v0 v1 v2 v3 v4 v5 v6 : Value} (hx : p.tables.exec = Jvm.exec) (hb : c.code = cc) (hts : ∀ w ∈ AL, w.before args s = true) (hown : s.vm.findClass RX3 = some m.cls) (hK : Kw G s) (hM : Wd G M s H locs) (ha : M a = some (r, .inr (5, [v0, v1, v2, v3, v4, v5, v6]))) (hdg : decode cc pc = .ok (.getfield 180, 3)) (kk : W p l e R s m args below meth c H locs cells slots Q (F0 m (pc + 3) ls (v0 :: rest))) : W p l e R s m args below meth c H locs cells slots Q (F0 m pc ls (.ref a :: rest)) :=
  g_get (own := RX3) (ref := "WheatRun$Ticket") (C := RX4) (T := TX4) (N := 7) (ci := 5) (index := 180) hx hb hts hown hK hM iaX4 rfl 0 (by decide) wf_X3_180 (fun _ h => h) ha rfl hdg kk
theorem fg_X3_183 {v0 v1 v2 v3 v4 v5 v6 : Value} (hx : p.tables.exec = Jvm.exec) (hb : c.code = cc) (hts : ∀ w ∈ AL, w.before args s = true) (hown : s.vm.findClass RX3 = some m.cls) (hK : Kw G s) (hM : Wd G M s H locs) (ha : M a = some (r, .inr (5, [v0, v1, v2, v3, v4, v5, v6]))) (hdg : decode cc pc = .ok (.getfield 183, 3)) (kk : W p l e R s m args below meth c H locs cells slots Q (F0 m (pc + 3) ls (v6 :: rest))) : W p l e R s m args below meth c H locs cells slots Q (F0 m pc ls (.ref a :: rest)) :=
  g_get (own := RX3) (ref := "WheatRun$Ticket") (C := RX4) (T := TX4) (N := 7) (ci := 5) (index := 183) hx hb hts hown hK hM iaX4 rfl 6 (by decide) wf_X3_183 (fun _ h => h) ha rfl hdg kk
theorem fg_X3_190 {v0 v1 v2 v3 v4 v5 v6 v7 v8 v9 v10 v11 : Value} (hx : p.tables.exec = Jvm.exec) (hb : c.code = cc) (hts : ∀ w ∈ AL, w.before args s = true) (hown : s.vm.findClass RX3 = some m.cls) (hK : Kw G s) (hM : Wd G M s H locs) (ha : M a = some (r, .inr (1, [v0, v1, v2, v3, v4, v5, v6, v7, v8, v9, v10, v11]))) (hdg : decode cc pc = .ok (.getfield 190, 3)) (kk : W p l e R s m args below meth c H locs cells slots Q (F0 m (pc + 3) ls (v4 :: rest))) : W p l e R s m args below meth c H locs cells slots Q (F0 m pc ls (.ref a :: rest)) :=
  g_get (own := RX3) (ref := "WheatRun$Combine") (C := RX0) (T := TX0) (N := 12) (ci := 1) (index := 190) hx hb hts hown hK hM iaX0 rfl 4 (by decide) wf_X3_190 (fun _ h => h) ha rfl hdg kk
theorem fg_X3_193 {v0 v1 v2 v3 v4 v5 v6 v7 v8 v9 v10 v11 : Value} (hx : p.tables.exec = Jvm.exec) (hb : c.code = cc) (hts : ∀ w ∈ AL, w.before args s = true) (hown : s.vm.findClass RX3 = some m.cls) (hK : Kw G s) (hM : Wd G M s H locs) (ha : M a = some (r, .inr (1, [v0, v1, v2, v3, v4, v5, v6, v7, v8, v9, v10, v11]))) (hdg : decode cc pc = .ok (.getfield 193, 3)) (kk : W p l e R s m args below meth c H locs cells slots Q (F0 m (pc + 3) ls (v3 :: rest))) : W p l e R s m args below meth c H locs cells slots Q (F0 m pc ls (.ref a :: rest)) :=
  g_get (own := RX3) (ref := "WheatRun$Combine") (C := RX0) (T := TX0) (N := 12) (ci := 1) (index := 193) hx hb hts hown hK hM iaX0 rfl 3 (by decide) wf_X3_193 (fun _ h => h) ha rfl hdg kk
theorem fg_X3_196 {v0 v1 v2 v3 v4 v5 v6 v7 v8 v9 : Value} (hx : p.tables.exec = Jvm.exec) (hb : c.code = cc) (hts : ∀ w ∈ AL, w.before args s = true) (hown : s.vm.findClass RX3 = some m.cls) (hK : Kw G s) (hM : Wd G M s H locs) (ha : M a = some (r, .inr (6, [v0, v1, v2, v3, v4, v5, v6, v7, v8, v9]))) (hdg : decode cc pc = .ok (.getfield 196, 3)) (kk : W p l e R s m args below meth c H locs cells slots Q (F0 m (pc + 3) ls (v3 :: rest))) : W p l e R s m args below meth c H locs cells slots Q (F0 m pc ls (.ref a :: rest)) :=
  g_get (own := RX3) (ref := "WheatRun$Truck") (C := RX5) (T := TX5) (N := 10) (ci := 6) (index := 196) hx hb hts hown hK hM iaX5 rfl 3 (by decide) wf_X3_196 (fun _ h => h) ha rfl hdg kk
theorem fg_X3_202 {v0 v1 v2 v3 v4 v5 v6 v7 v8 v9 v10 v11 : Value} (hx : p.tables.exec = Jvm.exec) (hb : c.code = cc) (hts : ∀ w ∈ AL, w.before args s = true) (hown : s.vm.findClass RX3 = some m.cls) (hK : Kw G s) (hM : Wd G M s H locs) (ha : M a = some (r, .inr (1, [v0, v1, v2, v3, v4, v5, v6, v7, v8, v9, v10, v11]))) (hdg : decode cc pc = .ok (.getfield 202, 3)) (kk : W p l e R s m args below meth c H locs cells slots Q (F0 m (pc + 3) ls (v7 :: rest))) : W p l e R s m args below meth c H locs cells slots Q (F0 m pc ls (.ref a :: rest)) :=
  g_get (own := RX3) (ref := "WheatRun$Combine") (C := RX0) (T := TX0) (N := 12) (ci := 1) (index := 202) hx hb hts hown hK hM iaX0 rfl 7 (by decide) wf_X3_202 (fun _ h => h) ha rfl hdg kk
theorem fg_X3_205 {v0 v1 v2 v3 v4 v5 v6 v7 v8 v9 v10 v11 : Value} (hx : p.tables.exec = Jvm.exec) (hb : c.code = cc) (hts : ∀ w ∈ AL, w.before args s = true) (hown : s.vm.findClass RX3 = some m.cls) (hK : Kw G s) (hM : Wd G M s H locs) (ha : M a = some (r, .inr (1, [v0, v1, v2, v3, v4, v5, v6, v7, v8, v9, v10, v11]))) (hdg : decode cc pc = .ok (.getfield 205, 3)) (kk : W p l e R s m args below meth c H locs cells slots Q (F0 m (pc + 3) ls (v8 :: rest))) : W p l e R s m args below meth c H locs cells slots Q (F0 m pc ls (.ref a :: rest)) :=
  g_get (own := RX3) (ref := "WheatRun$Combine") (C := RX0) (T := TX0) (N := 12) (ci := 1) (index := 205) hx hb hts hown hK hM iaX0 rfl 8 (by decide) wf_X3_205 (fun _ h => h) ha rfl hdg kk
theorem fg_X4_7 {v0 v1 v2 v3 v4 v5 v6 v7 v8 v9 : Value} (hx : p.tables.exec = Jvm.exec) (hb : c.code = cc) (hts : ∀ w ∈ AL, w.before args s = true) (hown : s.vm.findClass RX4 = some m.cls) (hK : Kw G s) (hM : Wd G M s H locs) (ha : M a = some (r, .inr (6, [v0, v1, v2, v3, v4, v5, v6, v7, v8, v9]))) (hdg : decode cc pc = .ok (.getfield 7, 3)) (kk : W p l e R s m args below meth c H locs cells slots Q (F0 m (pc + 3) ls (v3 :: rest))) : W p l e R s m args below meth c H locs cells slots Q (F0 m pc ls (.ref a :: rest)) :=
  g_get (own := RX4) (ref := "WheatRun$Truck") (C := RX5) (T := TX5) (N := 10) (ci := 6) (index := 7) hx hb hts hown hK hM iaX5 rfl 3 (by decide) wf_X4_7 (fun _ h => h) ha rfl hdg kk
theorem fg_X4_18 {v0 v1 v2 v3 v4 v5 v6 v7 v8 v9 : Value} (hx : p.tables.exec = Jvm.exec) (hb : c.code = cc) (hts : ∀ w ∈ AL, w.before args s = true) (hown : s.vm.findClass RX4 = some m.cls) (hK : Kw G s) (hM : Wd G M s H locs) (ha : M a = some (r, .inr (6, [v0, v1, v2, v3, v4, v5, v6, v7, v8, v9]))) (hdg : decode cc pc = .ok (.getfield 18, 3)) (kk : W p l e R s m args below meth c H locs cells slots Q (F0 m (pc + 3) ls (v2 :: rest))) : W p l e R s m args below meth c H locs cells slots Q (F0 m pc ls (.ref a :: rest)) :=
  g_get (own := RX4) (ref := "WheatRun$Truck") (C := RX5) (T := TX5) (N := 10) (ci := 6) (index := 18) hx hb hts hown hK hM iaX5 rfl 2 (by decide) wf_X4_18 (fun _ h => h) ha rfl hdg kk
theorem fg_X4_24 {v0 v1 v2 v3 v4 v5 v6 v7 v8 v9 : Value} (hx : p.tables.exec = Jvm.exec) (hb : c.code = cc) (hts : ∀ w ∈ AL, w.before args s = true) (hown : s.vm.findClass RX4 = some m.cls) (hK : Kw G s) (hM : Wd G M s H locs) (ha : M a = some (r, .inr (6, [v0, v1, v2, v3, v4, v5, v6, v7, v8, v9]))) (hdg : decode cc pc = .ok (.getfield 24, 3)) (kk : W p l e R s m args below meth c H locs cells slots Q (F0 m (pc + 3) ls (v4 :: rest))) : W p l e R s m args below meth c H locs cells slots Q (F0 m pc ls (.ref a :: rest)) :=
  g_get (own := RX4) (ref := "WheatRun$Truck") (C := RX5) (T := TX5) (N := 10) (ci := 6) (index := 24) hx hb hts hown hK hM iaX5 rfl 4 (by decide) wf_X4_24 (fun _ h => h) ha rfl hdg kk
theorem fg_X4_31 {v0 v1 v2 v3 v4 v5 v6 v7 v8 v9 : Value} (hx : p.tables.exec = Jvm.exec) (hb : c.code = cc) (hts : ∀ w ∈ AL, w.before args s = true) (hown : s.vm.findClass RX4 = some m.cls) (hK : Kw G s) (hM : Wd G M s H locs) (ha : M a = some (r, .inr (6, [v0, v1, v2, v3, v4, v5, v6, v7, v8, v9]))) (hdg : decode cc pc = .ok (.getfield 31, 3)) (kk : W p l e R s m args below meth c H locs cells slots Q (F0 m (pc + 3) ls (v8 :: rest))) : W p l e R s m args below meth c H locs cells slots Q (F0 m pc ls (.ref a :: rest)) :=
  g_get (own := RX4) (ref := "WheatRun$Truck") (C := RX5) (T := TX5) (N := 10) (ci := 6) (index := 31) hx hb hts hown hK hM iaX5 rfl 8 (by decide) wf_X4_31 (fun _ h => h) ha rfl hdg kk
theorem fg_X5_9 {v0 v1 v2 v3 v4 v5 v6 v7 v8 v9 : Value} (hx : p.tables.exec = Jvm.exec) (hb : c.code = cc) (hts : ∀ w ∈ AL, w.before args s = true) (hown : s.vm.findClass RX5 = some m.cls) (hK : Kw G s) (hM : Wd G M s H locs) (ha : M a = some (r, .inr (6, [v0, v1, v2, v3, v4, v5, v6, v7, v8, v9]))) (hdg : decode cc pc = .ok (.getfield 9, 3)) (kk : W p l e R s m args below meth c H locs cells slots Q (F0 m (pc + 3) ls (v3 :: rest))) : W p l e R s m args below meth c H locs cells slots Q (F0 m pc ls (.ref a :: rest)) :=
  g_get (own := RX5) (ref := "WheatRun$Truck") (C := RX5) (T := TX5) (N := 10) (ci := 6) (index := 9) hx hb hts hown hK hM iaX5 rfl 3 (by decide) wf_X5_9 (fun _ h => h) ha rfl hdg kk
theorem fg_X5_15 {v0 v1 v2 v3 v4 v5 v6 v7 v8 v9 : Value} (hx : p.tables.exec = Jvm.exec) (hb : c.code = cc) (hts : ∀ w ∈ AL, w.before args s = true) (hown : s.vm.findClass RX5 = some m.cls) (hK : Kw G s) (hM : Wd G M s H locs) (ha : M a = some (r, .inr (6, [v0, v1, v2, v3, v4, v5, v6, v7, v8, v9]))) (hdg : decode cc pc = .ok (.getfield 15, 3)) (kk : W p l e R s m args below meth c H locs cells slots Q (F0 m (pc + 3) ls (v7 :: rest))) : W p l e R s m args below meth c H locs cells slots Q (F0 m pc ls (.ref a :: rest)) :=
  g_get (own := RX5) (ref := "WheatRun$Truck") (C := RX5) (T := TX5) (N := 10) (ci := 6) (index := 15) hx hb hts hown hK hM iaX5 rfl 7 (by decide) wf_X5_15 (fun _ h => h) ha rfl hdg kk
theorem fg_X5_18 {v0 v1 v2 v3 v4 v5 v6 v7 v8 v9 : Value} (hx : p.tables.exec = Jvm.exec) (hb : c.code = cc) (hts : ∀ w ∈ AL, w.before args s = true) (hown : s.vm.findClass RX5 = some m.cls) (hK : Kw G s) (hM : Wd G M s H locs) (ha : M a = some (r, .inr (6, [v0, v1, v2, v3, v4, v5, v6, v7, v8, v9]))) (hdg : decode cc pc = .ok (.getfield 18, 3)) (kk : W p l e R s m args below meth c H locs cells slots Q (F0 m (pc + 3) ls (v8 :: rest))) : W p l e R s m args below meth c H locs cells slots Q (F0 m pc ls (.ref a :: rest)) :=
  g_get (own := RX5) (ref := "WheatRun$Truck") (C := RX5) (T := TX5) (N := 10) (ci := 6) (index := 18) hx hb hts hown hK hM iaX5 rfl 8 (by decide) wf_X5_18 (fun _ h => h) ha rfl hdg kk
theorem fg_X5_21 {v0 v1 v2 v3 v4 v5 v6 v7 v8 v9 : Value} (hx : p.tables.exec = Jvm.exec) (hb : c.code = cc) (hts : ∀ w ∈ AL, w.before args s = true) (hown : s.vm.findClass RX5 = some m.cls) (hK : Kw G s) (hM : Wd G M s H locs) (ha : M a = some (r, .inr (6, [v0, v1, v2, v3, v4, v5, v6, v7, v8, v9]))) (hdg : decode cc pc = .ok (.getfield 21, 3)) (kk : W p l e R s m args below meth c H locs cells slots Q (F0 m (pc + 3) ls (v0 :: rest))) : W p l e R s m args below meth c H locs cells slots Q (F0 m pc ls (.ref a :: rest)) :=
  g_get (own := RX5) (ref := "WheatRun$Truck") (C := RX5) (T := TX5) (N := 10) (ci := 6) (index := 21) hx hb hts hown hK hM iaX5 rfl 0 (by decide) wf_X5_21 (fun _ h => h) ha rfl hdg kk
theorem fg_X5_24 {v0 v1 v2 v3 v4 v5 v6 v7 v8 v9 : Value} (hx : p.tables.exec = Jvm.exec) (hb : c.code = cc) (hts : ∀ w ∈ AL, w.before args s = true) (hown : s.vm.findClass RX5 = some m.cls) (hK : Kw G s) (hM : Wd G M s H locs) (ha : M a = some (r, .inr (6, [v0, v1, v2, v3, v4, v5, v6, v7, v8, v9]))) (hdg : decode cc pc = .ok (.getfield 24, 3)) (kk : W p l e R s m args below meth c H locs cells slots Q (F0 m (pc + 3) ls (v1 :: rest))) : W p l e R s m args below meth c H locs cells slots Q (F0 m pc ls (.ref a :: rest)) :=
  g_get (own := RX5) (ref := "WheatRun$Truck") (C := RX5) (T := TX5) (N := 10) (ci := 6) (index := 24) hx hb hts hown hK hM iaX5 rfl 1 (by decide) wf_X5_24 (fun _ h => h) ha rfl hdg kk
theorem fg_X5_27 {v0 v1 v2 v3 v4 v5 v6 v7 v8 v9 : Value} (hx : p.tables.exec = Jvm.exec) (hb : c.code = cc) (hts : ∀ w ∈ AL, w.before args s = true) (hown : s.vm.findClass RX5 = some m.cls) (hK : Kw G s) (hM : Wd G M s H locs) (ha : M a = some (r, .inr (6, [v0, v1, v2, v3, v4, v5, v6, v7, v8, v9]))) (hdg : decode cc pc = .ok (.getfield 27, 3)) (kk : W p l e R s m args below meth c H locs cells slots Q (F0 m (pc + 3) ls (v2 :: rest))) : W p l e R s m args below meth c H locs cells slots Q (F0 m pc ls (.ref a :: rest)) :=
  g_get (own := RX5) (ref := "WheatRun$Truck") (C := RX5) (T := TX5) (N := 10) (ci := 6) (index := 27) hx hb hts hown hK hM iaX5 rfl 2 (by decide) wf_X5_27 (fun _ h => h) ha rfl hdg kk
theorem fg_X5_30 {v0 v1 v2 v3 v4 v5 v6 v7 v8 v9 : Value} (hx : p.tables.exec = Jvm.exec) (hb : c.code = cc) (hts : ∀ w ∈ AL, w.before args s = true) (hown : s.vm.findClass RX5 = some m.cls) (hK : Kw G s) (hM : Wd G M s H locs) (ha : M a = some (r, .inr (6, [v0, v1, v2, v3, v4, v5, v6, v7, v8, v9]))) (hdg : decode cc pc = .ok (.getfield 30, 3)) (kk : W p l e R s m args below meth c H locs cells slots Q (F0 m (pc + 3) ls (v4 :: rest))) : W p l e R s m args below meth c H locs cells slots Q (F0 m pc ls (.ref a :: rest)) :=
  g_get (own := RX5) (ref := "WheatRun$Truck") (C := RX5) (T := TX5) (N := 10) (ci := 6) (index := 30) hx hb hts hown hK hM iaX5 rfl 4 (by decide) wf_X5_30 (fun _ h => h) ha rfl hdg kk
theorem fg_X5_33 {v0 v1 v2 v3 v4 v5 v6 v7 v8 v9 : Value} (hx : p.tables.exec = Jvm.exec) (hb : c.code = cc) (hts : ∀ w ∈ AL, w.before args s = true) (hown : s.vm.findClass RX5 = some m.cls) (hK : Kw G s) (hM : Wd G M s H locs) (ha : M a = some (r, .inr (6, [v0, v1, v2, v3, v4, v5, v6, v7, v8, v9]))) (hdg : decode cc pc = .ok (.getfield 33, 3)) (kk : W p l e R s m args below meth c H locs cells slots Q (F0 m (pc + 3) ls (v5 :: rest))) : W p l e R s m args below meth c H locs cells slots Q (F0 m pc ls (.ref a :: rest)) :=
  g_get (own := RX5) (ref := "WheatRun$Truck") (C := RX5) (T := TX5) (N := 10) (ci := 6) (index := 33) hx hb hts hown hK hM iaX5 rfl 5 (by decide) wf_X5_33 (fun _ h => h) ha rfl hdg kk
theorem fg_X5_36 {v0 v1 v2 v3 v4 v5 v6 v7 v8 v9 : Value} (hx : p.tables.exec = Jvm.exec) (hb : c.code = cc) (hts : ∀ w ∈ AL, w.before args s = true) (hown : s.vm.findClass RX5 = some m.cls) (hK : Kw G s) (hM : Wd G M s H locs) (ha : M a = some (r, .inr (6, [v0, v1, v2, v3, v4, v5, v6, v7, v8, v9]))) (hdg : decode cc pc = .ok (.getfield 36, 3)) (kk : W p l e R s m args below meth c H locs cells slots Q (F0 m (pc + 3) ls (v6 :: rest))) : W p l e R s m args below meth c H locs cells slots Q (F0 m pc ls (.ref a :: rest)) :=
  g_get (own := RX5) (ref := "WheatRun$Truck") (C := RX5) (T := TX5) (N := 10) (ci := 6) (index := 36) hx hb hts hown hK hM iaX5 rfl 6 (by decide) wf_X5_36 (fun _ h => h) ha rfl hdg kk
theorem fg_X5_39 {v0 v1 v2 v3 v4 v5 v6 v7 v8 v9 : Value} (hx : p.tables.exec = Jvm.exec) (hb : c.code = cc) (hts : ∀ w ∈ AL, w.before args s = true) (hown : s.vm.findClass RX5 = some m.cls) (hK : Kw G s) (hM : Wd G M s H locs) (ha : M a = some (r, .inr (6, [v0, v1, v2, v3, v4, v5, v6, v7, v8, v9]))) (hdg : decode cc pc = .ok (.getfield 39, 3)) (kk : W p l e R s m args below meth c H locs cells slots Q (F0 m (pc + 3) ls (v9 :: rest))) : W p l e R s m args below meth c H locs cells slots Q (F0 m pc ls (.ref a :: rest)) :=
  g_get (own := RX5) (ref := "WheatRun$Truck") (C := RX5) (T := TX5) (N := 10) (ci := 6) (index := 39) hx hb hts hown hK hM iaX5 rfl 9 (by decide) wf_X5_39 (fun _ h => h) ha rfl hdg kk
theorem fg_X5_52 {v0 v1 v2 v3 v4 v5 v6 v7 v8 v9 v10 v11 : Value} (hx : p.tables.exec = Jvm.exec) (hb : c.code = cc) (hts : ∀ w ∈ AL, w.before args s = true) (hown : s.vm.findClass RX5 = some m.cls) (hK : Kw G s) (hM : Wd G M s H locs) (ha : M a = some (r, .inr (1, [v0, v1, v2, v3, v4, v5, v6, v7, v8, v9, v10, v11]))) (hdg : decode cc pc = .ok (.getfield 52, 3)) (kk : W p l e R s m args below meth c H locs cells slots Q (F0 m (pc + 3) ls (v4 :: rest))) : W p l e R s m args below meth c H locs cells slots Q (F0 m pc ls (.ref a :: rest)) :=
  g_get (own := RX5) (ref := "WheatRun$Combine") (C := RX0) (T := TX0) (N := 12) (ci := 1) (index := 52) hx hb hts hown hK hM iaX0 rfl 4 (by decide) wf_X5_52 (fun _ h => h) ha rfl hdg kk
theorem fg_X5_57 {v0 v1 v2 v3 v4 v5 v6 v7 v8 v9 v10 v11 : Value} (hx : p.tables.exec = Jvm.exec) (hb : c.code = cc) (hts : ∀ w ∈ AL, w.before args s = true) (hown : s.vm.findClass RX5 = some m.cls) (hK : Kw G s) (hM : Wd G M s H locs) (ha : M a = some (r, .inr (1, [v0, v1, v2, v3, v4, v5, v6, v7, v8, v9, v10, v11]))) (hdg : decode cc pc = .ok (.getfield 57, 3)) (kk : W p l e R s m args below meth c H locs cells slots Q (F0 m (pc + 3) ls (v3 :: rest))) : W p l e R s m args below meth c H locs cells slots Q (F0 m pc ls (.ref a :: rest)) :=
  g_get (own := RX5) (ref := "WheatRun$Combine") (C := RX0) (T := TX0) (N := 12) (ci := 1) (index := 57) hx hb hts hown hK hM iaX0 rfl 3 (by decide) wf_X5_57 (fun _ h => h) ha rfl hdg kk
theorem fg_X5_64 {v0 v1 v2 v3 v4 v5 v6 v7 v8 v9 v10 v11 : Value} (hx : p.tables.exec = Jvm.exec) (hb : c.code = cc) (hts : ∀ w ∈ AL, w.before args s = true) (hown : s.vm.findClass RX5 = some m.cls) (hK : Kw G s) (hM : Wd G M s H locs) (ha : M a = some (r, .inr (1, [v0, v1, v2, v3, v4, v5, v6, v7, v8, v9, v10, v11]))) (hdg : decode cc pc = .ok (.getfield 64, 3)) (kk : W p l e R s m args below meth c H locs cells slots Q (F0 m (pc + 3) ls (v5 :: rest))) : W p l e R s m args below meth c H locs cells slots Q (F0 m pc ls (.ref a :: rest)) :=
  g_get (own := RX5) (ref := "WheatRun$Combine") (C := RX0) (T := TX0) (N := 12) (ci := 1) (index := 64) hx hb hts hown hK hM iaX0 rfl 5 (by decide) wf_X5_64 (fun _ h => h) ha rfl hdg kk
theorem fg_X6_12 {v0 v1 v2 : Value} (hx : p.tables.exec = Jvm.exec) (hb : c.code = cc) (hts : ∀ w ∈ AL, w.before args s = true) (hown : s.vm.findClass RX6 = some m.cls) (hK : Kw G s) (hM : Wd G M s H locs) (ha : M a = some (r, .inr (7, [v0, v1, v2]))) (hdg : decode cc pc = .ok (.getfield 12, 3)) (kk : W p l e R s m args below meth c H locs cells slots Q (F0 m (pc + 3) ls (v0 :: rest))) : W p l e R s m args below meth c H locs cells slots Q (F0 m pc ls (.ref a :: rest)) :=
  g_get (own := RX6) (ref := "WheatRun") (C := RX6) (T := TX6) (N := 3) (ci := 7) (index := 12) hx hb hts hown hK hM iaX6 rfl 0 (by decide) wf_X6_12 (fun _ h => h) ha rfl hdg kk
theorem fg_X6_18 {v0 v1 v2 : Value} (hx : p.tables.exec = Jvm.exec) (hb : c.code = cc) (hts : ∀ w ∈ AL, w.before args s = true) (hown : s.vm.findClass RX6 = some m.cls) (hK : Kw G s) (hM : Wd G M s H locs) (ha : M a = some (r, .inr (7, [v0, v1, v2]))) (hdg : decode cc pc = .ok (.getfield 18, 3)) (kk : W p l e R s m args below meth c H locs cells slots Q (F0 m (pc + 3) ls (v1 :: rest))) : W p l e R s m args below meth c H locs cells slots Q (F0 m pc ls (.ref a :: rest)) :=
  g_get (own := RX6) (ref := "WheatRun") (C := RX6) (T := TX6) (N := 3) (ci := 7) (index := 18) hx hb hts hown hK hM iaX6 rfl 1 (by decide) wf_X6_18 (fun _ h => h) ha rfl hdg kk
theorem fg_X6_26 {v0 v1 v2 : Value} (hx : p.tables.exec = Jvm.exec) (hb : c.code = cc) (hts : ∀ w ∈ AL, w.before args s = true) (hown : s.vm.findClass RX6 = some m.cls) (hK : Kw G s) (hM : Wd G M s H locs) (ha : M a = some (r, .inr (7, [v0, v1, v2]))) (hdg : decode cc pc = .ok (.getfield 26, 3)) (kk : W p l e R s m args below meth c H locs cells slots Q (F0 m (pc + 3) ls (v2 :: rest))) : W p l e R s m args below meth c H locs cells slots Q (F0 m pc ls (.ref a :: rest)) :=
  g_get (own := RX6) (ref := "WheatRun") (C := RX6) (T := TX6) (N := 3) (ci := 7) (index := 26) hx hb hts hown hK hM iaX6 rfl 2 (by decide) wf_X6_26 (fun _ h => h) ha rfl hdg kk
theorem fg_X6_46 {v0 v1 v2 v3 v4 v5 v6 v7 v8 : Value} (hx : p.tables.exec = Jvm.exec) (hb : c.code = cc) (hts : ∀ w ∈ AL, w.before args s = true) (hown : s.vm.findClass RX6 = some m.cls) (hK : Kw G s) (hM : Wd G M s H locs) (ha : M a = some (r, .inr (4, [v0, v1, v2, v3, v4, v5, v6, v7, v8]))) (hdg : decode cc pc = .ok (.getfield 46, 3)) (kk : W p l e R s m args below meth c H locs cells slots Q (F0 m (pc + 3) ls (v0 :: rest))) : W p l e R s m args below meth c H locs cells slots Q (F0 m pc ls (.ref a :: rest)) :=
  g_get (own := RX6) (ref := "WheatRun$Land") (C := RX3) (T := TX3) (N := 9) (ci := 4) (index := 46) hx hb hts hown hK hM iaX3 rfl 0 (by decide) wf_X6_46 (fun _ h => h) ha rfl hdg kk
theorem fg_X6_73 {v0 v1 v2 v3 v4 v5 v6 v7 v8 v9 v10 v11 v12 : Value} (hx : p.tables.exec = Jvm.exec) (hb : c.code = cc) (hts : ∀ w ∈ AL, w.before args s = true) (hown : s.vm.findClass RX6 = some m.cls) (hK : Kw G s) (hM : Wd G M s H locs) (ha : M a = some (r, .inr (3, [v0, v1, v2, v3, v4, v5, v6, v7, v8, v9, v10, v11, v12]))) (hdg : decode cc pc = .ok (.getfield 73, 3)) (kk : W p l e R s m args below meth c H locs cells slots Q (F0 m (pc + 3) ls (v6 :: rest))) : W p l e R s m args below meth c H locs cells slots Q (F0 m pc ls (.ref a :: rest)) :=
  g_get (own := RX6) (ref := "WheatRun$Field") (C := RX2) (T := TX2) (N := 13) (ci := 3) (index := 73) hx hb hts hown hK hM iaX2 rfl 6 (by decide) wf_X6_73 (fun _ h => h) ha rfl hdg kk
theorem fg_X6_77 {v0 v1 v2 v3 v4 v5 v6 v7 v8 v9 v10 v11 v12 : Value} (hx : p.tables.exec = Jvm.exec) (hb : c.code = cc) (hts : ∀ w ∈ AL, w.before args s = true) (hown : s.vm.findClass RX6 = some m.cls) (hK : Kw G s) (hM : Wd G M s H locs) (ha : M a = some (r, .inr (3, [v0, v1, v2, v3, v4, v5, v6, v7, v8, v9, v10, v11, v12]))) (hdg : decode cc pc = .ok (.getfield 77, 3)) (kk : W p l e R s m args below meth c H locs cells slots Q (F0 m (pc + 3) ls (v7 :: rest))) : W p l e R s m args below meth c H locs cells slots Q (F0 m pc ls (.ref a :: rest)) :=
  g_get (own := RX6) (ref := "WheatRun$Field") (C := RX2) (T := TX2) (N := 13) (ci := 3) (index := 77) hx hb hts hown hK hM iaX2 rfl 7 (by decide) wf_X6_77 (fun _ h => h) ha rfl hdg kk
theorem fg_X6_82 {v0 v1 v2 v3 v4 v5 v6 v7 v8 : Value} (hx : p.tables.exec = Jvm.exec) (hb : c.code = cc) (hts : ∀ w ∈ AL, w.before args s = true) (hown : s.vm.findClass RX6 = some m.cls) (hK : Kw G s) (hM : Wd G M s H locs) (ha : M a = some (r, .inr (4, [v0, v1, v2, v3, v4, v5, v6, v7, v8]))) (hdg : decode cc pc = .ok (.getfield 82, 3)) (kk : W p l e R s m args below meth c H locs cells slots Q (F0 m (pc + 3) ls (v1 :: rest))) : W p l e R s m args below meth c H locs cells slots Q (F0 m pc ls (.ref a :: rest)) :=
  g_get (own := RX6) (ref := "WheatRun$Land") (C := RX3) (T := TX3) (N := 9) (ci := 4) (index := 82) hx hb hts hown hK hM iaX3 rfl 1 (by decide) wf_X6_82 (fun _ h => h) ha rfl hdg kk
theorem fg_X6_94 {v0 v1 v2 v3 v4 v5 v6 v7 v8 : Value} (hx : p.tables.exec = Jvm.exec) (hb : c.code = cc) (hts : ∀ w ∈ AL, w.before args s = true) (hown : s.vm.findClass RX6 = some m.cls) (hK : Kw G s) (hM : Wd G M s H locs) (ha : M a = some (r, .inr (4, [v0, v1, v2, v3, v4, v5, v6, v7, v8]))) (hdg : decode cc pc = .ok (.getfield 94, 3)) (kk : W p l e R s m args below meth c H locs cells slots Q (F0 m (pc + 3) ls (v2 :: rest))) : W p l e R s m args below meth c H locs cells slots Q (F0 m pc ls (.ref a :: rest)) :=
  g_get (own := RX6) (ref := "WheatRun$Land") (C := RX3) (T := TX3) (N := 9) (ci := 4) (index := 94) hx hb hts hown hK hM iaX3 rfl 2 (by decide) wf_X6_94 (fun _ h => h) ha rfl hdg kk
theorem fg_X6_110 {v0 v1 v2 v3 v4 v5 v6 v7 v8 : Value} (hx : p.tables.exec = Jvm.exec) (hb : c.code = cc) (hts : ∀ w ∈ AL, w.before args s = true) (hown : s.vm.findClass RX6 = some m.cls) (hK : Kw G s) (hM : Wd G M s H locs) (ha : M a = some (r, .inr (4, [v0, v1, v2, v3, v4, v5, v6, v7, v8]))) (hdg : decode cc pc = .ok (.getfield 110, 3)) (kk : W p l e R s m args below meth c H locs cells slots Q (F0 m (pc + 3) ls (v3 :: rest))) : W p l e R s m args below meth c H locs cells slots Q (F0 m pc ls (.ref a :: rest)) :=
  g_get (own := RX6) (ref := "WheatRun$Land") (C := RX3) (T := TX3) (N := 9) (ci := 4) (index := 110) hx hb hts hown hK hM iaX3 rfl 3 (by decide) wf_X6_110 (fun _ h => h) ha rfl hdg kk
theorem fg_X6_122 {v0 v1 v2 v3 v4 v5 v6 v7 v8 : Value} (hx : p.tables.exec = Jvm.exec) (hb : c.code = cc) (hts : ∀ w ∈ AL, w.before args s = true) (hown : s.vm.findClass RX6 = some m.cls) (hK : Kw G s) (hM : Wd G M s H locs) (ha : M a = some (r, .inr (4, [v0, v1, v2, v3, v4, v5, v6, v7, v8]))) (hdg : decode cc pc = .ok (.getfield 122, 3)) (kk : W p l e R s m args below meth c H locs cells slots Q (F0 m (pc + 3) ls (v7 :: rest))) : W p l e R s m args below meth c H locs cells slots Q (F0 m pc ls (.ref a :: rest)) :=
  g_get (own := RX6) (ref := "WheatRun$Land") (C := RX3) (T := TX3) (N := 9) (ci := 4) (index := 122) hx hb hts hown hK hM iaX3 rfl 7 (by decide) wf_X6_122 (fun _ h => h) ha rfl hdg kk
theorem fg_X6_131 {v0 v1 v2 v3 v4 v5 v6 v7 v8 v9 v10 v11 : Value} (hx : p.tables.exec = Jvm.exec) (hb : c.code = cc) (hts : ∀ w ∈ AL, w.before args s = true) (hown : s.vm.findClass RX6 = some m.cls) (hK : Kw G s) (hM : Wd G M s H locs) (ha : M a = some (r, .inr (1, [v0, v1, v2, v3, v4, v5, v6, v7, v8, v9, v10, v11]))) (hdg : decode cc pc = .ok (.getfield 131, 3)) (kk : W p l e R s m args below meth c H locs cells slots Q (F0 m (pc + 3) ls (v9 :: rest))) : W p l e R s m args below meth c H locs cells slots Q (F0 m pc ls (.ref a :: rest)) :=
  g_get (own := RX6) (ref := "WheatRun$Combine") (C := RX0) (T := TX0) (N := 12) (ci := 1) (index := 131) hx hb hts hown hK hM iaX0 rfl 9 (by decide) wf_X6_131 (fun _ h => h) ha rfl hdg kk
theorem fg_X6_150 {v0 v1 v2 v3 v4 v5 v6 v7 v8 v9 v10 v11 : Value} (hx : p.tables.exec = Jvm.exec) (hb : c.code = cc) (hts : ∀ w ∈ AL, w.before args s = true) (hown : s.vm.findClass RX6 = some m.cls) (hK : Kw G s) (hM : Wd G M s H locs) (ha : M a = some (r, .inr (1, [v0, v1, v2, v3, v4, v5, v6, v7, v8, v9, v10, v11]))) (hdg : decode cc pc = .ok (.getfield 150, 3)) (kk : W p l e R s m args below meth c H locs cells slots Q (F0 m (pc + 3) ls (v1 :: rest))) : W p l e R s m args below meth c H locs cells slots Q (F0 m pc ls (.ref a :: rest)) :=
  g_get (own := RX6) (ref := "WheatRun$Combine") (C := RX0) (T := TX0) (N := 12) (ci := 1) (index := 150) hx hb hts hown hK hM iaX0 rfl 1 (by decide) wf_X6_150 (fun _ h => h) ha rfl hdg kk
theorem fg_X6_153 {v0 v1 v2 v3 v4 v5 v6 v7 v8 v9 : Value} (hx : p.tables.exec = Jvm.exec) (hb : c.code = cc) (hts : ∀ w ∈ AL, w.before args s = true) (hown : s.vm.findClass RX6 = some m.cls) (hK : Kw G s) (hM : Wd G M s H locs) (ha : M a = some (r, .inr (6, [v0, v1, v2, v3, v4, v5, v6, v7, v8, v9]))) (hdg : decode cc pc = .ok (.getfield 153, 3)) (kk : W p l e R s m args below meth c H locs cells slots Q (F0 m (pc + 3) ls (v0 :: rest))) : W p l e R s m args below meth c H locs cells slots Q (F0 m pc ls (.ref a :: rest)) :=
  g_get (own := RX6) (ref := "WheatRun$Truck") (C := RX5) (T := TX5) (N := 10) (ci := 6) (index := 153) hx hb hts hown hK hM iaX5 rfl 0 (by decide) wf_X6_153 (fun _ h => h) ha rfl hdg kk
theorem fg_X6_165 {v0 v1 v2 v3 v4 v5 : Value} (hx : p.tables.exec = Jvm.exec) (hb : c.code = cc) (hts : ∀ w ∈ AL, w.before args s = true) (hown : s.vm.findClass RX6 = some m.cls) (hK : Kw G s) (hM : Wd G M s H locs) (ha : M a = some (r, .inr (2, [v0, v1, v2, v3, v4, v5]))) (hdg : decode cc pc = .ok (.getfield 165, 3)) (kk : W p l e R s m args below meth c H locs cells slots Q (F0 m (pc + 3) ls (v0 :: rest))) : W p l e R s m args below meth c H locs cells slots Q (F0 m pc ls (.ref a :: rest)) :=
  g_get (own := RX6) (ref := "WheatRun$Elevator") (C := RX1) (T := TX1) (N := 6) (ci := 2) (index := 165) hx hb hts hown hK hM iaX1 rfl 0 (by decide) wf_X6_165 (fun _ h => h) ha rfl hdg kk
theorem fg_X6_166 {v0 v1 v2 v3 v4 v5 v6 v7 v8 v9 : Value} (hx : p.tables.exec = Jvm.exec) (hb : c.code = cc) (hts : ∀ w ∈ AL, w.before args s = true) (hown : s.vm.findClass RX6 = some m.cls) (hK : Kw G s) (hM : Wd G M s H locs) (ha : M a = some (r, .inr (6, [v0, v1, v2, v3, v4, v5, v6, v7, v8, v9]))) (hdg : decode cc pc = .ok (.getfield 166, 3)) (kk : W p l e R s m args below meth c H locs cells slots Q (F0 m (pc + 3) ls (v1 :: rest))) : W p l e R s m args below meth c H locs cells slots Q (F0 m pc ls (.ref a :: rest)) :=
  g_get (own := RX6) (ref := "WheatRun$Truck") (C := RX5) (T := TX5) (N := 10) (ci := 6) (index := 166) hx hb hts hown hK hM iaX5 rfl 1 (by decide) wf_X6_166 (fun _ h => h) ha rfl hdg kk
theorem fg_X6_169 {v0 v1 v2 v3 v4 v5 v6 v7 v8 v9 v10 v11 : Value} (hx : p.tables.exec = Jvm.exec) (hb : c.code = cc) (hts : ∀ w ∈ AL, w.before args s = true) (hown : s.vm.findClass RX6 = some m.cls) (hK : Kw G s) (hM : Wd G M s H locs) (ha : M a = some (r, .inr (1, [v0, v1, v2, v3, v4, v5, v6, v7, v8, v9, v10, v11]))) (hdg : decode cc pc = .ok (.getfield 169, 3)) (kk : W p l e R s m args below meth c H locs cells slots Q (F0 m (pc + 3) ls (v6 :: rest))) : W p l e R s m args below meth c H locs cells slots Q (F0 m pc ls (.ref a :: rest)) :=
  g_get (own := RX6) (ref := "WheatRun$Combine") (C := RX0) (T := TX0) (N := 12) (ci := 1) (index := 169) hx hb hts hown hK hM iaX0 rfl 6 (by decide) wf_X6_169 (fun _ h => h) ha rfl hdg kk
theorem fg_X6_172 {v0 v1 v2 v3 v4 v5 v6 v7 v8 : Value} (hx : p.tables.exec = Jvm.exec) (hb : c.code = cc) (hts : ∀ w ∈ AL, w.before args s = true) (hown : s.vm.findClass RX6 = some m.cls) (hK : Kw G s) (hM : Wd G M s H locs) (ha : M a = some (r, .inr (4, [v0, v1, v2, v3, v4, v5, v6, v7, v8]))) (hdg : decode cc pc = .ok (.getfield 172, 3)) (kk : W p l e R s m args below meth c H locs cells slots Q (F0 m (pc + 3) ls (v8 :: rest))) : W p l e R s m args below meth c H locs cells slots Q (F0 m pc ls (.ref a :: rest)) :=
  g_get (own := RX6) (ref := "WheatRun$Land") (C := RX3) (T := TX3) (N := 9) (ci := 4) (index := 172) hx hb hts hown hK hM iaX3 rfl 8 (by decide) wf_X6_172 (fun _ h => h) ha rfl hdg kk
theorem fg_X6_177 {v0 v1 v2 v3 v4 v5 v6 v7 v8 v9 v10 v11 : Value} (hx : p.tables.exec = Jvm.exec) (hb : c.code = cc) (hts : ∀ w ∈ AL, w.before args s = true) (hown : s.vm.findClass RX6 = some m.cls) (hK : Kw G s) (hM : Wd G M s H locs) (ha : M a = some (r, .inr (1, [v0, v1, v2, v3, v4, v5, v6, v7, v8, v9, v10, v11]))) (hdg : decode cc pc = .ok (.getfield 177, 3)) (kk : W p l e R s m args below meth c H locs cells slots Q (F0 m (pc + 3) ls (v7 :: rest))) : W p l e R s m args below meth c H locs cells slots Q (F0 m pc ls (.ref a :: rest)) :=
  g_get (own := RX6) (ref := "WheatRun$Combine") (C := RX0) (T := TX0) (N := 12) (ci := 1) (index := 177) hx hb hts hown hK hM iaX0 rfl 7 (by decide) wf_X6_177 (fun _ h => h) ha rfl hdg kk
theorem fg_X6_183 {v0 v1 v2 v3 v4 v5 : Value} (hx : p.tables.exec = Jvm.exec) (hb : c.code = cc) (hts : ∀ w ∈ AL, w.before args s = true) (hown : s.vm.findClass RX6 = some m.cls) (hK : Kw G s) (hM : Wd G M s H locs) (ha : M a = some (r, .inr (2, [v0, v1, v2, v3, v4, v5]))) (hdg : decode cc pc = .ok (.getfield 183, 3)) (kk : W p l e R s m args below meth c H locs cells slots Q (F0 m (pc + 3) ls (v1 :: rest))) : W p l e R s m args below meth c H locs cells slots Q (F0 m pc ls (.ref a :: rest)) :=
  g_get (own := RX6) (ref := "WheatRun$Elevator") (C := RX1) (T := TX1) (N := 6) (ci := 2) (index := 183) hx hb hts hown hK hM iaX1 rfl 1 (by decide) wf_X6_183 (fun _ h => h) ha rfl hdg kk
theorem fg_X6_196 {v0 v1 v2 v3 v4 v5 v6 v7 v8 : Value} (hx : p.tables.exec = Jvm.exec) (hb : c.code = cc) (hts : ∀ w ∈ AL, w.before args s = true) (hown : s.vm.findClass RX6 = some m.cls) (hK : Kw G s) (hM : Wd G M s H locs) (ha : M a = some (r, .inr (4, [v0, v1, v2, v3, v4, v5, v6, v7, v8]))) (hdg : decode cc pc = .ok (.getfield 196, 3)) (kk : W p l e R s m args below meth c H locs cells slots Q (F0 m (pc + 3) ls (v6 :: rest))) : W p l e R s m args below meth c H locs cells slots Q (F0 m pc ls (.ref a :: rest)) :=
  g_get (own := RX6) (ref := "WheatRun$Land") (C := RX3) (T := TX3) (N := 9) (ci := 4) (index := 196) hx hb hts hown hK hM iaX3 rfl 6 (by decide) wf_X6_196 (fun _ h => h) ha rfl hdg kk
theorem fg_X6_201 {v0 v1 v2 v3 v4 v5 v6 v7 v8 : Value} (hx : p.tables.exec = Jvm.exec) (hb : c.code = cc) (hts : ∀ w ∈ AL, w.before args s = true) (hown : s.vm.findClass RX6 = some m.cls) (hK : Kw G s) (hM : Wd G M s H locs) (ha : M a = some (r, .inr (4, [v0, v1, v2, v3, v4, v5, v6, v7, v8]))) (hdg : decode cc pc = .ok (.getfield 201, 3)) (kk : W p l e R s m args below meth c H locs cells slots Q (F0 m (pc + 3) ls (v4 :: rest))) : W p l e R s m args below meth c H locs cells slots Q (F0 m pc ls (.ref a :: rest)) :=
  g_get (own := RX6) (ref := "WheatRun$Land") (C := RX3) (T := TX3) (N := 9) (ci := 4) (index := 201) hx hb hts hown hK hM iaX3 rfl 4 (by decide) wf_X6_201 (fun _ h => h) ha rfl hdg kk
theorem fg_X6_209 {v0 v1 v2 v3 v4 v5 v6 v7 v8 v9 v10 v11 v12 : Value} (hx : p.tables.exec = Jvm.exec) (hb : c.code = cc) (hts : ∀ w ∈ AL, w.before args s = true) (hown : s.vm.findClass RX6 = some m.cls) (hK : Kw G s) (hM : Wd G M s H locs) (ha : M a = some (r, .inr (3, [v0, v1, v2, v3, v4, v5, v6, v7, v8, v9, v10, v11, v12]))) (hdg : decode cc pc = .ok (.getfield 209, 3)) (kk : W p l e R s m args below meth c H locs cells slots Q (F0 m (pc + 3) ls (v0 :: rest))) : W p l e R s m args below meth c H locs cells slots Q (F0 m pc ls (.ref a :: rest)) :=
  g_get (own := RX6) (ref := "WheatRun$Field") (C := RX2) (T := TX2) (N := 13) (ci := 3) (index := 209) hx hb hts hown hK hM iaX2 rfl 0 (by decide) wf_X6_209 (fun _ h => h) ha rfl hdg kk
theorem fg_X6_212 {v0 v1 v2 v3 v4 v5 v6 v7 v8 v9 v10 v11 v12 : Value} (hx : p.tables.exec = Jvm.exec) (hb : c.code = cc) (hts : ∀ w ∈ AL, w.before args s = true) (hown : s.vm.findClass RX6 = some m.cls) (hK : Kw G s) (hM : Wd G M s H locs) (ha : M a = some (r, .inr (3, [v0, v1, v2, v3, v4, v5, v6, v7, v8, v9, v10, v11, v12]))) (hdg : decode cc pc = .ok (.getfield 212, 3)) (kk : W p l e R s m args below meth c H locs cells slots Q (F0 m (pc + 3) ls (v1 :: rest))) : W p l e R s m args below meth c H locs cells slots Q (F0 m pc ls (.ref a :: rest)) :=
  g_get (own := RX6) (ref := "WheatRun$Field") (C := RX2) (T := TX2) (N := 13) (ci := 3) (index := 212) hx hb hts hown hK hM iaX2 rfl 1 (by decide) wf_X6_212 (fun _ h => h) ha rfl hdg kk
theorem fg_X6_213 {v0 v1 v2 v3 v4 v5 v6 v7 v8 v9 v10 v11 v12 : Value} (hx : p.tables.exec = Jvm.exec) (hb : c.code = cc) (hts : ∀ w ∈ AL, w.before args s = true) (hown : s.vm.findClass RX6 = some m.cls) (hK : Kw G s) (hM : Wd G M s H locs) (ha : M a = some (r, .inr (3, [v0, v1, v2, v3, v4, v5, v6, v7, v8, v9, v10, v11, v12]))) (hdg : decode cc pc = .ok (.getfield 213, 3)) (kk : W p l e R s m args below meth c H locs cells slots Q (F0 m (pc + 3) ls (v2 :: rest))) : W p l e R s m args below meth c H locs cells slots Q (F0 m pc ls (.ref a :: rest)) :=
  g_get (own := RX6) (ref := "WheatRun$Field") (C := RX2) (T := TX2) (N := 13) (ci := 3) (index := 213) hx hb hts hown hK hM iaX2 rfl 2 (by decide) wf_X6_213 (fun _ h => h) ha rfl hdg kk
theorem fg_X6_216 {v0 v1 v2 v3 v4 v5 v6 v7 v8 v9 v10 v11 v12 : Value} (hx : p.tables.exec = Jvm.exec) (hb : c.code = cc) (hts : ∀ w ∈ AL, w.before args s = true) (hown : s.vm.findClass RX6 = some m.cls) (hK : Kw G s) (hM : Wd G M s H locs) (ha : M a = some (r, .inr (3, [v0, v1, v2, v3, v4, v5, v6, v7, v8, v9, v10, v11, v12]))) (hdg : decode cc pc = .ok (.getfield 216, 3)) (kk : W p l e R s m args below meth c H locs cells slots Q (F0 m (pc + 3) ls (v5 :: rest))) : W p l e R s m args below meth c H locs cells slots Q (F0 m pc ls (.ref a :: rest)) :=
  g_get (own := RX6) (ref := "WheatRun$Field") (C := RX2) (T := TX2) (N := 13) (ci := 3) (index := 216) hx hb hts hown hK hM iaX2 rfl 5 (by decide) wf_X6_216 (fun _ h => h) ha rfl hdg kk
theorem fg_X6_219 {v0 v1 v2 v3 v4 v5 v6 v7 v8 v9 v10 v11 v12 : Value} (hx : p.tables.exec = Jvm.exec) (hb : c.code = cc) (hts : ∀ w ∈ AL, w.before args s = true) (hown : s.vm.findClass RX6 = some m.cls) (hK : Kw G s) (hM : Wd G M s H locs) (ha : M a = some (r, .inr (3, [v0, v1, v2, v3, v4, v5, v6, v7, v8, v9, v10, v11, v12]))) (hdg : decode cc pc = .ok (.getfield 219, 3)) (kk : W p l e R s m args below meth c H locs cells slots Q (F0 m (pc + 3) ls (v8 :: rest))) : W p l e R s m args below meth c H locs cells slots Q (F0 m pc ls (.ref a :: rest)) :=
  g_get (own := RX6) (ref := "WheatRun$Field") (C := RX2) (T := TX2) (N := 13) (ci := 3) (index := 219) hx hb hts hown hK hM iaX2 rfl 8 (by decide) wf_X6_219 (fun _ h => h) ha rfl hdg kk
theorem fg_X6_222 {v0 v1 v2 v3 v4 v5 v6 v7 v8 v9 v10 v11 v12 : Value} (hx : p.tables.exec = Jvm.exec) (hb : c.code = cc) (hts : ∀ w ∈ AL, w.before args s = true) (hown : s.vm.findClass RX6 = some m.cls) (hK : Kw G s) (hM : Wd G M s H locs) (ha : M a = some (r, .inr (3, [v0, v1, v2, v3, v4, v5, v6, v7, v8, v9, v10, v11, v12]))) (hdg : decode cc pc = .ok (.getfield 222, 3)) (kk : W p l e R s m args below meth c H locs cells slots Q (F0 m (pc + 3) ls (v9 :: rest))) : W p l e R s m args below meth c H locs cells slots Q (F0 m pc ls (.ref a :: rest)) :=
  g_get (own := RX6) (ref := "WheatRun$Field") (C := RX2) (T := TX2) (N := 13) (ci := 3) (index := 222) hx hb hts hown hK hM iaX2 rfl 9 (by decide) wf_X6_222 (fun _ h => h) ha rfl hdg kk
theorem fg_X6_225 {v0 v1 v2 v3 v4 v5 v6 v7 v8 v9 v10 v11 v12 : Value} (hx : p.tables.exec = Jvm.exec) (hb : c.code = cc) (hts : ∀ w ∈ AL, w.before args s = true) (hown : s.vm.findClass RX6 = some m.cls) (hK : Kw G s) (hM : Wd G M s H locs) (ha : M a = some (r, .inr (3, [v0, v1, v2, v3, v4, v5, v6, v7, v8, v9, v10, v11, v12]))) (hdg : decode cc pc = .ok (.getfield 225, 3)) (kk : W p l e R s m args below meth c H locs cells slots Q (F0 m (pc + 3) ls (v10 :: rest))) : W p l e R s m args below meth c H locs cells slots Q (F0 m pc ls (.ref a :: rest)) :=
  g_get (own := RX6) (ref := "WheatRun$Field") (C := RX2) (T := TX2) (N := 13) (ci := 3) (index := 225) hx hb hts hown hK hM iaX2 rfl 10 (by decide) wf_X6_225 (fun _ h => h) ha rfl hdg kk
theorem fg_X6_234 {v0 v1 v2 v3 v4 v5 v6 v7 v8 v9 v10 v11 : Value} (hx : p.tables.exec = Jvm.exec) (hb : c.code = cc) (hts : ∀ w ∈ AL, w.before args s = true) (hown : s.vm.findClass RX6 = some m.cls) (hK : Kw G s) (hM : Wd G M s H locs) (ha : M a = some (r, .inr (1, [v0, v1, v2, v3, v4, v5, v6, v7, v8, v9, v10, v11]))) (hdg : decode cc pc = .ok (.getfield 234, 3)) (kk : W p l e R s m args below meth c H locs cells slots Q (F0 m (pc + 3) ls (v3 :: rest))) : W p l e R s m args below meth c H locs cells slots Q (F0 m pc ls (.ref a :: rest)) :=
  g_get (own := RX6) (ref := "WheatRun$Combine") (C := RX0) (T := TX0) (N := 12) (ci := 1) (index := 234) hx hb hts hown hK hM iaX0 rfl 3 (by decide) wf_X6_234 (fun _ h => h) ha rfl hdg kk
theorem fg_X6_237 {v0 v1 v2 v3 v4 v5 v6 v7 v8 v9 v10 v11 : Value} (hx : p.tables.exec = Jvm.exec) (hb : c.code = cc) (hts : ∀ w ∈ AL, w.before args s = true) (hown : s.vm.findClass RX6 = some m.cls) (hK : Kw G s) (hM : Wd G M s H locs) (ha : M a = some (r, .inr (1, [v0, v1, v2, v3, v4, v5, v6, v7, v8, v9, v10, v11]))) (hdg : decode cc pc = .ok (.getfield 237, 3)) (kk : W p l e R s m args below meth c H locs cells slots Q (F0 m (pc + 3) ls (v4 :: rest))) : W p l e R s m args below meth c H locs cells slots Q (F0 m pc ls (.ref a :: rest)) :=
  g_get (own := RX6) (ref := "WheatRun$Combine") (C := RX0) (T := TX0) (N := 12) (ci := 1) (index := 237) hx hb hts hown hK hM iaX0 rfl 4 (by decide) wf_X6_237 (fun _ h => h) ha rfl hdg kk
theorem fg_X6_240 {v0 v1 v2 v3 v4 v5 v6 v7 v8 v9 v10 v11 : Value} (hx : p.tables.exec = Jvm.exec) (hb : c.code = cc) (hts : ∀ w ∈ AL, w.before args s = true) (hown : s.vm.findClass RX6 = some m.cls) (hK : Kw G s) (hM : Wd G M s H locs) (ha : M a = some (r, .inr (1, [v0, v1, v2, v3, v4, v5, v6, v7, v8, v9, v10, v11]))) (hdg : decode cc pc = .ok (.getfield 240, 3)) (kk : W p l e R s m args below meth c H locs cells slots Q (F0 m (pc + 3) ls (v10 :: rest))) : W p l e R s m args below meth c H locs cells slots Q (F0 m pc ls (.ref a :: rest)) :=
  g_get (own := RX6) (ref := "WheatRun$Combine") (C := RX0) (T := TX0) (N := 12) (ci := 1) (index := 240) hx hb hts hown hK hM iaX0 rfl 10 (by decide) wf_X6_240 (fun _ h => h) ha rfl hdg kk
theorem fg_X6_241 {v0 v1 v2 v3 v4 v5 v6 v7 v8 v9 v10 v11 : Value} (hx : p.tables.exec = Jvm.exec) (hb : c.code = cc) (hts : ∀ w ∈ AL, w.before args s = true) (hown : s.vm.findClass RX6 = some m.cls) (hK : Kw G s) (hM : Wd G M s H locs) (ha : M a = some (r, .inr (1, [v0, v1, v2, v3, v4, v5, v6, v7, v8, v9, v10, v11]))) (hdg : decode cc pc = .ok (.getfield 241, 3)) (kk : W p l e R s m args below meth c H locs cells slots Q (F0 m (pc + 3) ls (v8 :: rest))) : W p l e R s m args below meth c H locs cells slots Q (F0 m pc ls (.ref a :: rest)) :=
  g_get (own := RX6) (ref := "WheatRun$Combine") (C := RX0) (T := TX0) (N := 12) (ci := 1) (index := 241) hx hb hts hown hK hM iaX0 rfl 8 (by decide) wf_X6_241 (fun _ h => h) ha rfl hdg kk
theorem fg_X6_244 {v0 v1 v2 v3 v4 v5 v6 v7 v8 v9 : Value} (hx : p.tables.exec = Jvm.exec) (hb : c.code = cc) (hts : ∀ w ∈ AL, w.before args s = true) (hown : s.vm.findClass RX6 = some m.cls) (hK : Kw G s) (hM : Wd G M s H locs) (ha : M a = some (r, .inr (6, [v0, v1, v2, v3, v4, v5, v6, v7, v8, v9]))) (hdg : decode cc pc = .ok (.getfield 244, 3)) (kk : W p l e R s m args below meth c H locs cells slots Q (F0 m (pc + 3) ls (v2 :: rest))) : W p l e R s m args below meth c H locs cells slots Q (F0 m pc ls (.ref a :: rest)) :=
  g_get (own := RX6) (ref := "WheatRun$Truck") (C := RX5) (T := TX5) (N := 10) (ci := 6) (index := 244) hx hb hts hown hK hM iaX5 rfl 2 (by decide) wf_X6_244 (fun _ h => h) ha rfl hdg kk
theorem fg_X6_247 {v0 v1 v2 v3 v4 v5 v6 v7 v8 v9 : Value} (hx : p.tables.exec = Jvm.exec) (hb : c.code = cc) (hts : ∀ w ∈ AL, w.before args s = true) (hown : s.vm.findClass RX6 = some m.cls) (hK : Kw G s) (hM : Wd G M s H locs) (ha : M a = some (r, .inr (6, [v0, v1, v2, v3, v4, v5, v6, v7, v8, v9]))) (hdg : decode cc pc = .ok (.getfield 247, 3)) (kk : W p l e R s m args below meth c H locs cells slots Q (F0 m (pc + 3) ls (v3 :: rest))) : W p l e R s m args below meth c H locs cells slots Q (F0 m pc ls (.ref a :: rest)) :=
  g_get (own := RX6) (ref := "WheatRun$Truck") (C := RX5) (T := TX5) (N := 10) (ci := 6) (index := 247) hx hb hts hown hK hM iaX5 rfl 3 (by decide) wf_X6_247 (fun _ h => h) ha rfl hdg kk
theorem fg_X6_250 {v0 v1 v2 v3 v4 v5 v6 v7 v8 v9 : Value} (hx : p.tables.exec = Jvm.exec) (hb : c.code = cc) (hts : ∀ w ∈ AL, w.before args s = true) (hown : s.vm.findClass RX6 = some m.cls) (hK : Kw G s) (hM : Wd G M s H locs) (ha : M a = some (r, .inr (6, [v0, v1, v2, v3, v4, v5, v6, v7, v8, v9]))) (hdg : decode cc pc = .ok (.getfield 250, 3)) (kk : W p l e R s m args below meth c H locs cells slots Q (F0 m (pc + 3) ls (v4 :: rest))) : W p l e R s m args below meth c H locs cells slots Q (F0 m pc ls (.ref a :: rest)) :=
  g_get (own := RX6) (ref := "WheatRun$Truck") (C := RX5) (T := TX5) (N := 10) (ci := 6) (index := 250) hx hb hts hown hK hM iaX5 rfl 4 (by decide) wf_X6_250 (fun _ h => h) ha rfl hdg kk
theorem fg_X6_251 {v0 v1 v2 v3 v4 v5 v6 v7 v8 v9 : Value} (hx : p.tables.exec = Jvm.exec) (hb : c.code = cc) (hts : ∀ w ∈ AL, w.before args s = true) (hown : s.vm.findClass RX6 = some m.cls) (hK : Kw G s) (hM : Wd G M s H locs) (ha : M a = some (r, .inr (6, [v0, v1, v2, v3, v4, v5, v6, v7, v8, v9]))) (hdg : decode cc pc = .ok (.getfield 251, 3)) (kk : W p l e R s m args below meth c H locs cells slots Q (F0 m (pc + 3) ls (v5 :: rest))) : W p l e R s m args below meth c H locs cells slots Q (F0 m pc ls (.ref a :: rest)) :=
  g_get (own := RX6) (ref := "WheatRun$Truck") (C := RX5) (T := TX5) (N := 10) (ci := 6) (index := 251) hx hb hts hown hK hM iaX5 rfl 5 (by decide) wf_X6_251 (fun _ h => h) ha rfl hdg kk
theorem fg_X6_254 {v0 v1 v2 v3 v4 v5 v6 v7 v8 v9 : Value} (hx : p.tables.exec = Jvm.exec) (hb : c.code = cc) (hts : ∀ w ∈ AL, w.before args s = true) (hown : s.vm.findClass RX6 = some m.cls) (hK : Kw G s) (hM : Wd G M s H locs) (ha : M a = some (r, .inr (6, [v0, v1, v2, v3, v4, v5, v6, v7, v8, v9]))) (hdg : decode cc pc = .ok (.getfield 254, 3)) (kk : W p l e R s m args below meth c H locs cells slots Q (F0 m (pc + 3) ls (v6 :: rest))) : W p l e R s m args below meth c H locs cells slots Q (F0 m pc ls (.ref a :: rest)) :=
  g_get (own := RX6) (ref := "WheatRun$Truck") (C := RX5) (T := TX5) (N := 10) (ci := 6) (index := 254) hx hb hts hown hK hM iaX5 rfl 6 (by decide) wf_X6_254 (fun _ h => h) ha rfl hdg kk
theorem fg_X6_257 {v0 v1 v2 v3 v4 v5 v6 v7 v8 v9 : Value} (hx : p.tables.exec = Jvm.exec) (hb : c.code = cc) (hts : ∀ w ∈ AL, w.before args s = true) (hown : s.vm.findClass RX6 = some m.cls) (hK : Kw G s) (hM : Wd G M s H locs) (ha : M a = some (r, .inr (6, [v0, v1, v2, v3, v4, v5, v6, v7, v8, v9]))) (hdg : decode cc pc = .ok (.getfield 257, 3)) (kk : W p l e R s m args below meth c H locs cells slots Q (F0 m (pc + 3) ls (v9 :: rest))) : W p l e R s m args below meth c H locs cells slots Q (F0 m pc ls (.ref a :: rest)) :=
  g_get (own := RX6) (ref := "WheatRun$Truck") (C := RX5) (T := TX5) (N := 10) (ci := 6) (index := 257) hx hb hts hown hK hM iaX5 rfl 9 (by decide) wf_X6_257 (fun _ h => h) ha rfl hdg kk
theorem fg_X6_266 {v0 v1 v2 v3 v4 v5 v6 : Value} (hx : p.tables.exec = Jvm.exec) (hb : c.code = cc) (hts : ∀ w ∈ AL, w.before args s = true) (hown : s.vm.findClass RX6 = some m.cls) (hK : Kw G s) (hM : Wd G M s H locs) (ha : M a = some (r, .inr (5, [v0, v1, v2, v3, v4, v5, v6]))) (hdg : decode cc pc = .ok (.getfield 266, 3)) (kk : W p l e R s m args below meth c H locs cells slots Q (F0 m (pc + 3) ls (v0 :: rest))) : W p l e R s m args below meth c H locs cells slots Q (F0 m pc ls (.ref a :: rest)) :=
  g_get (own := RX6) (ref := "WheatRun$Ticket") (C := RX4) (T := TX4) (N := 7) (ci := 5) (index := 266) hx hb hts hown hK hM iaX4 rfl 0 (by decide) wf_X6_266 (fun _ h => h) ha rfl hdg kk
theorem fg_X6_271 {v0 v1 v2 v3 v4 v5 v6 : Value} (hx : p.tables.exec = Jvm.exec) (hb : c.code = cc) (hts : ∀ w ∈ AL, w.before args s = true) (hown : s.vm.findClass RX6 = some m.cls) (hK : Kw G s) (hM : Wd G M s H locs) (ha : M a = some (r, .inr (5, [v0, v1, v2, v3, v4, v5, v6]))) (hdg : decode cc pc = .ok (.getfield 271, 3)) (kk : W p l e R s m args below meth c H locs cells slots Q (F0 m (pc + 3) ls (v1 :: rest))) : W p l e R s m args below meth c H locs cells slots Q (F0 m pc ls (.ref a :: rest)) :=
  g_get (own := RX6) (ref := "WheatRun$Ticket") (C := RX4) (T := TX4) (N := 7) (ci := 5) (index := 271) hx hb hts hown hK hM iaX4 rfl 1 (by decide) wf_X6_271 (fun _ h => h) ha rfl hdg kk
theorem fg_X6_274 {v0 v1 v2 v3 v4 v5 v6 : Value} (hx : p.tables.exec = Jvm.exec) (hb : c.code = cc) (hts : ∀ w ∈ AL, w.before args s = true) (hown : s.vm.findClass RX6 = some m.cls) (hK : Kw G s) (hM : Wd G M s H locs) (ha : M a = some (r, .inr (5, [v0, v1, v2, v3, v4, v5, v6]))) (hdg : decode cc pc = .ok (.getfield 274, 3)) (kk : W p l e R s m args below meth c H locs cells slots Q (F0 m (pc + 3) ls (v2 :: rest))) : W p l e R s m args below meth c H locs cells slots Q (F0 m pc ls (.ref a :: rest)) :=
  g_get (own := RX6) (ref := "WheatRun$Ticket") (C := RX4) (T := TX4) (N := 7) (ci := 5) (index := 274) hx hb hts hown hK hM iaX4 rfl 2 (by decide) wf_X6_274 (fun _ h => h) ha rfl hdg kk
theorem fg_X6_275 {v0 v1 v2 v3 v4 v5 v6 : Value} (hx : p.tables.exec = Jvm.exec) (hb : c.code = cc) (hts : ∀ w ∈ AL, w.before args s = true) (hown : s.vm.findClass RX6 = some m.cls) (hK : Kw G s) (hM : Wd G M s H locs) (ha : M a = some (r, .inr (5, [v0, v1, v2, v3, v4, v5, v6]))) (hdg : decode cc pc = .ok (.getfield 275, 3)) (kk : W p l e R s m args below meth c H locs cells slots Q (F0 m (pc + 3) ls (v3 :: rest))) : W p l e R s m args below meth c H locs cells slots Q (F0 m pc ls (.ref a :: rest)) :=
  g_get (own := RX6) (ref := "WheatRun$Ticket") (C := RX4) (T := TX4) (N := 7) (ci := 5) (index := 275) hx hb hts hown hK hM iaX4 rfl 3 (by decide) wf_X6_275 (fun _ h => h) ha rfl hdg kk
theorem fg_X6_278 {v0 v1 v2 v3 v4 v5 v6 : Value} (hx : p.tables.exec = Jvm.exec) (hb : c.code = cc) (hts : ∀ w ∈ AL, w.before args s = true) (hown : s.vm.findClass RX6 = some m.cls) (hK : Kw G s) (hM : Wd G M s H locs) (ha : M a = some (r, .inr (5, [v0, v1, v2, v3, v4, v5, v6]))) (hdg : decode cc pc = .ok (.getfield 278, 3)) (kk : W p l e R s m args below meth c H locs cells slots Q (F0 m (pc + 3) ls (v4 :: rest))) : W p l e R s m args below meth c H locs cells slots Q (F0 m pc ls (.ref a :: rest)) :=
  g_get (own := RX6) (ref := "WheatRun$Ticket") (C := RX4) (T := TX4) (N := 7) (ci := 5) (index := 278) hx hb hts hown hK hM iaX4 rfl 4 (by decide) wf_X6_278 (fun _ h => h) ha rfl hdg kk
theorem fg_X6_281 {v0 v1 v2 v3 v4 v5 v6 : Value} (hx : p.tables.exec = Jvm.exec) (hb : c.code = cc) (hts : ∀ w ∈ AL, w.before args s = true) (hown : s.vm.findClass RX6 = some m.cls) (hK : Kw G s) (hM : Wd G M s H locs) (ha : M a = some (r, .inr (5, [v0, v1, v2, v3, v4, v5, v6]))) (hdg : decode cc pc = .ok (.getfield 281, 3)) (kk : W p l e R s m args below meth c H locs cells slots Q (F0 m (pc + 3) ls (v5 :: rest))) : W p l e R s m args below meth c H locs cells slots Q (F0 m pc ls (.ref a :: rest)) :=
  g_get (own := RX6) (ref := "WheatRun$Ticket") (C := RX4) (T := TX4) (N := 7) (ci := 5) (index := 281) hx hb hts hown hK hM iaX4 rfl 5 (by decide) wf_X6_281 (fun _ h => h) ha rfl hdg kk
theorem fg_X6_284 {v0 v1 v2 v3 v4 v5 v6 : Value} (hx : p.tables.exec = Jvm.exec) (hb : c.code = cc) (hts : ∀ w ∈ AL, w.before args s = true) (hown : s.vm.findClass RX6 = some m.cls) (hK : Kw G s) (hM : Wd G M s H locs) (ha : M a = some (r, .inr (5, [v0, v1, v2, v3, v4, v5, v6]))) (hdg : decode cc pc = .ok (.getfield 284, 3)) (kk : W p l e R s m args below meth c H locs cells slots Q (F0 m (pc + 3) ls (v6 :: rest))) : W p l e R s m args below meth c H locs cells slots Q (F0 m pc ls (.ref a :: rest)) :=
  g_get (own := RX6) (ref := "WheatRun$Ticket") (C := RX4) (T := TX4) (N := 7) (ci := 5) (index := 284) hx hb hts hown hK hM iaX4 rfl 6 (by decide) wf_X6_284 (fun _ h => h) ha rfl hdg kk
theorem fg_X6_291 {v0 v1 v2 v3 v4 v5 v6 v7 v8 v9 v10 v11 v12 : Value} (hx : p.tables.exec = Jvm.exec) (hb : c.code = cc) (hts : ∀ w ∈ AL, w.before args s = true) (hown : s.vm.findClass RX6 = some m.cls) (hK : Kw G s) (hM : Wd G M s H locs) (ha : M a = some (r, .inr (3, [v0, v1, v2, v3, v4, v5, v6, v7, v8, v9, v10, v11, v12]))) (hdg : decode cc pc = .ok (.getfield 291, 3)) (kk : W p l e R s m args below meth c H locs cells slots Q (F0 m (pc + 3) ls (v12 :: rest))) : W p l e R s m args below meth c H locs cells slots Q (F0 m pc ls (.ref a :: rest)) :=
  g_get (own := RX6) (ref := "WheatRun$Field") (C := RX2) (T := TX2) (N := 13) (ci := 3) (index := 291) hx hb hts hown hK hM iaX2 rfl 12 (by decide) wf_X6_291 (fun _ h => h) ha rfl hdg kk
theorem fg_X6_294 {v0 v1 v2 v3 v4 v5 v6 v7 v8 v9 v10 v11 v12 : Value} (hx : p.tables.exec = Jvm.exec) (hb : c.code = cc) (hts : ∀ w ∈ AL, w.before args s = true) (hown : s.vm.findClass RX6 = some m.cls) (hK : Kw G s) (hM : Wd G M s H locs) (ha : M a = some (r, .inr (3, [v0, v1, v2, v3, v4, v5, v6, v7, v8, v9, v10, v11, v12]))) (hdg : decode cc pc = .ok (.getfield 294, 3)) (kk : W p l e R s m args below meth c H locs cells slots Q (F0 m (pc + 3) ls (v11 :: rest))) : W p l e R s m args below meth c H locs cells slots Q (F0 m pc ls (.ref a :: rest)) :=
  g_get (own := RX6) (ref := "WheatRun$Field") (C := RX2) (T := TX2) (N := 13) (ci := 3) (index := 294) hx hb hts hown hK hM iaX2 rfl 11 (by decide) wf_X6_294 (fun _ h => h) ha rfl hdg kk
theorem fg_X6_386 {v0 v1 v2 v3 v4 v5 v6 v7 v8 v9 v10 v11 : Value} (hx : p.tables.exec = Jvm.exec) (hb : c.code = cc) (hts : ∀ w ∈ AL, w.before args s = true) (hown : s.vm.findClass RX6 = some m.cls) (hK : Kw G s) (hM : Wd G M s H locs) (ha : M a = some (r, .inr (1, [v0, v1, v2, v3, v4, v5, v6, v7, v8, v9, v10, v11]))) (hdg : decode cc pc = .ok (.getfield 386, 3)) (kk : W p l e R s m args below meth c H locs cells slots Q (F0 m (pc + 3) ls (v11 :: rest))) : W p l e R s m args below meth c H locs cells slots Q (F0 m pc ls (.ref a :: rest)) :=
  g_get (own := RX6) (ref := "WheatRun$Combine") (C := RX0) (T := TX0) (N := 12) (ci := 1) (index := 386) hx hb hts hown hK hM iaX0 rfl 11 (by decide) wf_X6_386 (fun _ h => h) ha rfl hdg kk
theorem fg_X7_11 {v0 v1 v2 v3 v4 v5 v6 v7 v8 v9 : Value} (hx : p.tables.exec = Jvm.exec) (hb : c.code = cc) (hts : ∀ w ∈ AL, w.before args s = true) (hown : s.vm.findClass RX7 = some m.cls) (hK : Kw G s) (hM : Wd G M s H locs) (ha : M a = some (r, .inr (8, [v0, v1, v2, v3, v4, v5, v6, v7, v8, v9]))) (hdg : decode cc pc = .ok (.getfield 11, 3)) (kk : W p l e R s m args below meth c H locs cells slots Q (F0 m (pc + 3) ls (v0 :: rest))) : W p l e R s m args below meth c H locs cells slots Q (F0 m pc ls (.ref a :: rest)) :=
  g_get (own := RX7) (ref := "WheatRunModel$Land") (C := RX7) (T := TX7) (N := 10) (ci := 8) (index := 11) hx hb hts hown hK hM iaX7 rfl 0 (by decide) wf_X7_11 (fun _ h => h) ha rfl hdg kk
theorem fg_X7_16 {v0 v1 v2 v3 v4 v5 v6 v7 v8 v9 : Value} (hx : p.tables.exec = Jvm.exec) (hb : c.code = cc) (hts : ∀ w ∈ AL, w.before args s = true) (hown : s.vm.findClass RX7 = some m.cls) (hK : Kw G s) (hM : Wd G M s H locs) (ha : M a = some (r, .inr (8, [v0, v1, v2, v3, v4, v5, v6, v7, v8, v9]))) (hdg : decode cc pc = .ok (.getfield 16, 3)) (kk : W p l e R s m args below meth c H locs cells slots Q (F0 m (pc + 3) ls (v1 :: rest))) : W p l e R s m args below meth c H locs cells slots Q (F0 m pc ls (.ref a :: rest)) :=
  g_get (own := RX7) (ref := "WheatRunModel$Land") (C := RX7) (T := TX7) (N := 10) (ci := 8) (index := 16) hx hb hts hown hK hM iaX7 rfl 1 (by decide) wf_X7_16 (fun _ h => h) ha rfl hdg kk
theorem fg_X7_19 {v0 v1 v2 v3 v4 v5 v6 v7 v8 v9 : Value} (hx : p.tables.exec = Jvm.exec) (hb : c.code = cc) (hts : ∀ w ∈ AL, w.before args s = true) (hown : s.vm.findClass RX7 = some m.cls) (hK : Kw G s) (hM : Wd G M s H locs) (ha : M a = some (r, .inr (8, [v0, v1, v2, v3, v4, v5, v6, v7, v8, v9]))) (hdg : decode cc pc = .ok (.getfield 19, 3)) (kk : W p l e R s m args below meth c H locs cells slots Q (F0 m (pc + 3) ls (v2 :: rest))) : W p l e R s m args below meth c H locs cells slots Q (F0 m pc ls (.ref a :: rest)) :=
  g_get (own := RX7) (ref := "WheatRunModel$Land") (C := RX7) (T := TX7) (N := 10) (ci := 8) (index := 19) hx hb hts hown hK hM iaX7 rfl 2 (by decide) wf_X7_19 (fun _ h => h) ha rfl hdg kk
theorem fg_X7_22 {v0 v1 v2 v3 v4 v5 v6 v7 v8 v9 : Value} (hx : p.tables.exec = Jvm.exec) (hb : c.code = cc) (hts : ∀ w ∈ AL, w.before args s = true) (hown : s.vm.findClass RX7 = some m.cls) (hK : Kw G s) (hM : Wd G M s H locs) (ha : M a = some (r, .inr (8, [v0, v1, v2, v3, v4, v5, v6, v7, v8, v9]))) (hdg : decode cc pc = .ok (.getfield 22, 3)) (kk : W p l e R s m args below meth c H locs cells slots Q (F0 m (pc + 3) ls (v3 :: rest))) : W p l e R s m args below meth c H locs cells slots Q (F0 m pc ls (.ref a :: rest)) :=
  g_get (own := RX7) (ref := "WheatRunModel$Land") (C := RX7) (T := TX7) (N := 10) (ci := 8) (index := 22) hx hb hts hown hK hM iaX7 rfl 3 (by decide) wf_X7_22 (fun _ h => h) ha rfl hdg kk
theorem fg_X7_28 {v0 v1 v2 v3 v4 v5 v6 v7 v8 v9 : Value} (hx : p.tables.exec = Jvm.exec) (hb : c.code = cc) (hts : ∀ w ∈ AL, w.before args s = true) (hown : s.vm.findClass RX7 = some m.cls) (hK : Kw G s) (hM : Wd G M s H locs) (ha : M a = some (r, .inr (8, [v0, v1, v2, v3, v4, v5, v6, v7, v8, v9]))) (hdg : decode cc pc = .ok (.getfield 28, 3)) (kk : W p l e R s m args below meth c H locs cells slots Q (F0 m (pc + 3) ls (v4 :: rest))) : W p l e R s m args below meth c H locs cells slots Q (F0 m pc ls (.ref a :: rest)) :=
  g_get (own := RX7) (ref := "WheatRunModel$Land") (C := RX7) (T := TX7) (N := 10) (ci := 8) (index := 28) hx hb hts hown hK hM iaX7 rfl 4 (by decide) wf_X7_28 (fun _ h => h) ha rfl hdg kk
theorem fg_X7_33 {v0 v1 v2 v3 v4 v5 v6 v7 v8 v9 : Value} (hx : p.tables.exec = Jvm.exec) (hb : c.code = cc) (hts : ∀ w ∈ AL, w.before args s = true) (hown : s.vm.findClass RX7 = some m.cls) (hK : Kw G s) (hM : Wd G M s H locs) (ha : M a = some (r, .inr (8, [v0, v1, v2, v3, v4, v5, v6, v7, v8, v9]))) (hdg : decode cc pc = .ok (.getfield 33, 3)) (kk : W p l e R s m args below meth c H locs cells slots Q (F0 m (pc + 3) ls (v6 :: rest))) : W p l e R s m args below meth c H locs cells slots Q (F0 m pc ls (.ref a :: rest)) :=
  g_get (own := RX7) (ref := "WheatRunModel$Land") (C := RX7) (T := TX7) (N := 10) (ci := 8) (index := 33) hx hb hts hown hK hM iaX7 rfl 6 (by decide) wf_X7_33 (fun _ h => h) ha rfl hdg kk
theorem fg_X7_43 {v0 v1 v2 v3 v4 v5 v6 v7 v8 v9 : Value} (hx : p.tables.exec = Jvm.exec) (hb : c.code = cc) (hts : ∀ w ∈ AL, w.before args s = true) (hown : s.vm.findClass RX7 = some m.cls) (hK : Kw G s) (hM : Wd G M s H locs) (ha : M a = some (r, .inr (8, [v0, v1, v2, v3, v4, v5, v6, v7, v8, v9]))) (hdg : decode cc pc = .ok (.getfield 43, 3)) (kk : W p l e R s m args below meth c H locs cells slots Q (F0 m (pc + 3) ls (v7 :: rest))) : W p l e R s m args below meth c H locs cells slots Q (F0 m pc ls (.ref a :: rest)) :=
  g_get (own := RX7) (ref := "WheatRunModel$Land") (C := RX7) (T := TX7) (N := 10) (ci := 8) (index := 43) hx hb hts hown hK hM iaX7 rfl 7 (by decide) wf_X7_43 (fun _ h => h) ha rfl hdg kk
theorem fg_X7_46 {v0 v1 v2 v3 v4 v5 v6 v7 v8 v9 : Value} (hx : p.tables.exec = Jvm.exec) (hb : c.code = cc) (hts : ∀ w ∈ AL, w.before args s = true) (hown : s.vm.findClass RX7 = some m.cls) (hK : Kw G s) (hM : Wd G M s H locs) (ha : M a = some (r, .inr (8, [v0, v1, v2, v3, v4, v5, v6, v7, v8, v9]))) (hdg : decode cc pc = .ok (.getfield 46, 3)) (kk : W p l e R s m args below meth c H locs cells slots Q (F0 m (pc + 3) ls (v8 :: rest))) : W p l e R s m args below meth c H locs cells slots Q (F0 m pc ls (.ref a :: rest)) :=
  g_get (own := RX7) (ref := "WheatRunModel$Land") (C := RX7) (T := TX7) (N := 10) (ci := 8) (index := 46) hx hb hts hown hK hM iaX7 rfl 8 (by decide) wf_X7_46 (fun _ h => h) ha rfl hdg kk
theorem fg_X7_49 {v0 v1 v2 v3 v4 v5 v6 v7 v8 v9 : Value} (hx : p.tables.exec = Jvm.exec) (hb : c.code = cc) (hts : ∀ w ∈ AL, w.before args s = true) (hown : s.vm.findClass RX7 = some m.cls) (hK : Kw G s) (hM : Wd G M s H locs) (ha : M a = some (r, .inr (8, [v0, v1, v2, v3, v4, v5, v6, v7, v8, v9]))) (hdg : decode cc pc = .ok (.getfield 49, 3)) (kk : W p l e R s m args below meth c H locs cells slots Q (F0 m (pc + 3) ls (v9 :: rest))) : W p l e R s m args below meth c H locs cells slots Q (F0 m pc ls (.ref a :: rest)) :=
  g_get (own := RX7) (ref := "WheatRunModel$Land") (C := RX7) (T := TX7) (N := 10) (ci := 8) (index := 49) hx hb hts hown hK hM iaX7 rfl 9 (by decide) wf_X7_49 (fun _ h => h) ha rfl hdg kk
theorem fg_X7_52 {v0 v1 v2 v3 v4 v5 v6 v7 v8 v9 : Value} (hx : p.tables.exec = Jvm.exec) (hb : c.code = cc) (hts : ∀ w ∈ AL, w.before args s = true) (hown : s.vm.findClass RX7 = some m.cls) (hK : Kw G s) (hM : Wd G M s H locs) (ha : M a = some (r, .inr (8, [v0, v1, v2, v3, v4, v5, v6, v7, v8, v9]))) (hdg : decode cc pc = .ok (.getfield 52, 3)) (kk : W p l e R s m args below meth c H locs cells slots Q (F0 m (pc + 3) ls (v5 :: rest))) : W p l e R s m args below meth c H locs cells slots Q (F0 m pc ls (.ref a :: rest)) :=
  g_get (own := RX7) (ref := "WheatRunModel$Land") (C := RX7) (T := TX7) (N := 10) (ci := 8) (index := 52) hx hb hts hown hK hM iaX7 rfl 5 (by decide) wf_X7_52 (fun _ h => h) ha rfl hdg kk
theorem fg_X8_10 {v0 v1 v2 v3 v4 v5 : Value} (hx : p.tables.exec = Jvm.exec) (hb : c.code = cc) (hts : ∀ w ∈ AL, w.before args s = true) (hown : s.vm.findClass RX8 = some m.cls) (hK : Kw G s) (hM : Wd G M s H locs) (ha : M a = some (r, .inr (9, [v0, v1, v2, v3, v4, v5]))) (hdg : decode cc pc = .ok (.getfield 10, 3)) (kk : W p l e R s m args below meth c H locs cells slots Q (F0 m (pc + 3) ls (v1 :: rest))) : W p l e R s m args below meth c H locs cells slots Q (F0 m pc ls (.ref a :: rest)) :=
  g_get (own := RX8) (ref := "WheatRunModel") (C := RX8) (T := TX8) (N := 6) (ci := 9) (index := 10) hx hb hts hown hK hM iaX8 rfl 1 (by decide) wf_X8_10 (fun _ h => h) ha rfl hdg kk
theorem fg_X8_16 {v0 v1 v2 v3 v4 v5 : Value} (hx : p.tables.exec = Jvm.exec) (hb : c.code = cc) (hts : ∀ w ∈ AL, w.before args s = true) (hown : s.vm.findClass RX8 = some m.cls) (hK : Kw G s) (hM : Wd G M s H locs) (ha : M a = some (r, .inr (9, [v0, v1, v2, v3, v4, v5]))) (hdg : decode cc pc = .ok (.getfield 16, 3)) (kk : W p l e R s m args below meth c H locs cells slots Q (F0 m (pc + 3) ls (v2 :: rest))) : W p l e R s m args below meth c H locs cells slots Q (F0 m pc ls (.ref a :: rest)) :=
  g_get (own := RX8) (ref := "WheatRunModel") (C := RX8) (T := TX8) (N := 6) (ci := 9) (index := 16) hx hb hts hown hK hM iaX8 rfl 2 (by decide) wf_X8_16 (fun _ h => h) ha rfl hdg kk
theorem fg_X8_20 {v0 v1 v2 v3 v4 v5 : Value} (hx : p.tables.exec = Jvm.exec) (hb : c.code = cc) (hts : ∀ w ∈ AL, w.before args s = true) (hown : s.vm.findClass RX8 = some m.cls) (hK : Kw G s) (hM : Wd G M s H locs) (ha : M a = some (r, .inr (9, [v0, v1, v2, v3, v4, v5]))) (hdg : decode cc pc = .ok (.getfield 20, 3)) (kk : W p l e R s m args below meth c H locs cells slots Q (F0 m (pc + 3) ls (v3 :: rest))) : W p l e R s m args below meth c H locs cells slots Q (F0 m pc ls (.ref a :: rest)) :=
  g_get (own := RX8) (ref := "WheatRunModel") (C := RX8) (T := TX8) (N := 6) (ci := 9) (index := 20) hx hb hts hown hK hM iaX8 rfl 3 (by decide) wf_X8_20 (fun _ h => h) ha rfl hdg kk
theorem fg_X8_23 {v0 v1 v2 v3 v4 v5 : Value} (hx : p.tables.exec = Jvm.exec) (hb : c.code = cc) (hts : ∀ w ∈ AL, w.before args s = true) (hown : s.vm.findClass RX8 = some m.cls) (hK : Kw G s) (hM : Wd G M s H locs) (ha : M a = some (r, .inr (9, [v0, v1, v2, v3, v4, v5]))) (hdg : decode cc pc = .ok (.getfield 23, 3)) (kk : W p l e R s m args below meth c H locs cells slots Q (F0 m (pc + 3) ls (v4 :: rest))) : W p l e R s m args below meth c H locs cells slots Q (F0 m pc ls (.ref a :: rest)) :=
  g_get (own := RX8) (ref := "WheatRunModel") (C := RX8) (T := TX8) (N := 6) (ci := 9) (index := 23) hx hb hts hown hK hM iaX8 rfl 4 (by decide) wf_X8_23 (fun _ h => h) ha rfl hdg kk
theorem fg_X8_27 {v0 v1 v2 v3 v4 v5 : Value} (hx : p.tables.exec = Jvm.exec) (hb : c.code = cc) (hts : ∀ w ∈ AL, w.before args s = true) (hown : s.vm.findClass RX8 = some m.cls) (hK : Kw G s) (hM : Wd G M s H locs) (ha : M a = some (r, .inr (9, [v0, v1, v2, v3, v4, v5]))) (hdg : decode cc pc = .ok (.getfield 27, 3)) (kk : W p l e R s m args below meth c H locs cells slots Q (F0 m (pc + 3) ls (v5 :: rest))) : W p l e R s m args below meth c H locs cells slots Q (F0 m pc ls (.ref a :: rest)) :=
  g_get (own := RX8) (ref := "WheatRunModel") (C := RX8) (T := TX8) (N := 6) (ci := 9) (index := 27) hx hb hts hown hK hM iaX8 rfl 5 (by decide) wf_X8_27 (fun _ h => h) ha rfl hdg kk
theorem fg_X8_30 {v0 v1 v2 v3 v4 v5 : Value} (hx : p.tables.exec = Jvm.exec) (hb : c.code = cc) (hts : ∀ w ∈ AL, w.before args s = true) (hown : s.vm.findClass RX8 = some m.cls) (hK : Kw G s) (hM : Wd G M s H locs) (ha : M a = some (r, .inr (9, [v0, v1, v2, v3, v4, v5]))) (hdg : decode cc pc = .ok (.getfield 30, 3)) (kk : W p l e R s m args below meth c H locs cells slots Q (F0 m (pc + 3) ls (v0 :: rest))) : W p l e R s m args below meth c H locs cells slots Q (F0 m pc ls (.ref a :: rest)) :=
  g_get (own := RX8) (ref := "WheatRunModel") (C := RX8) (T := TX8) (N := 6) (ci := 9) (index := 30) hx hb hts hown hK hM iaX8 rfl 0 (by decide) wf_X8_30 (fun _ h => h) ha rfl hdg kk
theorem fg_X8_33 {v0 v1 v2 v3 v4 v5 v6 v7 v8 v9 : Value} (hx : p.tables.exec = Jvm.exec) (hb : c.code = cc) (hts : ∀ w ∈ AL, w.before args s = true) (hown : s.vm.findClass RX8 = some m.cls) (hK : Kw G s) (hM : Wd G M s H locs) (ha : M a = some (r, .inr (8, [v0, v1, v2, v3, v4, v5, v6, v7, v8, v9]))) (hdg : decode cc pc = .ok (.getfield 33, 3)) (kk : W p l e R s m args below meth c H locs cells slots Q (F0 m (pc + 3) ls (v6 :: rest))) : W p l e R s m args below meth c H locs cells slots Q (F0 m pc ls (.ref a :: rest)) :=
  g_get (own := RX8) (ref := "WheatRunModel$Land") (C := RX7) (T := TX7) (N := 10) (ci := 8) (index := 33) hx hb hts hown hK hM iaX7 rfl 6 (by decide) wf_X8_33 (fun _ h => h) ha rfl hdg kk
theorem fg_X8_40 {v0 v1 v2 v3 v4 v5 v6 v7 v8 v9 : Value} (hx : p.tables.exec = Jvm.exec) (hb : c.code = cc) (hts : ∀ w ∈ AL, w.before args s = true) (hown : s.vm.findClass RX8 = some m.cls) (hK : Kw G s) (hM : Wd G M s H locs) (ha : M a = some (r, .inr (8, [v0, v1, v2, v3, v4, v5, v6, v7, v8, v9]))) (hdg : decode cc pc = .ok (.getfield 40, 3)) (kk : W p l e R s m args below meth c H locs cells slots Q (F0 m (pc + 3) ls (v7 :: rest))) : W p l e R s m args below meth c H locs cells slots Q (F0 m pc ls (.ref a :: rest)) :=
  g_get (own := RX8) (ref := "WheatRunModel$Land") (C := RX7) (T := TX7) (N := 10) (ci := 8) (index := 40) hx hb hts hown hK hM iaX7 rfl 7 (by decide) wf_X8_40 (fun _ h => h) ha rfl hdg kk
theorem fg_X8_43 {v0 v1 v2 v3 v4 v5 v6 v7 v8 v9 : Value} (hx : p.tables.exec = Jvm.exec) (hb : c.code = cc) (hts : ∀ w ∈ AL, w.before args s = true) (hown : s.vm.findClass RX8 = some m.cls) (hK : Kw G s) (hM : Wd G M s H locs) (ha : M a = some (r, .inr (8, [v0, v1, v2, v3, v4, v5, v6, v7, v8, v9]))) (hdg : decode cc pc = .ok (.getfield 43, 3)) (kk : W p l e R s m args below meth c H locs cells slots Q (F0 m (pc + 3) ls (v8 :: rest))) : W p l e R s m args below meth c H locs cells slots Q (F0 m pc ls (.ref a :: rest)) :=
  g_get (own := RX8) (ref := "WheatRunModel$Land") (C := RX7) (T := TX7) (N := 10) (ci := 8) (index := 43) hx hb hts hown hK hM iaX7 rfl 8 (by decide) wf_X8_43 (fun _ h => h) ha rfl hdg kk
theorem fg_X8_46 {v0 v1 v2 v3 v4 v5 v6 v7 v8 v9 : Value} (hx : p.tables.exec = Jvm.exec) (hb : c.code = cc) (hts : ∀ w ∈ AL, w.before args s = true) (hown : s.vm.findClass RX8 = some m.cls) (hK : Kw G s) (hM : Wd G M s H locs) (ha : M a = some (r, .inr (8, [v0, v1, v2, v3, v4, v5, v6, v7, v8, v9]))) (hdg : decode cc pc = .ok (.getfield 46, 3)) (kk : W p l e R s m args below meth c H locs cells slots Q (F0 m (pc + 3) ls (v9 :: rest))) : W p l e R s m args below meth c H locs cells slots Q (F0 m pc ls (.ref a :: rest)) :=
  g_get (own := RX8) (ref := "WheatRunModel$Land") (C := RX7) (T := TX7) (N := 10) (ci := 8) (index := 46) hx hb hts hown hK hM iaX7 rfl 9 (by decide) wf_X8_46 (fun _ h => h) ha rfl hdg kk
theorem fg_X8_57 {v0 v1 v2 v3 v4 v5 v6 v7 v8 v9 : Value} (hx : p.tables.exec = Jvm.exec) (hb : c.code = cc) (hts : ∀ w ∈ AL, w.before args s = true) (hown : s.vm.findClass RX8 = some m.cls) (hK : Kw G s) (hM : Wd G M s H locs) (ha : M a = some (r, .inr (8, [v0, v1, v2, v3, v4, v5, v6, v7, v8, v9]))) (hdg : decode cc pc = .ok (.getfield 57, 3)) (kk : W p l e R s m args below meth c H locs cells slots Q (F0 m (pc + 3) ls (v0 :: rest))) : W p l e R s m args below meth c H locs cells slots Q (F0 m pc ls (.ref a :: rest)) :=
  g_get (own := RX8) (ref := "WheatRunModel$Land") (C := RX7) (T := TX7) (N := 10) (ci := 8) (index := 57) hx hb hts hown hK hM iaX7 rfl 0 (by decide) wf_X8_57 (fun _ h => h) ha rfl hdg kk
theorem fg_X8_70 {v0 v1 v2 v3 v4 v5 v6 v7 v8 v9 : Value} (hx : p.tables.exec = Jvm.exec) (hb : c.code = cc) (hts : ∀ w ∈ AL, w.before args s = true) (hown : s.vm.findClass RX8 = some m.cls) (hK : Kw G s) (hM : Wd G M s H locs) (ha : M a = some (r, .inr (8, [v0, v1, v2, v3, v4, v5, v6, v7, v8, v9]))) (hdg : decode cc pc = .ok (.getfield 70, 3)) (kk : W p l e R s m args below meth c H locs cells slots Q (F0 m (pc + 3) ls (v1 :: rest))) : W p l e R s m args below meth c H locs cells slots Q (F0 m pc ls (.ref a :: rest)) :=
  g_get (own := RX8) (ref := "WheatRunModel$Land") (C := RX7) (T := TX7) (N := 10) (ci := 8) (index := 70) hx hb hts hown hK hM iaX7 rfl 1 (by decide) wf_X8_70 (fun _ h => h) ha rfl hdg kk
theorem fg_X8_73 {v0 v1 v2 v3 v4 v5 v6 v7 v8 v9 : Value} (hx : p.tables.exec = Jvm.exec) (hb : c.code = cc) (hts : ∀ w ∈ AL, w.before args s = true) (hown : s.vm.findClass RX8 = some m.cls) (hK : Kw G s) (hM : Wd G M s H locs) (ha : M a = some (r, .inr (8, [v0, v1, v2, v3, v4, v5, v6, v7, v8, v9]))) (hdg : decode cc pc = .ok (.getfield 73, 3)) (kk : W p l e R s m args below meth c H locs cells slots Q (F0 m (pc + 3) ls (v2 :: rest))) : W p l e R s m args below meth c H locs cells slots Q (F0 m pc ls (.ref a :: rest)) :=
  g_get (own := RX8) (ref := "WheatRunModel$Land") (C := RX7) (T := TX7) (N := 10) (ci := 8) (index := 73) hx hb hts hown hK hM iaX7 rfl 2 (by decide) wf_X8_73 (fun _ h => h) ha rfl hdg kk
theorem fg_X8_76 {v0 v1 v2 v3 v4 v5 v6 v7 v8 v9 : Value} (hx : p.tables.exec = Jvm.exec) (hb : c.code = cc) (hts : ∀ w ∈ AL, w.before args s = true) (hown : s.vm.findClass RX8 = some m.cls) (hK : Kw G s) (hM : Wd G M s H locs) (ha : M a = some (r, .inr (8, [v0, v1, v2, v3, v4, v5, v6, v7, v8, v9]))) (hdg : decode cc pc = .ok (.getfield 76, 3)) (kk : W p l e R s m args below meth c H locs cells slots Q (F0 m (pc + 3) ls (v3 :: rest))) : W p l e R s m args below meth c H locs cells slots Q (F0 m pc ls (.ref a :: rest)) :=
  g_get (own := RX8) (ref := "WheatRunModel$Land") (C := RX7) (T := TX7) (N := 10) (ci := 8) (index := 76) hx hb hts hown hK hM iaX7 rfl 3 (by decide) wf_X8_76 (fun _ h => h) ha rfl hdg kk
theorem fg_X8_107 {v0 v1 v2 v3 v4 v5 v6 v7 v8 v9 : Value} (hx : p.tables.exec = Jvm.exec) (hb : c.code = cc) (hts : ∀ w ∈ AL, w.before args s = true) (hown : s.vm.findClass RX8 = some m.cls) (hK : Kw G s) (hM : Wd G M s H locs) (ha : M a = some (r, .inr (8, [v0, v1, v2, v3, v4, v5, v6, v7, v8, v9]))) (hdg : decode cc pc = .ok (.getfield 107, 3)) (kk : W p l e R s m args below meth c H locs cells slots Q (F0 m (pc + 3) ls (v5 :: rest))) : W p l e R s m args below meth c H locs cells slots Q (F0 m pc ls (.ref a :: rest)) :=
  g_get (own := RX8) (ref := "WheatRunModel$Land") (C := RX7) (T := TX7) (N := 10) (ci := 8) (index := 107) hx hb hts hown hK hM iaX7 rfl 5 (by decide) wf_X8_107 (fun _ h => h) ha rfl hdg kk
theorem fg_X8_110 {v0 v1 v2 v3 v4 v5 v6 v7 v8 v9 : Value} (hx : p.tables.exec = Jvm.exec) (hb : c.code = cc) (hts : ∀ w ∈ AL, w.before args s = true) (hown : s.vm.findClass RX8 = some m.cls) (hK : Kw G s) (hM : Wd G M s H locs) (ha : M a = some (r, .inr (8, [v0, v1, v2, v3, v4, v5, v6, v7, v8, v9]))) (hdg : decode cc pc = .ok (.getfield 110, 3)) (kk : W p l e R s m args below meth c H locs cells slots Q (F0 m (pc + 3) ls (v4 :: rest))) : W p l e R s m args below meth c H locs cells slots Q (F0 m pc ls (.ref a :: rest)) :=
  g_get (own := RX8) (ref := "WheatRunModel$Land") (C := RX7) (T := TX7) (N := 10) (ci := 8) (index := 110) hx hb hts hown hK hM iaX7 rfl 4 (by decide) wf_X8_110 (fun _ h => h) ha rfl hdg kk
theorem fp_Jx4a65c_9 {v0 v1 v2 : Value} {q : Nat} (hx : p.tables.exec = Jvm.exec) (hb : c.code = cc) (hts : ∀ w ∈ AL, w.before args s = true) (hown : s.vm.findClass RJx4a65c = some m.cls) (hK : Kw G s) (hM : Wd G M s H locs) (ha : M a = some (r, .inr (0, [v0, v1, v2]))) (hdg : decode cc pc = .ok (.putfield 9, 3)) (kk : ∀ (H : Heap) (locs : List Loc), Wd G (hu M a r (.inr (0, [v0, .ref q, v2]))) s H locs → W p l e R s m args below meth c H locs cells slots Q (F0 m (pc + 3) ls rest)) : W p l e R s m args below meth c H locs cells slots Q (F0 m pc ls (.ref q :: .ref a :: rest)) :=
  g_put (own := RJx4a65c) (ref := "java/util/ArrayList") (C := RJx4a65c) (T := TJx4a65c) (N := 3) (ci := 0) (index := 9) (ty := .array (.array .int)) hx hb hts hown hK hM iaJx4a65c rfl 1 (by decide) wf_Jx4a65c_9 (fun _ h => h) tyJx4a65c tyJx4a65c_ok nmJx4a65c rfl (by decide +kernel) rfl rfl ha (Nat.le_of_ble_eq_true rfl) hdg kk
theorem fp_Jx4a65c_48 {v0 v1 v2 : Value} {z : Int32} (hx : p.tables.exec = Jvm.exec) (hb : c.code = cc) (hts : ∀ w ∈ AL, w.before args s = true) (hown : s.vm.findClass RJx4a65c = some m.cls) (hK : Kw G s) (hM : Wd G M s H locs) (ha : M a = some (r, .inr (0, [v0, v1, v2]))) (hdg : decode cc pc = .ok (.putfield 48, 3)) (kk : ∀ (H : Heap) (locs : List Loc), Wd G (hu M a r (.inr (0, [v0, v1, .int z]))) s H locs → W p l e R s m args below meth c H locs cells slots Q (F0 m (pc + 3) ls rest)) : W p l e R s m args below meth c H locs cells slots Q (F0 m pc ls (.int z :: .ref a :: rest)) :=
  g_put (own := RJx4a65c) (ref := "java/util/ArrayList") (C := RJx4a65c) (T := TJx4a65c) (N := 3) (ci := 0) (index := 48) (ty := .int) hx hb hts hown hK hM iaJx4a65c rfl 2 (by decide) wf_Jx4a65c_48 (fun _ h => h) tyJx4a65c tyJx4a65c_ok nmJx4a65c rfl (by decide +kernel) rfl rfl ha (Nat.le_of_ble_eq_true rfl) hdg kk
theorem fp_Jx4a65c_63 {v0 v1 v2 : Value} {z : Int32} (hx : p.tables.exec = Jvm.exec) (hb : c.code = cc) (hts : ∀ w ∈ AL, w.before args s = true) (hown : s.vm.findClass RJx4a65c = some m.cls) (hK : Kw G s) (hM : Wd G M s H locs) (ha : M a = some (r, .inr (0, [v0, v1, v2]))) (hdg : decode cc pc = .ok (.putfield 63, 3)) (kk : ∀ (H : Heap) (locs : List Loc), Wd G (hu M a r (.inr (0, [.int z, v1, v2]))) s H locs → W p l e R s m args below meth c H locs cells slots Q (F0 m (pc + 3) ls rest)) : W p l e R s m args below meth c H locs cells slots Q (F0 m pc ls (.int z :: .ref a :: rest)) :=
  g_put (own := RJx4a65c) (ref := "java/util/ArrayList") (C := RJx4a65c) (T := TJx4a65c) (N := 3) (ci := 0) (index := 63) (ty := .int) hx hb hts hown hK hM iaJx4a65c rfl 0 (by decide) wf_Jx4a65c_63 (fun x9 h9 => u_same (hts _ ws_java_util_ArrayList_java_util_AbstractList_modCount_I) x9 h9) tyJx4a65c tyJx4a65c_ok nmJx4a65c rfl (by decide +kernel) rfl rfl ha (Nat.le_of_ble_eq_true rfl) hdg kk
theorem fp_Jxc12de_7 {v0 v1 v2 : Value} {z : Int32} (hx : p.tables.exec = Jvm.exec) (hb : c.code = cc) (hts : ∀ w ∈ AL, w.before args s = true) (hown : s.vm.findClass RJxc12de = some m.cls) (hK : Kw G s) (hM : Wd G M s H locs) (ha : M a = some (r, .inr (0, [v0, v1, v2]))) (hdg : decode cc pc = .ok (.putfield 7, 3)) (kk : ∀ (H : Heap) (locs : List Loc), Wd G (hu M a r (.inr (0, [.int z, v1, v2]))) s H locs → W p l e R s m args below meth c H locs cells slots Q (F0 m (pc + 3) ls rest)) : W p l e R s m args below meth c H locs cells slots Q (F0 m pc ls (.int z :: .ref a :: rest)) :=
  g_put (own := RJxc12de) (ref := "java/util/AbstractList") (C := RJx4a65c) (T := TJx4a65c) (N := 3) (ci := 0) (index := 7) (ty := .int) hx hb hts hown hK hM iaJx4a65c rfl 0 (by decide) wf_Jxc12de_7 (fun _ h => h) tyJx4a65c tyJx4a65c_ok nmJx4a65c rfl (by decide +kernel) rfl rfl ha (Nat.le_of_ble_eq_true rfl) hdg kk
theorem fp_X0_9 {v0 v1 v2 v3 v4 v5 v6 v7 v8 v9 v10 v11 : Value} {z : Int32} (hx : p.tables.exec = Jvm.exec) (hb : c.code = cc) (hts : ∀ w ∈ AL, w.before args s = true) (hown : s.vm.findClass RX0 = some m.cls) (hK : Kw G s) (hM : Wd G M s H locs) (ha : M a = some (r, .inr (1, [v0, v1, v2, v3, v4, v5, v6, v7, v8, v9, v10, v11]))) (hdg : decode cc pc = .ok (.putfield 9, 3)) (kk : ∀ (H : Heap) (locs : List Loc), Wd G (hu M a r (.inr (1, [v0, v1, v2, v3, .int z, v5, v6, v7, v8, v9, v10, v11]))) s H locs → W p l e R s m args below meth c H locs cells slots Q (F0 m (pc + 3) ls rest)) : W p l e R s m args below meth c H locs cells slots Q (F0 m pc ls (.int z :: .ref a :: rest)) :=
  g_put (own := RX0) (ref := "WheatRun$Combine") (C := RX0) (T := TX0) (N := 12) (ci := 1) (index := 9) (ty := .int) hx hb hts hown hK hM iaX0 rfl 4 (by decide) wf_X0_9 (fun _ h => h) tyX0 tyX0_ok nmX0 rfl (by decide +kernel) rfl rfl ha (Nat.le_of_ble_eq_true rfl) hdg kk
theorem fp_X0_15 {v0 v1 v2 v3 v4 v5 v6 v7 v8 v9 v10 v11 : Value} {z : Int32} (hx : p.tables.exec = Jvm.exec) (hb : c.code = cc) (hts : ∀ w ∈ AL, w.before args s = true) (hown : s.vm.findClass RX0 = some m.cls) (hK : Kw G s) (hM : Wd G M s H locs) (ha : M a = some (r, .inr (1, [v0, v1, v2, v3, v4, v5, v6, v7, v8, v9, v10, v11]))) (hdg : decode cc pc = .ok (.putfield 15, 3)) (kk : ∀ (H : Heap) (locs : List Loc), Wd G (hu M a r (.inr (1, [v0, v1, v2, v3, v4, v5, v6, v7, v8, .int z, v10, v11]))) s H locs → W p l e R s m args below meth c H locs cells slots Q (F0 m (pc + 3) ls rest)) : W p l e R s m args below meth c H locs cells slots Q (F0 m pc ls (.int z :: .ref a :: rest)) :=
  g_put (own := RX0) (ref := "WheatRun$Combine") (C := RX0) (T := TX0) (N := 12) (ci := 1) (index := 15) (ty := .int) hx hb hts hown hK hM iaX0 rfl 9 (by decide) wf_X0_15 (fun _ h => h) tyX0 tyX0_ok nmX0 rfl (by decide +kernel) rfl rfl ha (Nat.le_of_ble_eq_true rfl) hdg kk
theorem fp_X0_18 {v0 v1 v2 v3 v4 v5 v6 v7 v8 v9 v10 v11 : Value} {z : Int32} (hx : p.tables.exec = Jvm.exec) (hb : c.code = cc) (hts : ∀ w ∈ AL, w.before args s = true) (hown : s.vm.findClass RX0 = some m.cls) (hK : Kw G s) (hM : Wd G M s H locs) (ha : M a = some (r, .inr (1, [v0, v1, v2, v3, v4, v5, v6, v7, v8, v9, v10, v11]))) (hdg : decode cc pc = .ok (.putfield 18, 3)) (kk : ∀ (H : Heap) (locs : List Loc), Wd G (hu M a r (.inr (1, [.int z, v1, v2, v3, v4, v5, v6, v7, v8, v9, v10, v11]))) s H locs → W p l e R s m args below meth c H locs cells slots Q (F0 m (pc + 3) ls rest)) : W p l e R s m args below meth c H locs cells slots Q (F0 m pc ls (.int z :: .ref a :: rest)) :=
  g_put (own := RX0) (ref := "WheatRun$Combine") (C := RX0) (T := TX0) (N := 12) (ci := 1) (index := 18) (ty := .int) hx hb hts hown hK hM iaX0 rfl 0 (by decide) wf_X0_18 (fun _ h => h) tyX0 tyX0_ok nmX0 rfl (by decide +kernel) rfl rfl ha (Nat.le_of_ble_eq_true rfl) hdg kk
theorem fp_X0_21 {v0 v1 v2 v3 v4 v5 v6 v7 v8 v9 v10 v11 : Value} {z : Int32} (hx : p.tables.exec = Jvm.exec) (hb : c.code = cc) (hts : ∀ w ∈ AL, w.before args s = true) (hown : s.vm.findClass RX0 = some m.cls) (hK : Kw G s) (hM : Wd G M s H locs) (ha : M a = some (r, .inr (1, [v0, v1, v2, v3, v4, v5, v6, v7, v8, v9, v10, v11]))) (hdg : decode cc pc = .ok (.putfield 21, 3)) (kk : ∀ (H : Heap) (locs : List Loc), Wd G (hu M a r (.inr (1, [v0, .int z, v2, v3, v4, v5, v6, v7, v8, v9, v10, v11]))) s H locs → W p l e R s m args below meth c H locs cells slots Q (F0 m (pc + 3) ls rest)) : W p l e R s m args below meth c H locs cells slots Q (F0 m pc ls (.int z :: .ref a :: rest)) :=
  g_put (own := RX0) (ref := "WheatRun$Combine") (C := RX0) (T := TX0) (N := 12) (ci := 1) (index := 21) (ty := .int) hx hb hts hown hK hM iaX0 rfl 1 (by decide) wf_X0_21 (fun _ h => h) tyX0 tyX0_ok nmX0 rfl (by decide +kernel) rfl rfl ha (Nat.le_of_ble_eq_true rfl) hdg kk
theorem fp_X0_24 {v0 v1 v2 v3 v4 v5 v6 v7 v8 v9 v10 v11 : Value} {z : Int32} (hx : p.tables.exec = Jvm.exec) (hb : c.code = cc) (hts : ∀ w ∈ AL, w.before args s = true) (hown : s.vm.findClass RX0 = some m.cls) (hK : Kw G s) (hM : Wd G M s H locs) (ha : M a = some (r, .inr (1, [v0, v1, v2, v3, v4, v5, v6, v7, v8, v9, v10, v11]))) (hdg : decode cc pc = .ok (.putfield 24, 3)) (kk : ∀ (H : Heap) (locs : List Loc), Wd G (hu M a r (.inr (1, [v0, v1, .int z, v3, v4, v5, v6, v7, v8, v9, v10, v11]))) s H locs → W p l e R s m args below meth c H locs cells slots Q (F0 m (pc + 3) ls rest)) : W p l e R s m args below meth c H locs cells slots Q (F0 m pc ls (.int z :: .ref a :: rest)) :=
  g_put (own := RX0) (ref := "WheatRun$Combine") (C := RX0) (T := TX0) (N := 12) (ci := 1) (index := 24) (ty := .int) hx hb hts hown hK hM iaX0 rfl 2 (by decide) wf_X0_24 (fun _ h => h) tyX0 tyX0_ok nmX0 rfl (by decide +kernel) rfl rfl ha (Nat.le_of_ble_eq_true rfl) hdg kk
theorem fp_X0_27 {v0 v1 v2 v3 v4 v5 v6 v7 v8 v9 v10 v11 : Value} {z : Int32} (hx : p.tables.exec = Jvm.exec) (hb : c.code = cc) (hts : ∀ w ∈ AL, w.before args s = true) (hown : s.vm.findClass RX0 = some m.cls) (hK : Kw G s) (hM : Wd G M s H locs) (ha : M a = some (r, .inr (1, [v0, v1, v2, v3, v4, v5, v6, v7, v8, v9, v10, v11]))) (hdg : decode cc pc = .ok (.putfield 27, 3)) (kk : ∀ (H : Heap) (locs : List Loc), Wd G (hu M a r (.inr (1, [v0, v1, v2, .int z, v4, v5, v6, v7, v8, v9, v10, v11]))) s H locs → W p l e R s m args below meth c H locs cells slots Q (F0 m (pc + 3) ls rest)) : W p l e R s m args below meth c H locs cells slots Q (F0 m pc ls (.int z :: .ref a :: rest)) :=
  g_put (own := RX0) (ref := "WheatRun$Combine") (C := RX0) (T := TX0) (N := 12) (ci := 1) (index := 27) (ty := .int) hx hb hts hown hK hM iaX0 rfl 3 (by decide) wf_X0_27 (fun _ h => h) tyX0 tyX0_ok nmX0 rfl (by decide +kernel) rfl rfl ha (Nat.le_of_ble_eq_true rfl) hdg kk
theorem fp_X0_30 {v0 v1 v2 v3 v4 v5 v6 v7 v8 v9 v10 v11 : Value} {z : Int32} (hx : p.tables.exec = Jvm.exec) (hb : c.code = cc) (hts : ∀ w ∈ AL, w.before args s = true) (hown : s.vm.findClass RX0 = some m.cls) (hK : Kw G s) (hM : Wd G M s H locs) (ha : M a = some (r, .inr (1, [v0, v1, v2, v3, v4, v5, v6, v7, v8, v9, v10, v11]))) (hdg : decode cc pc = .ok (.putfield 30, 3)) (kk : ∀ (H : Heap) (locs : List Loc), Wd G (hu M a r (.inr (1, [v0, v1, v2, v3, v4, .int z, v6, v7, v8, v9, v10, v11]))) s H locs → W p l e R s m args below meth c H locs cells slots Q (F0 m (pc + 3) ls rest)) : W p l e R s m args below meth c H locs cells slots Q (F0 m pc ls (.int z :: .ref a :: rest)) :=
  g_put (own := RX0) (ref := "WheatRun$Combine") (C := RX0) (T := TX0) (N := 12) (ci := 1) (index := 30) (ty := .int) hx hb hts hown hK hM iaX0 rfl 5 (by decide) wf_X0_30 (fun _ h => h) tyX0 tyX0_ok nmX0 rfl (by decide +kernel) rfl rfl ha (Nat.le_of_ble_eq_true rfl) hdg kk
theorem fp_X0_33 {v0 v1 v2 v3 v4 v5 v6 v7 v8 v9 v10 v11 : Value} {z : Int32} (hx : p.tables.exec = Jvm.exec) (hb : c.code = cc) (hts : ∀ w ∈ AL, w.before args s = true) (hown : s.vm.findClass RX0 = some m.cls) (hK : Kw G s) (hM : Wd G M s H locs) (ha : M a = some (r, .inr (1, [v0, v1, v2, v3, v4, v5, v6, v7, v8, v9, v10, v11]))) (hdg : decode cc pc = .ok (.putfield 33, 3)) (kk : ∀ (H : Heap) (locs : List Loc), Wd G (hu M a r (.inr (1, [v0, v1, v2, v3, v4, v5, .int z, v7, v8, v9, v10, v11]))) s H locs → W p l e R s m args below meth c H locs cells slots Q (F0 m (pc + 3) ls rest)) : W p l e R s m args below meth c H locs cells slots Q (F0 m pc ls (.int z :: .ref a :: rest)) :=
  g_put (own := RX0) (ref := "WheatRun$Combine") (C := RX0) (T := TX0) (N := 12) (ci := 1) (index := 33) (ty := .int) hx hb hts hown hK hM iaX0 rfl 6 (by decide) wf_X0_33 (fun _ h => h) tyX0 tyX0_ok nmX0 rfl (by decide +kernel) rfl rfl ha (Nat.le_of_ble_eq_true rfl) hdg kk
theorem fp_X0_36 {v0 v1 v2 v3 v4 v5 v6 v7 v8 v9 v10 v11 : Value} {z : Int32} (hx : p.tables.exec = Jvm.exec) (hb : c.code = cc) (hts : ∀ w ∈ AL, w.before args s = true) (hown : s.vm.findClass RX0 = some m.cls) (hK : Kw G s) (hM : Wd G M s H locs) (hz : narrow .boolean (.int z) = .int z) (ha : M a = some (r, .inr (1, [v0, v1, v2, v3, v4, v5, v6, v7, v8, v9, v10, v11]))) (hdg : decode cc pc = .ok (.putfield 36, 3)) (kk : ∀ (H : Heap) (locs : List Loc), Wd G (hu M a r (.inr (1, [v0, v1, v2, v3, v4, v5, v6, .int z, v8, v9, v10, v11]))) s H locs → W p l e R s m args below meth c H locs cells slots Q (F0 m (pc + 3) ls rest)) : W p l e R s m args below meth c H locs cells slots Q (F0 m pc ls (.int z :: .ref a :: rest)) :=
  g_put (own := RX0) (ref := "WheatRun$Combine") (C := RX0) (T := TX0) (N := 12) (ci := 1) (index := 36) (ty := .boolean) hx hb hts hown hK hM iaX0 rfl 7 (by decide) wf_X0_36 (fun _ h => h) tyX0 tyX0_ok nmX0 rfl (by decide +kernel) hz rfl ha (Nat.le_of_ble_eq_true rfl) hdg kk
theorem fp_X0_40 {v0 v1 v2 v3 v4 v5 v6 v7 v8 v9 v10 v11 : Value} {z : Int32} (hx : p.tables.exec = Jvm.exec) (hb : c.code = cc) (hts : ∀ w ∈ AL, w.before args s = true) (hown : s.vm.findClass RX0 = some m.cls) (hK : Kw G s) (hM : Wd G M s H locs) (ha : M a = some (r, .inr (1, [v0, v1, v2, v3, v4, v5, v6, v7, v8, v9, v10, v11]))) (hdg : decode cc pc = .ok (.putfield 40, 3)) (kk : ∀ (H : Heap) (locs : List Loc), Wd G (hu M a r (.inr (1, [v0, v1, v2, v3, v4, v5, v6, v7, .int z, v9, v10, v11]))) s H locs → W p l e R s m args below meth c H locs cells slots Q (F0 m (pc + 3) ls rest)) : W p l e R s m args below meth c H locs cells slots Q (F0 m pc ls (.int z :: .ref a :: rest)) :=
  g_put (own := RX0) (ref := "WheatRun$Combine") (C := RX0) (T := TX0) (N := 12) (ci := 1) (index := 40) (ty := .int) hx hb hts hown hK hM iaX0 rfl 8 (by decide) wf_X0_40 (fun _ h => h) tyX0 tyX0_ok nmX0 rfl (by decide +kernel) rfl rfl ha (Nat.le_of_ble_eq_true rfl) hdg kk
theorem fp_X0_43 {v0 v1 v2 v3 v4 v5 v6 v7 v8 v9 v10 v11 : Value} {z : Int32} (hx : p.tables.exec = Jvm.exec) (hb : c.code = cc) (hts : ∀ w ∈ AL, w.before args s = true) (hown : s.vm.findClass RX0 = some m.cls) (hK : Kw G s) (hM : Wd G M s H locs) (ha : M a = some (r, .inr (1, [v0, v1, v2, v3, v4, v5, v6, v7, v8, v9, v10, v11]))) (hdg : decode cc pc = .ok (.putfield 43, 3)) (kk : ∀ (H : Heap) (locs : List Loc), Wd G (hu M a r (.inr (1, [v0, v1, v2, v3, v4, v5, v6, v7, v8, v9, .int z, v11]))) s H locs → W p l e R s m args below meth c H locs cells slots Q (F0 m (pc + 3) ls rest)) : W p l e R s m args below meth c H locs cells slots Q (F0 m pc ls (.int z :: .ref a :: rest)) :=
  g_put (own := RX0) (ref := "WheatRun$Combine") (C := RX0) (T := TX0) (N := 12) (ci := 1) (index := 43) (ty := .int) hx hb hts hown hK hM iaX0 rfl 10 (by decide) wf_X0_43 (fun _ h => h) tyX0 tyX0_ok nmX0 rfl (by decide +kernel) rfl rfl ha (Nat.le_of_ble_eq_true rfl) hdg kk
theorem fp_X0_46 {v0 v1 v2 v3 v4 v5 v6 v7 v8 v9 v10 v11 : Value} {z : Int32} (hx : p.tables.exec = Jvm.exec) (hb : c.code = cc) (hts : ∀ w ∈ AL, w.before args s = true) (hown : s.vm.findClass RX0 = some m.cls) (hK : Kw G s) (hM : Wd G M s H locs) (ha : M a = some (r, .inr (1, [v0, v1, v2, v3, v4, v5, v6, v7, v8, v9, v10, v11]))) (hdg : decode cc pc = .ok (.putfield 46, 3)) (kk : ∀ (H : Heap) (locs : List Loc), Wd G (hu M a r (.inr (1, [v0, v1, v2, v3, v4, v5, v6, v7, v8, v9, v10, .int z]))) s H locs → W p l e R s m args below meth c H locs cells slots Q (F0 m (pc + 3) ls rest)) : W p l e R s m args below meth c H locs cells slots Q (F0 m pc ls (.int z :: .ref a :: rest)) :=
  g_put (own := RX0) (ref := "WheatRun$Combine") (C := RX0) (T := TX0) (N := 12) (ci := 1) (index := 46) (ty := .int) hx hb hts hown hK hM iaX0 rfl 11 (by decide) wf_X0_46 (fun _ h => h) tyX0 tyX0_ok nmX0 rfl (by decide +kernel) rfl rfl ha (Nat.le_of_ble_eq_true rfl) hdg kk
theorem fp_X0_85 {v0 v1 v2 v3 v4 v5 v6 v7 v8 v9 v10 v11 v12 : Value} {z : Int32} (hx : p.tables.exec = Jvm.exec) (hb : c.code = cc) (hts : ∀ w ∈ AL, w.before args s = true) (hown : s.vm.findClass RX0 = some m.cls) (hK : Kw G s) (hM : Wd G M s H locs) (ha : M a = some (r, .inr (3, [v0, v1, v2, v3, v4, v5, v6, v7, v8, v9, v10, v11, v12]))) (hdg : decode cc pc = .ok (.putfield 85, 3)) (kk : ∀ (H : Heap) (locs : List Loc), Wd G (hu M a r (.inr (3, [v0, v1, v2, v3, v4, .int z, v6, v7, v8, v9, v10, v11, v12]))) s H locs → W p l e R s m args below meth c H locs cells slots Q (F0 m (pc + 3) ls rest)) : W p l e R s m args below meth c H locs cells slots Q (F0 m pc ls (.int z :: .ref a :: rest)) :=
  g_put (own := RX0) (ref := "WheatRun$Field") (C := RX2) (T := TX2) (N := 13) (ci := 3) (index := 85) (ty := .int) hx hb hts hown hK hM iaX2 rfl 5 (by decide) wf_X0_85 (fun _ h => h) tyX2 tyX2_ok nmX2 rfl (by decide +kernel) rfl rfl ha (Nat.le_of_ble_eq_true rfl) hdg kk
theorem fp_X0_86 {v0 v1 v2 v3 v4 v5 v6 v7 v8 v9 v10 v11 v12 : Value} {z : Int32} (hx : p.tables.exec = Jvm.exec) (hb : c.code = cc) (hts : ∀ w ∈ AL, w.before args s = true) (hown : s.vm.findClass RX0 = some m.cls) (hK : Kw G s) (hM : Wd G M s H locs) (ha : M a = some (r, .inr (3, [v0, v1, v2, v3, v4, v5, v6, v7, v8, v9, v10, v11, v12]))) (hdg : decode cc pc = .ok (.putfield 86, 3)) (kk : ∀ (H : Heap) (locs : List Loc), Wd G (hu M a r (.inr (3, [v0, v1, v2, v3, v4, v5, v6, v7, v8, .int z, v10, v11, v12]))) s H locs → W p l e R s m args below meth c H locs cells slots Q (F0 m (pc + 3) ls rest)) : W p l e R s m args below meth c H locs cells slots Q (F0 m pc ls (.int z :: .ref a :: rest)) :=
  g_put (own := RX0) (ref := "WheatRun$Field") (C := RX2) (T := TX2) (N := 13) (ci := 3) (index := 86) (ty := .int) hx hb hts hown hK hM iaX2 rfl 9 (by decide) wf_X0_86 (fun _ h => h) tyX2 tyX2_ok nmX2 rfl (by decide +kernel) rfl rfl ha (Nat.le_of_ble_eq_true rfl) hdg kk
theorem fp_X1_7 {v0 v1 v2 v3 v4 v5 : Value} {z : Int32} (hx : p.tables.exec = Jvm.exec) (hb : c.code = cc) (hts : ∀ w ∈ AL, w.before args s = true) (hown : s.vm.findClass RX1 = some m.cls) (hK : Kw G s) (hM : Wd G M s H locs) (ha : M a = some (r, .inr (2, [v0, v1, v2, v3, v4, v5]))) (hdg : decode cc pc = .ok (.putfield 7, 3)) (kk : ∀ (H : Heap) (locs : List Loc), Wd G (hu M a r (.inr (2, [.int z, v1, v2, v3, v4, v5]))) s H locs → W p l e R s m args below meth c H locs cells slots Q (F0 m (pc + 3) ls rest)) : W p l e R s m args below meth c H locs cells slots Q (F0 m pc ls (.int z :: .ref a :: rest)) :=
  g_put (own := RX1) (ref := "WheatRun$Elevator") (C := RX1) (T := TX1) (N := 6) (ci := 2) (index := 7) (ty := .int) hx hb hts hown hK hM iaX1 rfl 0 (by decide) wf_X1_7 (fun _ h => h) tyX1 tyX1_ok nmX1 rfl (by decide +kernel) rfl rfl ha (Nat.le_of_ble_eq_true rfl) hdg kk
theorem fp_X1_13 {v0 v1 v2 v3 v4 v5 : Value} {z : Int32} (hx : p.tables.exec = Jvm.exec) (hb : c.code = cc) (hts : ∀ w ∈ AL, w.before args s = true) (hown : s.vm.findClass RX1 = some m.cls) (hK : Kw G s) (hM : Wd G M s H locs) (ha : M a = some (r, .inr (2, [v0, v1, v2, v3, v4, v5]))) (hdg : decode cc pc = .ok (.putfield 13, 3)) (kk : ∀ (H : Heap) (locs : List Loc), Wd G (hu M a r (.inr (2, [v0, .int z, v2, v3, v4, v5]))) s H locs → W p l e R s m args below meth c H locs cells slots Q (F0 m (pc + 3) ls rest)) : W p l e R s m args below meth c H locs cells slots Q (F0 m pc ls (.int z :: .ref a :: rest)) :=
  g_put (own := RX1) (ref := "WheatRun$Elevator") (C := RX1) (T := TX1) (N := 6) (ci := 2) (index := 13) (ty := .int) hx hb hts hown hK hM iaX1 rfl 1 (by decide) wf_X1_13 (fun _ h => h) tyX1 tyX1_ok nmX1 rfl (by decide +kernel) rfl rfl ha (Nat.le_of_ble_eq_true rfl) hdg kk
theorem fp_X1_16 {v0 v1 v2 v3 v4 v5 : Value} {z : Int32} (hx : p.tables.exec = Jvm.exec) (hb : c.code = cc) (hts : ∀ w ∈ AL, w.before args s = true) (hown : s.vm.findClass RX1 = some m.cls) (hK : Kw G s) (hM : Wd G M s H locs) (ha : M a = some (r, .inr (2, [v0, v1, v2, v3, v4, v5]))) (hdg : decode cc pc = .ok (.putfield 16, 3)) (kk : ∀ (H : Heap) (locs : List Loc), Wd G (hu M a r (.inr (2, [v0, v1, .int z, v3, v4, v5]))) s H locs → W p l e R s m args below meth c H locs cells slots Q (F0 m (pc + 3) ls rest)) : W p l e R s m args below meth c H locs cells slots Q (F0 m pc ls (.int z :: .ref a :: rest)) :=
  g_put (own := RX1) (ref := "WheatRun$Elevator") (C := RX1) (T := TX1) (N := 6) (ci := 2) (index := 16) (ty := .int) hx hb hts hown hK hM iaX1 rfl 2 (by decide) wf_X1_16 (fun _ h => h) tyX1 tyX1_ok nmX1 rfl (by decide +kernel) rfl rfl ha (Nat.le_of_ble_eq_true rfl) hdg kk
theorem fp_X1_19 {v0 v1 v2 v3 v4 v5 : Value} {z : Int32} (hx : p.tables.exec = Jvm.exec) (hb : c.code = cc) (hts : ∀ w ∈ AL, w.before args s = true) (hown : s.vm.findClass RX1 = some m.cls) (hK : Kw G s) (hM : Wd G M s H locs) (ha : M a = some (r, .inr (2, [v0, v1, v2, v3, v4, v5]))) (hdg : decode cc pc = .ok (.putfield 19, 3)) (kk : ∀ (H : Heap) (locs : List Loc), Wd G (hu M a r (.inr (2, [v0, v1, v2, .int z, v4, v5]))) s H locs → W p l e R s m args below meth c H locs cells slots Q (F0 m (pc + 3) ls rest)) : W p l e R s m args below meth c H locs cells slots Q (F0 m pc ls (.int z :: .ref a :: rest)) :=
  g_put (own := RX1) (ref := "WheatRun$Elevator") (C := RX1) (T := TX1) (N := 6) (ci := 2) (index := 19) (ty := .int) hx hb hts hown hK hM iaX1 rfl 3 (by decide) wf_X1_19 (fun _ h => h) tyX1 tyX1_ok nmX1 rfl (by decide +kernel) rfl rfl ha (Nat.le_of_ble_eq_true rfl) hdg kk
theorem fp_X1_22 {v0 v1 v2 v3 v4 v5 : Value} {z : Int32} (hx : p.tables.exec = Jvm.exec) (hb : c.code = cc) (hts : ∀ w ∈ AL, w.before args s = true) (hown : s.vm.findClass RX1 = some m.cls) (hK : Kw G s) (hM : Wd G M s H locs) (ha : M a = some (r, .inr (2, [v0, v1, v2, v3, v4, v5]))) (hdg : decode cc pc = .ok (.putfield 22, 3)) (kk : ∀ (H : Heap) (locs : List Loc), Wd G (hu M a r (.inr (2, [v0, v1, v2, v3, .int z, v5]))) s H locs → W p l e R s m args below meth c H locs cells slots Q (F0 m (pc + 3) ls rest)) : W p l e R s m args below meth c H locs cells slots Q (F0 m pc ls (.int z :: .ref a :: rest)) :=
  g_put (own := RX1) (ref := "WheatRun$Elevator") (C := RX1) (T := TX1) (N := 6) (ci := 2) (index := 22) (ty := .int) hx hb hts hown hK hM iaX1 rfl 4 (by decide) wf_X1_22 (fun _ h => h) tyX1 tyX1_ok nmX1 rfl (by decide +kernel) rfl rfl ha (Nat.le_of_ble_eq_true rfl) hdg kk
theorem fp_X1_25 {v0 v1 v2 v3 v4 v5 : Value} {z : Int32} (hx : p.tables.exec = Jvm.exec) (hb : c.code = cc) (hts : ∀ w ∈ AL, w.before args s = true) (hown : s.vm.findClass RX1 = some m.cls) (hK : Kw G s) (hM : Wd G M s H locs) (ha : M a = some (r, .inr (2, [v0, v1, v2, v3, v4, v5]))) (hdg : decode cc pc = .ok (.putfield 25, 3)) (kk : ∀ (H : Heap) (locs : List Loc), Wd G (hu M a r (.inr (2, [v0, v1, v2, v3, v4, .int z]))) s H locs → W p l e R s m args below meth c H locs cells slots Q (F0 m (pc + 3) ls rest)) : W p l e R s m args below meth c H locs cells slots Q (F0 m pc ls (.int z :: .ref a :: rest)) :=
  g_put (own := RX1) (ref := "WheatRun$Elevator") (C := RX1) (T := TX1) (N := 6) (ci := 2) (index := 25) (ty := .int) hx hb hts hown hK hM iaX1 rfl 5 (by decide) wf_X1_25 (fun _ h => h) tyX1 tyX1_ok nmX1 rfl (by decide +kernel) rfl rfl ha (Nat.le_of_ble_eq_true rfl) hdg kk
theorem fp_X2_9 {v0 v1 v2 v3 v4 v5 v6 v7 v8 v9 v10 v11 v12 : Value} {z : Int32} (hx : p.tables.exec = Jvm.exec) (hb : c.code = cc) (hts : ∀ w ∈ AL, w.before args s = true) (hown : s.vm.findClass RX2 = some m.cls) (hK : Kw G s) (hM : Wd G M s H locs) (ha : M a = some (r, .inr (3, [v0, v1, v2, v3, v4, v5, v6, v7, v8, v9, v10, v11, v12]))) (hdg : decode cc pc = .ok (.putfield 9, 3)) (kk : ∀ (H : Heap) (locs : List Loc), Wd G (hu M a r (.inr (3, [v0, v1, v2, v3, v4, v5, v6, .int z, v8, v9, v10, v11, v12]))) s H locs → W p l e R s m args below meth c H locs cells slots Q (F0 m (pc + 3) ls rest)) : W p l e R s m args below meth c H locs cells slots Q (F0 m pc ls (.int z :: .ref a :: rest)) :=
  g_put (own := RX2) (ref := "WheatRun$Field") (C := RX2) (T := TX2) (N := 13) (ci := 3) (index := 9) (ty := .int) hx hb hts hown hK hM iaX2 rfl 7 (by decide) wf_X2_9 (fun _ h => h) tyX2 tyX2_ok nmX2 rfl (by decide +kernel) rfl rfl ha (Nat.le_of_ble_eq_true rfl) hdg kk
theorem fp_X2_15 {v0 v1 v2 v3 v4 v5 v6 v7 v8 v9 v10 v11 v12 : Value} {z : Int32} (hx : p.tables.exec = Jvm.exec) (hb : c.code = cc) (hts : ∀ w ∈ AL, w.before args s = true) (hown : s.vm.findClass RX2 = some m.cls) (hK : Kw G s) (hM : Wd G M s H locs) (ha : M a = some (r, .inr (3, [v0, v1, v2, v3, v4, v5, v6, v7, v8, v9, v10, v11, v12]))) (hdg : decode cc pc = .ok (.putfield 15, 3)) (kk : ∀ (H : Heap) (locs : List Loc), Wd G (hu M a r (.inr (3, [.int z, v1, v2, v3, v4, v5, v6, v7, v8, v9, v10, v11, v12]))) s H locs → W p l e R s m args below meth c H locs cells slots Q (F0 m (pc + 3) ls rest)) : W p l e R s m args below meth c H locs cells slots Q (F0 m pc ls (.int z :: .ref a :: rest)) :=
  g_put (own := RX2) (ref := "WheatRun$Field") (C := RX2) (T := TX2) (N := 13) (ci := 3) (index := 15) (ty := .int) hx hb hts hown hK hM iaX2 rfl 0 (by decide) wf_X2_15 (fun _ h => h) tyX2 tyX2_ok nmX2 rfl (by decide +kernel) rfl rfl ha (Nat.le_of_ble_eq_true rfl) hdg kk
theorem fp_X2_18 {v0 v1 v2 v3 v4 v5 v6 v7 v8 v9 v10 v11 v12 : Value} {z : Int32} (hx : p.tables.exec = Jvm.exec) (hb : c.code = cc) (hts : ∀ w ∈ AL, w.before args s = true) (hown : s.vm.findClass RX2 = some m.cls) (hK : Kw G s) (hM : Wd G M s H locs) (ha : M a = some (r, .inr (3, [v0, v1, v2, v3, v4, v5, v6, v7, v8, v9, v10, v11, v12]))) (hdg : decode cc pc = .ok (.putfield 18, 3)) (kk : ∀ (H : Heap) (locs : List Loc), Wd G (hu M a r (.inr (3, [v0, .int z, v2, v3, v4, v5, v6, v7, v8, v9, v10, v11, v12]))) s H locs → W p l e R s m args below meth c H locs cells slots Q (F0 m (pc + 3) ls rest)) : W p l e R s m args below meth c H locs cells slots Q (F0 m pc ls (.int z :: .ref a :: rest)) :=
  g_put (own := RX2) (ref := "WheatRun$Field") (C := RX2) (T := TX2) (N := 13) (ci := 3) (index := 18) (ty := .int) hx hb hts hown hK hM iaX2 rfl 1 (by decide) wf_X2_18 (fun _ h => h) tyX2 tyX2_ok nmX2 rfl (by decide +kernel) rfl rfl ha (Nat.le_of_ble_eq_true rfl) hdg kk
theorem fp_X2_21 {v0 v1 v2 v3 v4 v5 v6 v7 v8 v9 v10 v11 v12 : Value} {z : Int32} (hx : p.tables.exec = Jvm.exec) (hb : c.code = cc) (hts : ∀ w ∈ AL, w.before args s = true) (hown : s.vm.findClass RX2 = some m.cls) (hK : Kw G s) (hM : Wd G M s H locs) (ha : M a = some (r, .inr (3, [v0, v1, v2, v3, v4, v5, v6, v7, v8, v9, v10, v11, v12]))) (hdg : decode cc pc = .ok (.putfield 21, 3)) (kk : ∀ (H : Heap) (locs : List Loc), Wd G (hu M a r (.inr (3, [v0, v1, .int z, v3, v4, v5, v6, v7, v8, v9, v10, v11, v12]))) s H locs → W p l e R s m args below meth c H locs cells slots Q (F0 m (pc + 3) ls rest)) : W p l e R s m args below meth c H locs cells slots Q (F0 m pc ls (.int z :: .ref a :: rest)) :=
  g_put (own := RX2) (ref := "WheatRun$Field") (C := RX2) (T := TX2) (N := 13) (ci := 3) (index := 21) (ty := .int) hx hb hts hown hK hM iaX2 rfl 2 (by decide) wf_X2_21 (fun _ h => h) tyX2 tyX2_ok nmX2 rfl (by decide +kernel) rfl rfl ha (Nat.le_of_ble_eq_true rfl) hdg kk
theorem fp_X2_24 {v0 v1 v2 v3 v4 v5 v6 v7 v8 v9 v10 v11 v12 : Value} {z : Int32} (hx : p.tables.exec = Jvm.exec) (hb : c.code = cc) (hts : ∀ w ∈ AL, w.before args s = true) (hown : s.vm.findClass RX2 = some m.cls) (hK : Kw G s) (hM : Wd G M s H locs) (ha : M a = some (r, .inr (3, [v0, v1, v2, v3, v4, v5, v6, v7, v8, v9, v10, v11, v12]))) (hdg : decode cc pc = .ok (.putfield 24, 3)) (kk : ∀ (H : Heap) (locs : List Loc), Wd G (hu M a r (.inr (3, [v0, v1, v2, .int z, v4, v5, v6, v7, v8, v9, v10, v11, v12]))) s H locs → W p l e R s m args below meth c H locs cells slots Q (F0 m (pc + 3) ls rest)) : W p l e R s m args below meth c H locs cells slots Q (F0 m pc ls (.int z :: .ref a :: rest)) :=
  g_put (own := RX2) (ref := "WheatRun$Field") (C := RX2) (T := TX2) (N := 13) (ci := 3) (index := 24) (ty := .int) hx hb hts hown hK hM iaX2 rfl 3 (by decide) wf_X2_24 (fun _ h => h) tyX2 tyX2_ok nmX2 rfl (by decide +kernel) rfl rfl ha (Nat.le_of_ble_eq_true rfl) hdg kk
theorem fp_X2_27 {v0 v1 v2 v3 v4 v5 v6 v7 v8 v9 v10 v11 v12 : Value} {z : Int32} (hx : p.tables.exec = Jvm.exec) (hb : c.code = cc) (hts : ∀ w ∈ AL, w.before args s = true) (hown : s.vm.findClass RX2 = some m.cls) (hK : Kw G s) (hM : Wd G M s H locs) (ha : M a = some (r, .inr (3, [v0, v1, v2, v3, v4, v5, v6, v7, v8, v9, v10, v11, v12]))) (hdg : decode cc pc = .ok (.putfield 27, 3)) (kk : ∀ (H : Heap) (locs : List Loc), Wd G (hu M a r (.inr (3, [v0, v1, v2, v3, .int z, v5, v6, v7, v8, v9, v10, v11, v12]))) s H locs → W p l e R s m args below meth c H locs cells slots Q (F0 m (pc + 3) ls rest)) : W p l e R s m args below meth c H locs cells slots Q (F0 m pc ls (.int z :: .ref a :: rest)) :=
  g_put (own := RX2) (ref := "WheatRun$Field") (C := RX2) (T := TX2) (N := 13) (ci := 3) (index := 27) (ty := .int) hx hb hts hown hK hM iaX2 rfl 4 (by decide) wf_X2_27 (fun _ h => h) tyX2 tyX2_ok nmX2 rfl (by decide +kernel) rfl rfl ha (Nat.le_of_ble_eq_true rfl) hdg kk
theorem fp_X2_30 {v0 v1 v2 v3 v4 v5 v6 v7 v8 v9 v10 v11 v12 : Value} {z : Int32} (hx : p.tables.exec = Jvm.exec) (hb : c.code = cc) (hts : ∀ w ∈ AL, w.before args s = true) (hown : s.vm.findClass RX2 = some m.cls) (hK : Kw G s) (hM : Wd G M s H locs) (ha : M a = some (r, .inr (3, [v0, v1, v2, v3, v4, v5, v6, v7, v8, v9, v10, v11, v12]))) (hdg : decode cc pc = .ok (.putfield 30, 3)) (kk : ∀ (H : Heap) (locs : List Loc), Wd G (hu M a r (.inr (3, [v0, v1, v2, v3, v4, .int z, v6, v7, v8, v9, v10, v11, v12]))) s H locs → W p l e R s m args below meth c H locs cells slots Q (F0 m (pc + 3) ls rest)) : W p l e R s m args below meth c H locs cells slots Q (F0 m pc ls (.int z :: .ref a :: rest)) :=
  g_put (own := RX2) (ref := "WheatRun$Field") (C := RX2) (T := TX2) (N := 13) (ci := 3) (index := 30) (ty := .int) hx hb hts hown hK hM iaX2 rfl 5 (by decide) wf_X2_30 (fun _ h => h) tyX2 tyX2_ok nmX2 rfl (by decide +kernel) rfl rfl ha (Nat.le_of_ble_eq_true rfl) hdg kk
theorem fp_X2_33 {v0 v1 v2 v3 v4 v5 v6 v7 v8 v9 v10 v11 v12 : Value} {z : Int32} (hx : p.tables.exec = Jvm.exec) (hb : c.code = cc) (hts : ∀ w ∈ AL, w.before args s = true) (hown : s.vm.findClass RX2 = some m.cls) (hK : Kw G s) (hM : Wd G M s H locs) (ha : M a = some (r, .inr (3, [v0, v1, v2, v3, v4, v5, v6, v7, v8, v9, v10, v11, v12]))) (hdg : decode cc pc = .ok (.putfield 33, 3)) (kk : ∀ (H : Heap) (locs : List Loc), Wd G (hu M a r (.inr (3, [v0, v1, v2, v3, v4, v5, .int z, v7, v8, v9, v10, v11, v12]))) s H locs → W p l e R s m args below meth c H locs cells slots Q (F0 m (pc + 3) ls rest)) : W p l e R s m args below meth c H locs cells slots Q (F0 m pc ls (.int z :: .ref a :: rest)) :=
  g_put (own := RX2) (ref := "WheatRun$Field") (C := RX2) (T := TX2) (N := 13) (ci := 3) (index := 33) (ty := .int) hx hb hts hown hK hM iaX2 rfl 6 (by decide) wf_X2_33 (fun _ h => h) tyX2 tyX2_ok nmX2 rfl (by decide +kernel) rfl rfl ha (Nat.le_of_ble_eq_true rfl) hdg kk
theorem fp_X2_36 {v0 v1 v2 v3 v4 v5 v6 v7 v8 v9 v10 v11 v12 : Value} {z : Int32} (hx : p.tables.exec = Jvm.exec) (hb : c.code = cc) (hts : ∀ w ∈ AL, w.before args s = true) (hown : s.vm.findClass RX2 = some m.cls) (hK : Kw G s) (hM : Wd G M s H locs) (ha : M a = some (r, .inr (3, [v0, v1, v2, v3, v4, v5, v6, v7, v8, v9, v10, v11, v12]))) (hdg : decode cc pc = .ok (.putfield 36, 3)) (kk : ∀ (H : Heap) (locs : List Loc), Wd G (hu M a r (.inr (3, [v0, v1, v2, v3, v4, v5, v6, v7, .int z, v9, v10, v11, v12]))) s H locs → W p l e R s m args below meth c H locs cells slots Q (F0 m (pc + 3) ls rest)) : W p l e R s m args below meth c H locs cells slots Q (F0 m pc ls (.int z :: .ref a :: rest)) :=
  g_put (own := RX2) (ref := "WheatRun$Field") (C := RX2) (T := TX2) (N := 13) (ci := 3) (index := 36) (ty := .int) hx hb hts hown hK hM iaX2 rfl 8 (by decide) wf_X2_36 (fun _ h => h) tyX2 tyX2_ok nmX2 rfl (by decide +kernel) rfl rfl ha (Nat.le_of_ble_eq_true rfl) hdg kk
theorem fp_X2_39 {v0 v1 v2 v3 v4 v5 v6 v7 v8 v9 v10 v11 v12 : Value} {z : Int32} (hx : p.tables.exec = Jvm.exec) (hb : c.code = cc) (hts : ∀ w ∈ AL, w.before args s = true) (hown : s.vm.findClass RX2 = some m.cls) (hK : Kw G s) (hM : Wd G M s H locs) (ha : M a = some (r, .inr (3, [v0, v1, v2, v3, v4, v5, v6, v7, v8, v9, v10, v11, v12]))) (hdg : decode cc pc = .ok (.putfield 39, 3)) (kk : ∀ (H : Heap) (locs : List Loc), Wd G (hu M a r (.inr (3, [v0, v1, v2, v3, v4, v5, v6, v7, v8, .int z, v10, v11, v12]))) s H locs → W p l e R s m args below meth c H locs cells slots Q (F0 m (pc + 3) ls rest)) : W p l e R s m args below meth c H locs cells slots Q (F0 m pc ls (.int z :: .ref a :: rest)) :=
  g_put (own := RX2) (ref := "WheatRun$Field") (C := RX2) (T := TX2) (N := 13) (ci := 3) (index := 39) (ty := .int) hx hb hts hown hK hM iaX2 rfl 9 (by decide) wf_X2_39 (fun _ h => h) tyX2 tyX2_ok nmX2 rfl (by decide +kernel) rfl rfl ha (Nat.le_of_ble_eq_true rfl) hdg kk
theorem fp_X2_42 {v0 v1 v2 v3 v4 v5 v6 v7 v8 v9 v10 v11 v12 : Value} {z : Int32} (hx : p.tables.exec = Jvm.exec) (hb : c.code = cc) (hts : ∀ w ∈ AL, w.before args s = true) (hown : s.vm.findClass RX2 = some m.cls) (hK : Kw G s) (hM : Wd G M s H locs) (ha : M a = some (r, .inr (3, [v0, v1, v2, v3, v4, v5, v6, v7, v8, v9, v10, v11, v12]))) (hdg : decode cc pc = .ok (.putfield 42, 3)) (kk : ∀ (H : Heap) (locs : List Loc), Wd G (hu M a r (.inr (3, [v0, v1, v2, v3, v4, v5, v6, v7, v8, v9, .int z, v11, v12]))) s H locs → W p l e R s m args below meth c H locs cells slots Q (F0 m (pc + 3) ls rest)) : W p l e R s m args below meth c H locs cells slots Q (F0 m pc ls (.int z :: .ref a :: rest)) :=
  g_put (own := RX2) (ref := "WheatRun$Field") (C := RX2) (T := TX2) (N := 13) (ci := 3) (index := 42) (ty := .int) hx hb hts hown hK hM iaX2 rfl 10 (by decide) wf_X2_42 (fun _ h => h) tyX2 tyX2_ok nmX2 rfl (by decide +kernel) rfl rfl ha (Nat.le_of_ble_eq_true rfl) hdg kk
theorem fp_X2_45 {v0 v1 v2 v3 v4 v5 v6 v7 v8 v9 v10 v11 v12 : Value} {z : Int32} (hx : p.tables.exec = Jvm.exec) (hb : c.code = cc) (hts : ∀ w ∈ AL, w.before args s = true) (hown : s.vm.findClass RX2 = some m.cls) (hK : Kw G s) (hM : Wd G M s H locs) (ha : M a = some (r, .inr (3, [v0, v1, v2, v3, v4, v5, v6, v7, v8, v9, v10, v11, v12]))) (hdg : decode cc pc = .ok (.putfield 45, 3)) (kk : ∀ (H : Heap) (locs : List Loc), Wd G (hu M a r (.inr (3, [v0, v1, v2, v3, v4, v5, v6, v7, v8, v9, v10, .int z, v12]))) s H locs → W p l e R s m args below meth c H locs cells slots Q (F0 m (pc + 3) ls rest)) : W p l e R s m args below meth c H locs cells slots Q (F0 m pc ls (.int z :: .ref a :: rest)) :=
  g_put (own := RX2) (ref := "WheatRun$Field") (C := RX2) (T := TX2) (N := 13) (ci := 3) (index := 45) (ty := .int) hx hb hts hown hK hM iaX2 rfl 11 (by decide) wf_X2_45 (fun _ h => h) tyX2 tyX2_ok nmX2 rfl (by decide +kernel) rfl rfl ha (Nat.le_of_ble_eq_true rfl) hdg kk
theorem fp_X2_48 {v0 v1 v2 v3 v4 v5 v6 v7 v8 v9 v10 v11 v12 : Value} {z : Int32} (hx : p.tables.exec = Jvm.exec) (hb : c.code = cc) (hts : ∀ w ∈ AL, w.before args s = true) (hown : s.vm.findClass RX2 = some m.cls) (hK : Kw G s) (hM : Wd G M s H locs) (ha : M a = some (r, .inr (3, [v0, v1, v2, v3, v4, v5, v6, v7, v8, v9, v10, v11, v12]))) (hdg : decode cc pc = .ok (.putfield 48, 3)) (kk : ∀ (H : Heap) (locs : List Loc), Wd G (hu M a r (.inr (3, [v0, v1, v2, v3, v4, v5, v6, v7, v8, v9, v10, v11, .int z]))) s H locs → W p l e R s m args below meth c H locs cells slots Q (F0 m (pc + 3) ls rest)) : W p l e R s m args below meth c H locs cells slots Q (F0 m pc ls (.int z :: .ref a :: rest)) :=
  g_put (own := RX2) (ref := "WheatRun$Field") (C := RX2) (T := TX2) (N := 13) (ci := 3) (index := 48) (ty := .int) hx hb hts hown hK hM iaX2 rfl 12 (by decide) wf_X2_48 (fun _ h => h) tyX2 tyX2_ok nmX2 rfl (by decide +kernel) rfl rfl ha (Nat.le_of_ble_eq_true rfl) hdg kk
theorem fp_X3_12 {v0 v1 v2 v3 v4 v5 v6 v7 v8 : Value} {q : Nat} (hx : p.tables.exec = Jvm.exec) (hb : c.code = cc) (hts : ∀ w ∈ AL, w.before args s = true) (hown : s.vm.findClass RX3 = some m.cls) (hK : Kw G s) (hM : Wd G M s H locs) (hin : meth.name = "<init>") (ha : M a = some (r, .inr (4, [v0, v1, v2, v3, v4, v5, v6, v7, v8]))) (hdg : decode cc pc = .ok (.putfield 12, 3)) (kk : ∀ (H : Heap) (locs : List Loc), Wd G (hu M a r (.inr (4, [.ref q, v1, v2, v3, v4, v5, v6, v7, v8]))) s H locs → W p l e R s m args below meth c H locs cells slots Q (F0 m (pc + 3) ls rest)) : W p l e R s m args below meth c H locs cells slots Q (F0 m pc ls (.ref q :: .ref a :: rest)) :=
  g_putF (own := RX3) (ref := "WheatRun$Land") (C := RX3) (T := TX3) (N := 9) (ci := 4) (index := 12) (ty := .object "java/util/ArrayList") hx hb hts hown hK hM iaX3 rfl 0 (by decide) wf_X3_12 (fun _ h => h) tyX3 tyX3_ok nmX3 rfl hin rfl (by decide +kernel) rfl rfl ha (Nat.le_of_ble_eq_true rfl) hdg kk
theorem fp_X3_18 {v0 v1 v2 v3 v4 v5 v6 v7 v8 : Value} {q : Nat} (hx : p.tables.exec = Jvm.exec) (hb : c.code = cc) (hts : ∀ w ∈ AL, w.before args s = true) (hown : s.vm.findClass RX3 = some m.cls) (hK : Kw G s) (hM : Wd G M s H locs) (hin : meth.name = "<init>") (ha : M a = some (r, .inr (4, [v0, v1, v2, v3, v4, v5, v6, v7, v8]))) (hdg : decode cc pc = .ok (.putfield 18, 3)) (kk : ∀ (H : Heap) (locs : List Loc), Wd G (hu M a r (.inr (4, [v0, .ref q, v2, v3, v4, v5, v6, v7, v8]))) s H locs → W p l e R s m args below meth c H locs cells slots Q (F0 m (pc + 3) ls rest)) : W p l e R s m args below meth c H locs cells slots Q (F0 m pc ls (.ref q :: .ref a :: rest)) :=
  g_putF (own := RX3) (ref := "WheatRun$Land") (C := RX3) (T := TX3) (N := 9) (ci := 4) (index := 18) (ty := .object "java/util/ArrayList") hx hb hts hown hK hM iaX3 rfl 1 (by decide) wf_X3_18 (fun _ h => h) tyX3 tyX3_ok nmX3 rfl hin rfl (by decide +kernel) rfl rfl ha (Nat.le_of_ble_eq_true rfl) hdg kk
theorem fp_X3_21 {v0 v1 v2 v3 v4 v5 v6 v7 v8 : Value} {q : Nat} (hx : p.tables.exec = Jvm.exec) (hb : c.code = cc) (hts : ∀ w ∈ AL, w.before args s = true) (hown : s.vm.findClass RX3 = some m.cls) (hK : Kw G s) (hM : Wd G M s H locs) (hin : meth.name = "<init>") (ha : M a = some (r, .inr (4, [v0, v1, v2, v3, v4, v5, v6, v7, v8]))) (hdg : decode cc pc = .ok (.putfield 21, 3)) (kk : ∀ (H : Heap) (locs : List Loc), Wd G (hu M a r (.inr (4, [v0, v1, .ref q, v3, v4, v5, v6, v7, v8]))) s H locs → W p l e R s m args below meth c H locs cells slots Q (F0 m (pc + 3) ls rest)) : W p l e R s m args below meth c H locs cells slots Q (F0 m pc ls (.ref q :: .ref a :: rest)) :=
  g_putF (own := RX3) (ref := "WheatRun$Land") (C := RX3) (T := TX3) (N := 9) (ci := 4) (index := 21) (ty := .object "java/util/ArrayList") hx hb hts hown hK hM iaX3 rfl 2 (by decide) wf_X3_21 (fun _ h => h) tyX3 tyX3_ok nmX3 rfl hin rfl (by decide +kernel) rfl rfl ha (Nat.le_of_ble_eq_true rfl) hdg kk
theorem fp_X3_24 {v0 v1 v2 v3 v4 v5 v6 v7 v8 : Value} {q : Nat} (hx : p.tables.exec = Jvm.exec) (hb : c.code = cc) (hts : ∀ w ∈ AL, w.before args s = true) (hown : s.vm.findClass RX3 = some m.cls) (hK : Kw G s) (hM : Wd G M s H locs) (hin : meth.name = "<init>") (ha : M a = some (r, .inr (4, [v0, v1, v2, v3, v4, v5, v6, v7, v8]))) (hdg : decode cc pc = .ok (.putfield 24, 3)) (kk : ∀ (H : Heap) (locs : List Loc), Wd G (hu M a r (.inr (4, [v0, v1, v2, .ref q, v4, v5, v6, v7, v8]))) s H locs → W p l e R s m args below meth c H locs cells slots Q (F0 m (pc + 3) ls rest)) : W p l e R s m args below meth c H locs cells slots Q (F0 m pc ls (.ref q :: .ref a :: rest)) :=
  g_putF (own := RX3) (ref := "WheatRun$Land") (C := RX3) (T := TX3) (N := 9) (ci := 4) (index := 24) (ty := .object "java/util/ArrayList") hx hb hts hown hK hM iaX3 rfl 3 (by decide) wf_X3_24 (fun _ h => h) tyX3 tyX3_ok nmX3 rfl hin rfl (by decide +kernel) rfl rfl ha (Nat.le_of_ble_eq_true rfl) hdg kk
theorem fp_X3_27 {v0 v1 v2 v3 v4 v5 v6 v7 v8 : Value} {q : Nat} (hx : p.tables.exec = Jvm.exec) (hb : c.code = cc) (hts : ∀ w ∈ AL, w.before args s = true) (hown : s.vm.findClass RX3 = some m.cls) (hK : Kw G s) (hM : Wd G M s H locs) (hin : meth.name = "<init>") (ha : M a = some (r, .inr (4, [v0, v1, v2, v3, v4, v5, v6, v7, v8]))) (hdg : decode cc pc = .ok (.putfield 27, 3)) (kk : ∀ (H : Heap) (locs : List Loc), Wd G (hu M a r (.inr (4, [v0, v1, v2, v3, .ref q, v5, v6, v7, v8]))) s H locs → W p l e R s m args below meth c H locs cells slots Q (F0 m (pc + 3) ls rest)) : W p l e R s m args below meth c H locs cells slots Q (F0 m pc ls (.ref q :: .ref a :: rest)) :=
  g_putF (own := RX3) (ref := "WheatRun$Land") (C := RX3) (T := TX3) (N := 9) (ci := 4) (index := 27) (ty := .object "java/util/ArrayList") hx hb hts hown hK hM iaX3 rfl 4 (by decide) wf_X3_27 (fun _ h => h) tyX3 tyX3_ok nmX3 rfl hin rfl (by decide +kernel) rfl rfl ha (Nat.le_of_ble_eq_true rfl) hdg kk
theorem fp_X3_30 {v0 v1 v2 v3 v4 v5 v6 v7 v8 : Value} {z : Int32} (hx : p.tables.exec = Jvm.exec) (hb : c.code = cc) (hts : ∀ w ∈ AL, w.before args s = true) (hown : s.vm.findClass RX3 = some m.cls) (hK : Kw G s) (hM : Wd G M s H locs) (ha : M a = some (r, .inr (4, [v0, v1, v2, v3, v4, v5, v6, v7, v8]))) (hdg : decode cc pc = .ok (.putfield 30, 3)) (kk : ∀ (H : Heap) (locs : List Loc), Wd G (hu M a r (.inr (4, [v0, v1, v2, v3, v4, v5, v6, .int z, v8]))) s H locs → W p l e R s m args below meth c H locs cells slots Q (F0 m (pc + 3) ls rest)) : W p l e R s m args below meth c H locs cells slots Q (F0 m pc ls (.int z :: .ref a :: rest)) :=
  g_put (own := RX3) (ref := "WheatRun$Land") (C := RX3) (T := TX3) (N := 9) (ci := 4) (index := 30) (ty := .int) hx hb hts hown hK hM iaX3 rfl 7 (by decide) wf_X3_30 (fun _ h => h) tyX3 tyX3_ok nmX3 rfl (by decide +kernel) rfl rfl ha (Nat.le_of_ble_eq_true rfl) hdg kk
theorem fp_X3_34 {v0 v1 v2 v3 v4 v5 v6 v7 v8 : Value} {z : Int32} (hx : p.tables.exec = Jvm.exec) (hb : c.code = cc) (hts : ∀ w ∈ AL, w.before args s = true) (hown : s.vm.findClass RX3 = some m.cls) (hK : Kw G s) (hM : Wd G M s H locs) (ha : M a = some (r, .inr (4, [v0, v1, v2, v3, v4, v5, v6, v7, v8]))) (hdg : decode cc pc = .ok (.putfield 34, 3)) (kk : ∀ (H : Heap) (locs : List Loc), Wd G (hu M a r (.inr (4, [v0, v1, v2, v3, v4, v5, v6, v7, .int z]))) s H locs → W p l e R s m args below meth c H locs cells slots Q (F0 m (pc + 3) ls rest)) : W p l e R s m args below meth c H locs cells slots Q (F0 m pc ls (.int z :: .ref a :: rest)) :=
  g_put (own := RX3) (ref := "WheatRun$Land") (C := RX3) (T := TX3) (N := 9) (ci := 4) (index := 34) (ty := .int) hx hb hts hown hK hM iaX3 rfl 8 (by decide) wf_X3_34 (fun _ h => h) tyX3 tyX3_ok nmX3 rfl (by decide +kernel) rfl rfl ha (Nat.le_of_ble_eq_true rfl) hdg kk
theorem fp_X3_37 {v0 v1 v2 v3 v4 v5 v6 v7 v8 : Value} {z : Int32} (hx : p.tables.exec = Jvm.exec) (hb : c.code = cc) (hts : ∀ w ∈ AL, w.before args s = true) (hown : s.vm.findClass RX3 = some m.cls) (hK : Kw G s) (hM : Wd G M s H locs) (hin : meth.name = "<init>") (hz : narrow .boolean (.int z) = .int z) (ha : M a = some (r, .inr (4, [v0, v1, v2, v3, v4, v5, v6, v7, v8]))) (hdg : decode cc pc = .ok (.putfield 37, 3)) (kk : ∀ (H : Heap) (locs : List Loc), Wd G (hu M a r (.inr (4, [v0, v1, v2, v3, v4, .int z, v6, v7, v8]))) s H locs → W p l e R s m args below meth c H locs cells slots Q (F0 m (pc + 3) ls rest)) : W p l e R s m args below meth c H locs cells slots Q (F0 m pc ls (.int z :: .ref a :: rest)) :=
  g_putF (own := RX3) (ref := "WheatRun$Land") (C := RX3) (T := TX3) (N := 9) (ci := 4) (index := 37) (ty := .boolean) hx hb hts hown hK hM iaX3 rfl 5 (by decide) wf_X3_37 (fun _ h => h) tyX3 tyX3_ok nmX3 rfl hin rfl (by decide +kernel) hz rfl ha (Nat.le_of_ble_eq_true rfl) hdg kk
theorem fp_X3_41 {v0 v1 v2 v3 v4 v5 v6 v7 v8 : Value} {z : Int32} (hx : p.tables.exec = Jvm.exec) (hb : c.code = cc) (hts : ∀ w ∈ AL, w.before args s = true) (hown : s.vm.findClass RX3 = some m.cls) (hK : Kw G s) (hM : Wd G M s H locs) (ha : M a = some (r, .inr (4, [v0, v1, v2, v3, v4, v5, v6, v7, v8]))) (hdg : decode cc pc = .ok (.putfield 41, 3)) (kk : ∀ (H : Heap) (locs : List Loc), Wd G (hu M a r (.inr (4, [v0, v1, v2, v3, v4, v5, .int z, v7, v8]))) s H locs → W p l e R s m args below meth c H locs cells slots Q (F0 m (pc + 3) ls rest)) : W p l e R s m args below meth c H locs cells slots Q (F0 m pc ls (.int z :: .ref a :: rest)) :=
  g_put (own := RX3) (ref := "WheatRun$Land") (C := RX3) (T := TX3) (N := 9) (ci := 4) (index := 41) (ty := .int) hx hb hts hown hK hM iaX3 rfl 6 (by decide) wf_X3_41 (fun _ h => h) tyX3 tyX3_ok nmX3 rfl (by decide +kernel) rfl rfl ha (Nat.le_of_ble_eq_true rfl) hdg kk
theorem fp_X3_147 {v0 v1 v2 v3 v4 v5 v6 v7 v8 v9 : Value} {z : Int32} (hx : p.tables.exec = Jvm.exec) (hb : c.code = cc) (hts : ∀ w ∈ AL, w.before args s = true) (hown : s.vm.findClass RX3 = some m.cls) (hK : Kw G s) (hM : Wd G M s H locs) (ha : M a = some (r, .inr (6, [v0, v1, v2, v3, v4, v5, v6, v7, v8, v9]))) (hdg : decode cc pc = .ok (.putfield 147, 3)) (kk : ∀ (H : Heap) (locs : List Loc), Wd G (hu M a r (.inr (6, [v0, v1, .int z, v3, v4, v5, v6, v7, v8, v9]))) s H locs → W p l e R s m args below meth c H locs cells slots Q (F0 m (pc + 3) ls rest)) : W p l e R s m args below meth c H locs cells slots Q (F0 m pc ls (.int z :: .ref a :: rest)) :=
  g_put (own := RX3) (ref := "WheatRun$Truck") (C := RX5) (T := TX5) (N := 10) (ci := 6) (index := 147) (ty := .int) hx hb hts hown hK hM iaX5 rfl 2 (by decide) wf_X3_147 (fun _ h => h) tyX5 tyX5_ok nmX5 rfl (by decide +kernel) rfl rfl ha (Nat.le_of_ble_eq_true rfl) hdg kk
theorem fp_X3_158 {v0 v1 v2 v3 v4 v5 v6 v7 v8 v9 : Value} {z : Int32} (hx : p.tables.exec = Jvm.exec) (hb : c.code = cc) (hts : ∀ w ∈ AL, w.before args s = true) (hown : s.vm.findClass RX3 = some m.cls) (hK : Kw G s) (hM : Wd G M s H locs) (ha : M a = some (r, .inr (6, [v0, v1, v2, v3, v4, v5, v6, v7, v8, v9]))) (hdg : decode cc pc = .ok (.putfield 158, 3)) (kk : ∀ (H : Heap) (locs : List Loc), Wd G (hu M a r (.inr (6, [v0, v1, v2, v3, v4, v5, .int z, v7, v8, v9]))) s H locs → W p l e R s m args below meth c H locs cells slots Q (F0 m (pc + 3) ls rest)) : W p l e R s m args below meth c H locs cells slots Q (F0 m pc ls (.int z :: .ref a :: rest)) :=
  g_put (own := RX3) (ref := "WheatRun$Truck") (C := RX5) (T := TX5) (N := 10) (ci := 6) (index := 158) (ty := .int) hx hb hts hown hK hM iaX5 rfl 6 (by decide) wf_X3_158 (fun _ h => h) tyX5 tyX5_ok nmX5 rfl (by decide +kernel) rfl rfl ha (Nat.le_of_ble_eq_true rfl) hdg kk
theorem fp_X3_161 {v0 v1 v2 v3 v4 v5 : Value} {z : Int32} (hx : p.tables.exec = Jvm.exec) (hb : c.code = cc) (hts : ∀ w ∈ AL, w.before args s = true) (hown : s.vm.findClass RX3 = some m.cls) (hK : Kw G s) (hM : Wd G M s H locs) (ha : M a = some (r, .inr (2, [v0, v1, v2, v3, v4, v5]))) (hdg : decode cc pc = .ok (.putfield 161, 3)) (kk : ∀ (H : Heap) (locs : List Loc), Wd G (hu M a r (.inr (2, [v0, .int z, v2, v3, v4, v5]))) s H locs → W p l e R s m args below meth c H locs cells slots Q (F0 m (pc + 3) ls rest)) : W p l e R s m args below meth c H locs cells slots Q (F0 m pc ls (.int z :: .ref a :: rest)) :=
  g_put (own := RX3) (ref := "WheatRun$Elevator") (C := RX1) (T := TX1) (N := 6) (ci := 2) (index := 161) (ty := .int) hx hb hts hown hK hM iaX1 rfl 1 (by decide) wf_X3_161 (fun _ h => h) tyX1 tyX1_ok nmX1 rfl (by decide +kernel) rfl rfl ha (Nat.le_of_ble_eq_true rfl) hdg kk
theorem fp_X4_13 {v0 v1 v2 v3 v4 v5 v6 : Value} {z : Int32} (hx : p.tables.exec = Jvm.exec) (hb : c.code = cc) (hts : ∀ w ∈ AL, w.before args s = true) (hown : s.vm.findClass RX4 = some m.cls) (hK : Kw G s) (hM : Wd G M s H locs) (hin : meth.name = "<init>") (ha : M a = some (r, .inr (5, [v0, v1, v2, v3, v4, v5, v6]))) (hdg : decode cc pc = .ok (.putfield 13, 3)) (kk : ∀ (H : Heap) (locs : List Loc), Wd G (hu M a r (.inr (5, [.int z, v1, v2, v3, v4, v5, v6]))) s H locs → W p l e R s m args below meth c H locs cells slots Q (F0 m (pc + 3) ls rest)) : W p l e R s m args below meth c H locs cells slots Q (F0 m pc ls (.int z :: .ref a :: rest)) :=
  g_putF (own := RX4) (ref := "WheatRun$Ticket") (C := RX4) (T := TX4) (N := 7) (ci := 5) (index := 13) (ty := .int) hx hb hts hown hK hM iaX4 rfl 0 (by decide) wf_X4_13 (fun _ h => h) tyX4 tyX4_ok nmX4 rfl hin rfl (by decide +kernel) rfl rfl ha (Nat.le_of_ble_eq_true rfl) hdg kk
theorem fp_X4_21 {v0 v1 v2 v3 v4 v5 v6 : Value} {z : Int32} (hx : p.tables.exec = Jvm.exec) (hb : c.code = cc) (hts : ∀ w ∈ AL, w.before args s = true) (hown : s.vm.findClass RX4 = some m.cls) (hK : Kw G s) (hM : Wd G M s H locs) (hin : meth.name = "<init>") (ha : M a = some (r, .inr (5, [v0, v1, v2, v3, v4, v5, v6]))) (hdg : decode cc pc = .ok (.putfield 21, 3)) (kk : ∀ (H : Heap) (locs : List Loc), Wd G (hu M a r (.inr (5, [v0, .int z, v2, v3, v4, v5, v6]))) s H locs → W p l e R s m args below meth c H locs cells slots Q (F0 m (pc + 3) ls rest)) : W p l e R s m args below meth c H locs cells slots Q (F0 m pc ls (.int z :: .ref a :: rest)) :=
  g_putF (own := RX4) (ref := "WheatRun$Ticket") (C := RX4) (T := TX4) (N := 7) (ci := 5) (index := 21) (ty := .int) hx hb hts hown hK hM iaX4 rfl 1 (by decide) wf_X4_21 (fun _ h => h) tyX4 tyX4_ok nmX4 rfl hin rfl (by decide +kernel) rfl rfl ha (Nat.le_of_ble_eq_true rfl) hdg kk
theorem fp_X4_27 {v0 v1 v2 v3 v4 v5 v6 : Value} {z : Int32} (hx : p.tables.exec = Jvm.exec) (hb : c.code = cc) (hts : ∀ w ∈ AL, w.before args s = true) (hown : s.vm.findClass RX4 = some m.cls) (hK : Kw G s) (hM : Wd G M s H locs) (hin : meth.name = "<init>") (ha : M a = some (r, .inr (5, [v0, v1, v2, v3, v4, v5, v6]))) (hdg : decode cc pc = .ok (.putfield 27, 3)) (kk : ∀ (H : Heap) (locs : List Loc), Wd G (hu M a r (.inr (5, [v0, v1, .int z, v3, v4, v5, v6]))) s H locs → W p l e R s m args below meth c H locs cells slots Q (F0 m (pc + 3) ls rest)) : W p l e R s m args below meth c H locs cells slots Q (F0 m pc ls (.int z :: .ref a :: rest)) :=
  g_putF (own := RX4) (ref := "WheatRun$Ticket") (C := RX4) (T := TX4) (N := 7) (ci := 5) (index := 27) (ty := .int) hx hb hts hown hK hM iaX4 rfl 2 (by decide) wf_X4_27 (fun _ h => h) tyX4 tyX4_ok nmX4 rfl hin rfl (by decide +kernel) rfl rfl ha (Nat.le_of_ble_eq_true rfl) hdg kk
theorem fp_X4_28 {v0 v1 v2 v3 v4 v5 v6 : Value} {z : Int32} (hx : p.tables.exec = Jvm.exec) (hb : c.code = cc) (hts : ∀ w ∈ AL, w.before args s = true) (hown : s.vm.findClass RX4 = some m.cls) (hK : Kw G s) (hM : Wd G M s H locs) (hin : meth.name = "<init>") (ha : M a = some (r, .inr (5, [v0, v1, v2, v3, v4, v5, v6]))) (hdg : decode cc pc = .ok (.putfield 28, 3)) (kk : ∀ (H : Heap) (locs : List Loc), Wd G (hu M a r (.inr (5, [v0, v1, v2, .int z, v4, v5, v6]))) s H locs → W p l e R s m args below meth c H locs cells slots Q (F0 m (pc + 3) ls rest)) : W p l e R s m args below meth c H locs cells slots Q (F0 m pc ls (.int z :: .ref a :: rest)) :=
  g_putF (own := RX4) (ref := "WheatRun$Ticket") (C := RX4) (T := TX4) (N := 7) (ci := 5) (index := 28) (ty := .int) hx hb hts hown hK hM iaX4 rfl 3 (by decide) wf_X4_28 (fun _ h => h) tyX4 tyX4_ok nmX4 rfl hin rfl (by decide +kernel) rfl rfl ha (Nat.le_of_ble_eq_true rfl) hdg kk
theorem fp_X4_34 {v0 v1 v2 v3 v4 v5 v6 : Value} {z : Int32} (hx : p.tables.exec = Jvm.exec) (hb : c.code = cc) (hts : ∀ w ∈ AL, w.before args s = true) (hown : s.vm.findClass RX4 = some m.cls) (hK : Kw G s) (hM : Wd G M s H locs) (hin : meth.name = "<init>") (ha : M a = some (r, .inr (5, [v0, v1, v2, v3, v4, v5, v6]))) (hdg : decode cc pc = .ok (.putfield 34, 3)) (kk : ∀ (H : Heap) (locs : List Loc), Wd G (hu M a r (.inr (5, [v0, v1, v2, v3, .int z, v5, v6]))) s H locs → W p l e R s m args below meth c H locs cells slots Q (F0 m (pc + 3) ls rest)) : W p l e R s m args below meth c H locs cells slots Q (F0 m pc ls (.int z :: .ref a :: rest)) :=
  g_putF (own := RX4) (ref := "WheatRun$Ticket") (C := RX4) (T := TX4) (N := 7) (ci := 5) (index := 34) (ty := .int) hx hb hts hown hK hM iaX4 rfl 4 (by decide) wf_X4_34 (fun _ h => h) tyX4 tyX4_ok nmX4 rfl hin rfl (by decide +kernel) rfl rfl ha (Nat.le_of_ble_eq_true rfl) hdg kk
theorem fp_X4_37 {v0 v1 v2 v3 v4 v5 v6 : Value} {z : Int32} (hx : p.tables.exec = Jvm.exec) (hb : c.code = cc) (hts : ∀ w ∈ AL, w.before args s = true) (hown : s.vm.findClass RX4 = some m.cls) (hK : Kw G s) (hM : Wd G M s H locs) (hin : meth.name = "<init>") (ha : M a = some (r, .inr (5, [v0, v1, v2, v3, v4, v5, v6]))) (hdg : decode cc pc = .ok (.putfield 37, 3)) (kk : ∀ (H : Heap) (locs : List Loc), Wd G (hu M a r (.inr (5, [v0, v1, v2, v3, v4, .int z, v6]))) s H locs → W p l e R s m args below meth c H locs cells slots Q (F0 m (pc + 3) ls rest)) : W p l e R s m args below meth c H locs cells slots Q (F0 m pc ls (.int z :: .ref a :: rest)) :=
  g_putF (own := RX4) (ref := "WheatRun$Ticket") (C := RX4) (T := TX4) (N := 7) (ci := 5) (index := 37) (ty := .int) hx hb hts hown hK hM iaX4 rfl 5 (by decide) wf_X4_37 (fun _ h => h) tyX4 tyX4_ok nmX4 rfl hin rfl (by decide +kernel) rfl rfl ha (Nat.le_of_ble_eq_true rfl) hdg kk
theorem fp_X4_40 {v0 v1 v2 v3 v4 v5 v6 : Value} {z : Int32} (hx : p.tables.exec = Jvm.exec) (hb : c.code = cc) (hts : ∀ w ∈ AL, w.before args s = true) (hown : s.vm.findClass RX4 = some m.cls) (hK : Kw G s) (hM : Wd G M s H locs) (hin : meth.name = "<init>") (ha : M a = some (r, .inr (5, [v0, v1, v2, v3, v4, v5, v6]))) (hdg : decode cc pc = .ok (.putfield 40, 3)) (kk : ∀ (H : Heap) (locs : List Loc), Wd G (hu M a r (.inr (5, [v0, v1, v2, v3, v4, v5, .int z]))) s H locs → W p l e R s m args below meth c H locs cells slots Q (F0 m (pc + 3) ls rest)) : W p l e R s m args below meth c H locs cells slots Q (F0 m pc ls (.int z :: .ref a :: rest)) :=
  g_putF (own := RX4) (ref := "WheatRun$Ticket") (C := RX4) (T := TX4) (N := 7) (ci := 5) (index := 40) (ty := .int) hx hb hts hown hK hM iaX4 rfl 6 (by decide) wf_X4_40 (fun _ h => h) tyX4 tyX4_ok nmX4 rfl hin rfl (by decide +kernel) rfl rfl ha (Nat.le_of_ble_eq_true rfl) hdg kk
theorem fp_X5_9 {v0 v1 v2 v3 v4 v5 v6 v7 v8 v9 : Value} {z : Int32} (hx : p.tables.exec = Jvm.exec) (hb : c.code = cc) (hts : ∀ w ∈ AL, w.before args s = true) (hown : s.vm.findClass RX5 = some m.cls) (hK : Kw G s) (hM : Wd G M s H locs) (ha : M a = some (r, .inr (6, [v0, v1, v2, v3, v4, v5, v6, v7, v8, v9]))) (hdg : decode cc pc = .ok (.putfield 9, 3)) (kk : ∀ (H : Heap) (locs : List Loc), Wd G (hu M a r (.inr (6, [v0, v1, v2, .int z, v4, v5, v6, v7, v8, v9]))) s H locs → W p l e R s m args below meth c H locs cells slots Q (F0 m (pc + 3) ls rest)) : W p l e R s m args below meth c H locs cells slots Q (F0 m pc ls (.int z :: .ref a :: rest)) :=
  g_put (own := RX5) (ref := "WheatRun$Truck") (C := RX5) (T := TX5) (N := 10) (ci := 6) (index := 9) (ty := .int) hx hb hts hown hK hM iaX5 rfl 3 (by decide) wf_X5_9 (fun _ h => h) tyX5 tyX5_ok nmX5 rfl (by decide +kernel) rfl rfl ha (Nat.le_of_ble_eq_true rfl) hdg kk
theorem fp_X5_15 {v0 v1 v2 v3 v4 v5 v6 v7 v8 v9 : Value} {z : Int32} (hx : p.tables.exec = Jvm.exec) (hb : c.code = cc) (hts : ∀ w ∈ AL, w.before args s = true) (hown : s.vm.findClass RX5 = some m.cls) (hK : Kw G s) (hM : Wd G M s H locs) (ha : M a = some (r, .inr (6, [v0, v1, v2, v3, v4, v5, v6, v7, v8, v9]))) (hdg : decode cc pc = .ok (.putfield 15, 3)) (kk : ∀ (H : Heap) (locs : List Loc), Wd G (hu M a r (.inr (6, [v0, v1, v2, v3, v4, v5, v6, .int z, v8, v9]))) s H locs → W p l e R s m args below meth c H locs cells slots Q (F0 m (pc + 3) ls rest)) : W p l e R s m args below meth c H locs cells slots Q (F0 m pc ls (.int z :: .ref a :: rest)) :=
  g_put (own := RX5) (ref := "WheatRun$Truck") (C := RX5) (T := TX5) (N := 10) (ci := 6) (index := 15) (ty := .int) hx hb hts hown hK hM iaX5 rfl 7 (by decide) wf_X5_15 (fun _ h => h) tyX5 tyX5_ok nmX5 rfl (by decide +kernel) rfl rfl ha (Nat.le_of_ble_eq_true rfl) hdg kk
theorem fp_X5_18 {v0 v1 v2 v3 v4 v5 v6 v7 v8 v9 : Value} {z : Int32} (hx : p.tables.exec = Jvm.exec) (hb : c.code = cc) (hts : ∀ w ∈ AL, w.before args s = true) (hown : s.vm.findClass RX5 = some m.cls) (hK : Kw G s) (hM : Wd G M s H locs) (ha : M a = some (r, .inr (6, [v0, v1, v2, v3, v4, v5, v6, v7, v8, v9]))) (hdg : decode cc pc = .ok (.putfield 18, 3)) (kk : ∀ (H : Heap) (locs : List Loc), Wd G (hu M a r (.inr (6, [v0, v1, v2, v3, v4, v5, v6, v7, .int z, v9]))) s H locs → W p l e R s m args below meth c H locs cells slots Q (F0 m (pc + 3) ls rest)) : W p l e R s m args below meth c H locs cells slots Q (F0 m pc ls (.int z :: .ref a :: rest)) :=
  g_put (own := RX5) (ref := "WheatRun$Truck") (C := RX5) (T := TX5) (N := 10) (ci := 6) (index := 18) (ty := .int) hx hb hts hown hK hM iaX5 rfl 8 (by decide) wf_X5_18 (fun _ h => h) tyX5 tyX5_ok nmX5 rfl (by decide +kernel) rfl rfl ha (Nat.le_of_ble_eq_true rfl) hdg kk
theorem fp_X5_21 {v0 v1 v2 v3 v4 v5 v6 v7 v8 v9 : Value} {z : Int32} (hx : p.tables.exec = Jvm.exec) (hb : c.code = cc) (hts : ∀ w ∈ AL, w.before args s = true) (hown : s.vm.findClass RX5 = some m.cls) (hK : Kw G s) (hM : Wd G M s H locs) (ha : M a = some (r, .inr (6, [v0, v1, v2, v3, v4, v5, v6, v7, v8, v9]))) (hdg : decode cc pc = .ok (.putfield 21, 3)) (kk : ∀ (H : Heap) (locs : List Loc), Wd G (hu M a r (.inr (6, [.int z, v1, v2, v3, v4, v5, v6, v7, v8, v9]))) s H locs → W p l e R s m args below meth c H locs cells slots Q (F0 m (pc + 3) ls rest)) : W p l e R s m args below meth c H locs cells slots Q (F0 m pc ls (.int z :: .ref a :: rest)) :=
  g_put (own := RX5) (ref := "WheatRun$Truck") (C := RX5) (T := TX5) (N := 10) (ci := 6) (index := 21) (ty := .int) hx hb hts hown hK hM iaX5 rfl 0 (by decide) wf_X5_21 (fun _ h => h) tyX5 tyX5_ok nmX5 rfl (by decide +kernel) rfl rfl ha (Nat.le_of_ble_eq_true rfl) hdg kk
theorem fp_X5_24 {v0 v1 v2 v3 v4 v5 v6 v7 v8 v9 : Value} {z : Int32} (hx : p.tables.exec = Jvm.exec) (hb : c.code = cc) (hts : ∀ w ∈ AL, w.before args s = true) (hown : s.vm.findClass RX5 = some m.cls) (hK : Kw G s) (hM : Wd G M s H locs) (ha : M a = some (r, .inr (6, [v0, v1, v2, v3, v4, v5, v6, v7, v8, v9]))) (hdg : decode cc pc = .ok (.putfield 24, 3)) (kk : ∀ (H : Heap) (locs : List Loc), Wd G (hu M a r (.inr (6, [v0, .int z, v2, v3, v4, v5, v6, v7, v8, v9]))) s H locs → W p l e R s m args below meth c H locs cells slots Q (F0 m (pc + 3) ls rest)) : W p l e R s m args below meth c H locs cells slots Q (F0 m pc ls (.int z :: .ref a :: rest)) :=
  g_put (own := RX5) (ref := "WheatRun$Truck") (C := RX5) (T := TX5) (N := 10) (ci := 6) (index := 24) (ty := .int) hx hb hts hown hK hM iaX5 rfl 1 (by decide) wf_X5_24 (fun _ h => h) tyX5 tyX5_ok nmX5 rfl (by decide +kernel) rfl rfl ha (Nat.le_of_ble_eq_true rfl) hdg kk
theorem fp_X5_27 {v0 v1 v2 v3 v4 v5 v6 v7 v8 v9 : Value} {z : Int32} (hx : p.tables.exec = Jvm.exec) (hb : c.code = cc) (hts : ∀ w ∈ AL, w.before args s = true) (hown : s.vm.findClass RX5 = some m.cls) (hK : Kw G s) (hM : Wd G M s H locs) (ha : M a = some (r, .inr (6, [v0, v1, v2, v3, v4, v5, v6, v7, v8, v9]))) (hdg : decode cc pc = .ok (.putfield 27, 3)) (kk : ∀ (H : Heap) (locs : List Loc), Wd G (hu M a r (.inr (6, [v0, v1, .int z, v3, v4, v5, v6, v7, v8, v9]))) s H locs → W p l e R s m args below meth c H locs cells slots Q (F0 m (pc + 3) ls rest)) : W p l e R s m args below meth c H locs cells slots Q (F0 m pc ls (.int z :: .ref a :: rest)) :=
  g_put (own := RX5) (ref := "WheatRun$Truck") (C := RX5) (T := TX5) (N := 10) (ci := 6) (index := 27) (ty := .int) hx hb hts hown hK hM iaX5 rfl 2 (by decide) wf_X5_27 (fun _ h => h) tyX5 tyX5_ok nmX5 rfl (by decide +kernel) rfl rfl ha (Nat.le_of_ble_eq_true rfl) hdg kk
theorem fp_X5_30 {v0 v1 v2 v3 v4 v5 v6 v7 v8 v9 : Value} {z : Int32} (hx : p.tables.exec = Jvm.exec) (hb : c.code = cc) (hts : ∀ w ∈ AL, w.before args s = true) (hown : s.vm.findClass RX5 = some m.cls) (hK : Kw G s) (hM : Wd G M s H locs) (ha : M a = some (r, .inr (6, [v0, v1, v2, v3, v4, v5, v6, v7, v8, v9]))) (hdg : decode cc pc = .ok (.putfield 30, 3)) (kk : ∀ (H : Heap) (locs : List Loc), Wd G (hu M a r (.inr (6, [v0, v1, v2, v3, .int z, v5, v6, v7, v8, v9]))) s H locs → W p l e R s m args below meth c H locs cells slots Q (F0 m (pc + 3) ls rest)) : W p l e R s m args below meth c H locs cells slots Q (F0 m pc ls (.int z :: .ref a :: rest)) :=
  g_put (own := RX5) (ref := "WheatRun$Truck") (C := RX5) (T := TX5) (N := 10) (ci := 6) (index := 30) (ty := .int) hx hb hts hown hK hM iaX5 rfl 4 (by decide) wf_X5_30 (fun _ h => h) tyX5 tyX5_ok nmX5 rfl (by decide +kernel) rfl rfl ha (Nat.le_of_ble_eq_true rfl) hdg kk
theorem fp_X5_33 {v0 v1 v2 v3 v4 v5 v6 v7 v8 v9 : Value} {z : Int32} (hx : p.tables.exec = Jvm.exec) (hb : c.code = cc) (hts : ∀ w ∈ AL, w.before args s = true) (hown : s.vm.findClass RX5 = some m.cls) (hK : Kw G s) (hM : Wd G M s H locs) (ha : M a = some (r, .inr (6, [v0, v1, v2, v3, v4, v5, v6, v7, v8, v9]))) (hdg : decode cc pc = .ok (.putfield 33, 3)) (kk : ∀ (H : Heap) (locs : List Loc), Wd G (hu M a r (.inr (6, [v0, v1, v2, v3, v4, .int z, v6, v7, v8, v9]))) s H locs → W p l e R s m args below meth c H locs cells slots Q (F0 m (pc + 3) ls rest)) : W p l e R s m args below meth c H locs cells slots Q (F0 m pc ls (.int z :: .ref a :: rest)) :=
  g_put (own := RX5) (ref := "WheatRun$Truck") (C := RX5) (T := TX5) (N := 10) (ci := 6) (index := 33) (ty := .int) hx hb hts hown hK hM iaX5 rfl 5 (by decide) wf_X5_33 (fun _ h => h) tyX5 tyX5_ok nmX5 rfl (by decide +kernel) rfl rfl ha (Nat.le_of_ble_eq_true rfl) hdg kk
theorem fp_X5_36 {v0 v1 v2 v3 v4 v5 v6 v7 v8 v9 : Value} {z : Int32} (hx : p.tables.exec = Jvm.exec) (hb : c.code = cc) (hts : ∀ w ∈ AL, w.before args s = true) (hown : s.vm.findClass RX5 = some m.cls) (hK : Kw G s) (hM : Wd G M s H locs) (ha : M a = some (r, .inr (6, [v0, v1, v2, v3, v4, v5, v6, v7, v8, v9]))) (hdg : decode cc pc = .ok (.putfield 36, 3)) (kk : ∀ (H : Heap) (locs : List Loc), Wd G (hu M a r (.inr (6, [v0, v1, v2, v3, v4, v5, .int z, v7, v8, v9]))) s H locs → W p l e R s m args below meth c H locs cells slots Q (F0 m (pc + 3) ls rest)) : W p l e R s m args below meth c H locs cells slots Q (F0 m pc ls (.int z :: .ref a :: rest)) :=
  g_put (own := RX5) (ref := "WheatRun$Truck") (C := RX5) (T := TX5) (N := 10) (ci := 6) (index := 36) (ty := .int) hx hb hts hown hK hM iaX5 rfl 6 (by decide) wf_X5_36 (fun _ h => h) tyX5 tyX5_ok nmX5 rfl (by decide +kernel) rfl rfl ha (Nat.le_of_ble_eq_true rfl) hdg kk
theorem fp_X5_39 {v0 v1 v2 v3 v4 v5 v6 v7 v8 v9 : Value} {z : Int32} (hx : p.tables.exec = Jvm.exec) (hb : c.code = cc) (hts : ∀ w ∈ AL, w.before args s = true) (hown : s.vm.findClass RX5 = some m.cls) (hK : Kw G s) (hM : Wd G M s H locs) (ha : M a = some (r, .inr (6, [v0, v1, v2, v3, v4, v5, v6, v7, v8, v9]))) (hdg : decode cc pc = .ok (.putfield 39, 3)) (kk : ∀ (H : Heap) (locs : List Loc), Wd G (hu M a r (.inr (6, [v0, v1, v2, v3, v4, v5, v6, v7, v8, .int z]))) s H locs → W p l e R s m args below meth c H locs cells slots Q (F0 m (pc + 3) ls rest)) : W p l e R s m args below meth c H locs cells slots Q (F0 m pc ls (.int z :: .ref a :: rest)) :=
  g_put (own := RX5) (ref := "WheatRun$Truck") (C := RX5) (T := TX5) (N := 10) (ci := 6) (index := 39) (ty := .int) hx hb hts hown hK hM iaX5 rfl 9 (by decide) wf_X5_39 (fun _ h => h) tyX5 tyX5_ok nmX5 rfl (by decide +kernel) rfl rfl ha (Nat.le_of_ble_eq_true rfl) hdg kk
theorem fp_X5_57 {v0 v1 v2 v3 v4 v5 v6 v7 v8 v9 v10 v11 : Value} {z : Int32} (hx : p.tables.exec = Jvm.exec) (hb : c.code = cc) (hts : ∀ w ∈ AL, w.before args s = true) (hown : s.vm.findClass RX5 = some m.cls) (hK : Kw G s) (hM : Wd G M s H locs) (ha : M a = some (r, .inr (1, [v0, v1, v2, v3, v4, v5, v6, v7, v8, v9, v10, v11]))) (hdg : decode cc pc = .ok (.putfield 57, 3)) (kk : ∀ (H : Heap) (locs : List Loc), Wd G (hu M a r (.inr (1, [v0, v1, v2, .int z, v4, v5, v6, v7, v8, v9, v10, v11]))) s H locs → W p l e R s m args below meth c H locs cells slots Q (F0 m (pc + 3) ls rest)) : W p l e R s m args below meth c H locs cells slots Q (F0 m pc ls (.int z :: .ref a :: rest)) :=
  g_put (own := RX5) (ref := "WheatRun$Combine") (C := RX0) (T := TX0) (N := 12) (ci := 1) (index := 57) (ty := .int) hx hb hts hown hK hM iaX0 rfl 3 (by decide) wf_X5_57 (fun _ h => h) tyX0 tyX0_ok nmX0 rfl (by decide +kernel) rfl rfl ha (Nat.le_of_ble_eq_true rfl) hdg kk
theorem fp_X6_12 {v0 v1 v2 : Value} {q : Nat} (hx : p.tables.exec = Jvm.exec) (hb : c.code = cc) (hts : ∀ w ∈ AL, w.before args s = true) (hown : s.vm.findClass RX6 = some m.cls) (hK : Kw G s) (hM : Wd G M s H locs) (hin : meth.name = "<init>") (ha : M a = some (r, .inr (7, [v0, v1, v2]))) (hdg : decode cc pc = .ok (.putfield 12, 3)) (kk : ∀ (H : Heap) (locs : List Loc), Wd G (hu M a r (.inr (7, [.ref q, v1, v2]))) s H locs → W p l e R s m args below meth c H locs cells slots Q (F0 m (pc + 3) ls rest)) : W p l e R s m args below meth c H locs cells slots Q (F0 m pc ls (.ref q :: .ref a :: rest)) :=
  g_putF (own := RX6) (ref := "WheatRun") (C := RX6) (T := TX6) (N := 3) (ci := 7) (index := 12) (ty := .object "WheatRun$Land") hx hb hts hown hK hM iaX6 rfl 0 (by decide) wf_X6_12 (fun _ h => h) tyX6 tyX6_ok nmX6 rfl hin rfl (by decide +kernel) rfl rfl ha (Nat.le_of_ble_eq_true rfl) hdg kk
theorem fp_X6_18 {v0 v1 v2 : Value} {q : Nat} (hx : p.tables.exec = Jvm.exec) (hb : c.code = cc) (hts : ∀ w ∈ AL, w.before args s = true) (hown : s.vm.findClass RX6 = some m.cls) (hK : Kw G s) (hM : Wd G M s H locs) (hin : meth.name = "<init>") (ha : M a = some (r, .inr (7, [v0, v1, v2]))) (hdg : decode cc pc = .ok (.putfield 18, 3)) (kk : ∀ (H : Heap) (locs : List Loc), Wd G (hu M a r (.inr (7, [v0, .ref q, v2]))) s H locs → W p l e R s m args below meth c H locs cells slots Q (F0 m (pc + 3) ls rest)) : W p l e R s m args below meth c H locs cells slots Q (F0 m pc ls (.ref q :: .ref a :: rest)) :=
  g_putF (own := RX6) (ref := "WheatRun") (C := RX6) (T := TX6) (N := 3) (ci := 7) (index := 18) (ty := .object "WheatRun$Land") hx hb hts hown hK hM iaX6 rfl 1 (by decide) wf_X6_18 (fun _ h => h) tyX6 tyX6_ok nmX6 rfl hin rfl (by decide +kernel) rfl rfl ha (Nat.le_of_ble_eq_true rfl) hdg kk
theorem fp_X6_26 {v0 v1 v2 : Value} {q : Nat} (hx : p.tables.exec = Jvm.exec) (hb : c.code = cc) (hts : ∀ w ∈ AL, w.before args s = true) (hown : s.vm.findClass RX6 = some m.cls) (hK : Kw G s) (hM : Wd G M s H locs) (hin : meth.name = "<init>") (ha : M a = some (r, .inr (7, [v0, v1, v2]))) (hdg : decode cc pc = .ok (.putfield 26, 3)) (kk : ∀ (H : Heap) (locs : List Loc), Wd G (hu M a r (.inr (7, [v0, v1, .ref q]))) s H locs → W p l e R s m args below meth c H locs cells slots Q (F0 m (pc + 3) ls rest)) : W p l e R s m args below meth c H locs cells slots Q (F0 m pc ls (.ref q :: .ref a :: rest)) :=
  g_putF (own := RX6) (ref := "WheatRun") (C := RX6) (T := TX6) (N := 3) (ci := 7) (index := 26) (ty := .object "WheatRun$Field") hx hb hts hown hK hM iaX6 rfl 2 (by decide) wf_X6_26 (fun _ h => h) tyX6 tyX6_ok nmX6 rfl hin rfl (by decide +kernel) rfl rfl ha (Nat.le_of_ble_eq_true rfl) hdg kk
theorem fp_X6_73 {v0 v1 v2 v3 v4 v5 v6 v7 v8 v9 v10 v11 v12 : Value} {z : Int32} (hx : p.tables.exec = Jvm.exec) (hb : c.code = cc) (hts : ∀ w ∈ AL, w.before args s = true) (hown : s.vm.findClass RX6 = some m.cls) (hK : Kw G s) (hM : Wd G M s H locs) (ha : M a = some (r, .inr (3, [v0, v1, v2, v3, v4, v5, v6, v7, v8, v9, v10, v11, v12]))) (hdg : decode cc pc = .ok (.putfield 73, 3)) (kk : ∀ (H : Heap) (locs : List Loc), Wd G (hu M a r (.inr (3, [v0, v1, v2, v3, v4, v5, .int z, v7, v8, v9, v10, v11, v12]))) s H locs → W p l e R s m args below meth c H locs cells slots Q (F0 m (pc + 3) ls rest)) : W p l e R s m args below meth c H locs cells slots Q (F0 m pc ls (.int z :: .ref a :: rest)) :=
  g_put (own := RX6) (ref := "WheatRun$Field") (C := RX2) (T := TX2) (N := 13) (ci := 3) (index := 73) (ty := .int) hx hb hts hown hK hM iaX2 rfl 6 (by decide) wf_X6_73 (fun _ h => h) tyX2 tyX2_ok nmX2 rfl (by decide +kernel) rfl rfl ha (Nat.le_of_ble_eq_true rfl) hdg kk
theorem fp_X6_77 {v0 v1 v2 v3 v4 v5 v6 v7 v8 v9 v10 v11 v12 : Value} {z : Int32} (hx : p.tables.exec = Jvm.exec) (hb : c.code = cc) (hts : ∀ w ∈ AL, w.before args s = true) (hown : s.vm.findClass RX6 = some m.cls) (hK : Kw G s) (hM : Wd G M s H locs) (ha : M a = some (r, .inr (3, [v0, v1, v2, v3, v4, v5, v6, v7, v8, v9, v10, v11, v12]))) (hdg : decode cc pc = .ok (.putfield 77, 3)) (kk : ∀ (H : Heap) (locs : List Loc), Wd G (hu M a r (.inr (3, [v0, v1, v2, v3, v4, v5, v6, .int z, v8, v9, v10, v11, v12]))) s H locs → W p l e R s m args below meth c H locs cells slots Q (F0 m (pc + 3) ls rest)) : W p l e R s m args below meth c H locs cells slots Q (F0 m pc ls (.int z :: .ref a :: rest)) :=
  g_put (own := RX6) (ref := "WheatRun$Field") (C := RX2) (T := TX2) (N := 13) (ci := 3) (index := 77) (ty := .int) hx hb hts hown hK hM iaX2 rfl 7 (by decide) wf_X6_77 (fun _ h => h) tyX2 tyX2_ok nmX2 rfl (by decide +kernel) rfl rfl ha (Nat.le_of_ble_eq_true rfl) hdg kk
theorem fp_X6_122 {v0 v1 v2 v3 v4 v5 v6 v7 v8 : Value} {z : Int32} (hx : p.tables.exec = Jvm.exec) (hb : c.code = cc) (hts : ∀ w ∈ AL, w.before args s = true) (hown : s.vm.findClass RX6 = some m.cls) (hK : Kw G s) (hM : Wd G M s H locs) (ha : M a = some (r, .inr (4, [v0, v1, v2, v3, v4, v5, v6, v7, v8]))) (hdg : decode cc pc = .ok (.putfield 122, 3)) (kk : ∀ (H : Heap) (locs : List Loc), Wd G (hu M a r (.inr (4, [v0, v1, v2, v3, v4, v5, v6, .int z, v8]))) s H locs → W p l e R s m args below meth c H locs cells slots Q (F0 m (pc + 3) ls rest)) : W p l e R s m args below meth c H locs cells slots Q (F0 m pc ls (.int z :: .ref a :: rest)) :=
  g_put (own := RX6) (ref := "WheatRun$Land") (C := RX3) (T := TX3) (N := 9) (ci := 4) (index := 122) (ty := .int) hx hb hts hown hK hM iaX3 rfl 7 (by decide) wf_X6_122 (fun _ h => h) tyX3 tyX3_ok nmX3 rfl (by decide +kernel) rfl rfl ha (Nat.le_of_ble_eq_true rfl) hdg kk
theorem fp_X6_131 {v0 v1 v2 v3 v4 v5 v6 v7 v8 v9 v10 v11 : Value} {z : Int32} (hx : p.tables.exec = Jvm.exec) (hb : c.code = cc) (hts : ∀ w ∈ AL, w.before args s = true) (hown : s.vm.findClass RX6 = some m.cls) (hK : Kw G s) (hM : Wd G M s H locs) (ha : M a = some (r, .inr (1, [v0, v1, v2, v3, v4, v5, v6, v7, v8, v9, v10, v11]))) (hdg : decode cc pc = .ok (.putfield 131, 3)) (kk : ∀ (H : Heap) (locs : List Loc), Wd G (hu M a r (.inr (1, [v0, v1, v2, v3, v4, v5, v6, v7, v8, .int z, v10, v11]))) s H locs → W p l e R s m args below meth c H locs cells slots Q (F0 m (pc + 3) ls rest)) : W p l e R s m args below meth c H locs cells slots Q (F0 m pc ls (.int z :: .ref a :: rest)) :=
  g_put (own := RX6) (ref := "WheatRun$Combine") (C := RX0) (T := TX0) (N := 12) (ci := 1) (index := 131) (ty := .int) hx hb hts hown hK hM iaX0 rfl 9 (by decide) wf_X6_131 (fun _ h => h) tyX0 tyX0_ok nmX0 rfl (by decide +kernel) rfl rfl ha (Nat.le_of_ble_eq_true rfl) hdg kk
theorem fp_X6_144 {v0 v1 v2 v3 v4 v5 v6 v7 v8 v9 : Value} {z : Int32} (hx : p.tables.exec = Jvm.exec) (hb : c.code = cc) (hts : ∀ w ∈ AL, w.before args s = true) (hown : s.vm.findClass RX6 = some m.cls) (hK : Kw G s) (hM : Wd G M s H locs) (ha : M a = some (r, .inr (6, [v0, v1, v2, v3, v4, v5, v6, v7, v8, v9]))) (hdg : decode cc pc = .ok (.putfield 144, 3)) (kk : ∀ (H : Heap) (locs : List Loc), Wd G (hu M a r (.inr (6, [v0, v1, v2, v3, v4, v5, v6, .int z, v8, v9]))) s H locs → W p l e R s m args below meth c H locs cells slots Q (F0 m (pc + 3) ls rest)) : W p l e R s m args below meth c H locs cells slots Q (F0 m pc ls (.int z :: .ref a :: rest)) :=
  g_put (own := RX6) (ref := "WheatRun$Truck") (C := RX5) (T := TX5) (N := 10) (ci := 6) (index := 144) (ty := .int) hx hb hts hown hK hM iaX5 rfl 7 (by decide) wf_X6_144 (fun _ h => h) tyX5 tyX5_ok nmX5 rfl (by decide +kernel) rfl rfl ha (Nat.le_of_ble_eq_true rfl) hdg kk
theorem fp_X6_147 {v0 v1 v2 v3 v4 v5 v6 v7 v8 v9 : Value} {z : Int32} (hx : p.tables.exec = Jvm.exec) (hb : c.code = cc) (hts : ∀ w ∈ AL, w.before args s = true) (hown : s.vm.findClass RX6 = some m.cls) (hK : Kw G s) (hM : Wd G M s H locs) (ha : M a = some (r, .inr (6, [v0, v1, v2, v3, v4, v5, v6, v7, v8, v9]))) (hdg : decode cc pc = .ok (.putfield 147, 3)) (kk : ∀ (H : Heap) (locs : List Loc), Wd G (hu M a r (.inr (6, [v0, v1, v2, v3, v4, v5, v6, v7, .int z, v9]))) s H locs → W p l e R s m args below meth c H locs cells slots Q (F0 m (pc + 3) ls rest)) : W p l e R s m args below meth c H locs cells slots Q (F0 m pc ls (.int z :: .ref a :: rest)) :=
  g_put (own := RX6) (ref := "WheatRun$Truck") (C := RX5) (T := TX5) (N := 10) (ci := 6) (index := 147) (ty := .int) hx hb hts hown hK hM iaX5 rfl 8 (by decide) wf_X6_147 (fun _ h => h) tyX5 tyX5_ok nmX5 rfl (by decide +kernel) rfl rfl ha (Nat.le_of_ble_eq_true rfl) hdg kk
theorem fp_X6_169 {v0 v1 v2 v3 v4 v5 v6 v7 v8 v9 v10 v11 : Value} {z : Int32} (hx : p.tables.exec = Jvm.exec) (hb : c.code = cc) (hts : ∀ w ∈ AL, w.before args s = true) (hown : s.vm.findClass RX6 = some m.cls) (hK : Kw G s) (hM : Wd G M s H locs) (ha : M a = some (r, .inr (1, [v0, v1, v2, v3, v4, v5, v6, v7, v8, v9, v10, v11]))) (hdg : decode cc pc = .ok (.putfield 169, 3)) (kk : ∀ (H : Heap) (locs : List Loc), Wd G (hu M a r (.inr (1, [v0, v1, v2, v3, v4, v5, .int z, v7, v8, v9, v10, v11]))) s H locs → W p l e R s m args below meth c H locs cells slots Q (F0 m (pc + 3) ls rest)) : W p l e R s m args below meth c H locs cells slots Q (F0 m pc ls (.int z :: .ref a :: rest)) :=
  g_put (own := RX6) (ref := "WheatRun$Combine") (C := RX0) (T := TX0) (N := 12) (ci := 1) (index := 169) (ty := .int) hx hb hts hown hK hM iaX0 rfl 6 (by decide) wf_X6_169 (fun _ h => h) tyX0 tyX0_ok nmX0 rfl (by decide +kernel) rfl rfl ha (Nat.le_of_ble_eq_true rfl) hdg kk
theorem fp_X6_172 {v0 v1 v2 v3 v4 v5 v6 v7 v8 : Value} {z : Int32} (hx : p.tables.exec = Jvm.exec) (hb : c.code = cc) (hts : ∀ w ∈ AL, w.before args s = true) (hown : s.vm.findClass RX6 = some m.cls) (hK : Kw G s) (hM : Wd G M s H locs) (ha : M a = some (r, .inr (4, [v0, v1, v2, v3, v4, v5, v6, v7, v8]))) (hdg : decode cc pc = .ok (.putfield 172, 3)) (kk : ∀ (H : Heap) (locs : List Loc), Wd G (hu M a r (.inr (4, [v0, v1, v2, v3, v4, v5, v6, v7, .int z]))) s H locs → W p l e R s m args below meth c H locs cells slots Q (F0 m (pc + 3) ls rest)) : W p l e R s m args below meth c H locs cells slots Q (F0 m pc ls (.int z :: .ref a :: rest)) :=
  g_put (own := RX6) (ref := "WheatRun$Land") (C := RX3) (T := TX3) (N := 9) (ci := 4) (index := 172) (ty := .int) hx hb hts hown hK hM iaX3 rfl 8 (by decide) wf_X6_172 (fun _ h => h) tyX3 tyX3_ok nmX3 rfl (by decide +kernel) rfl rfl ha (Nat.le_of_ble_eq_true rfl) hdg kk
theorem fp_X6_177 {v0 v1 v2 v3 v4 v5 v6 v7 v8 v9 v10 v11 : Value} {z : Int32} (hx : p.tables.exec = Jvm.exec) (hb : c.code = cc) (hts : ∀ w ∈ AL, w.before args s = true) (hown : s.vm.findClass RX6 = some m.cls) (hK : Kw G s) (hM : Wd G M s H locs) (hz : narrow .boolean (.int z) = .int z) (ha : M a = some (r, .inr (1, [v0, v1, v2, v3, v4, v5, v6, v7, v8, v9, v10, v11]))) (hdg : decode cc pc = .ok (.putfield 177, 3)) (kk : ∀ (H : Heap) (locs : List Loc), Wd G (hu M a r (.inr (1, [v0, v1, v2, v3, v4, v5, v6, .int z, v8, v9, v10, v11]))) s H locs → W p l e R s m args below meth c H locs cells slots Q (F0 m (pc + 3) ls rest)) : W p l e R s m args below meth c H locs cells slots Q (F0 m pc ls (.int z :: .ref a :: rest)) :=
  g_put (own := RX6) (ref := "WheatRun$Combine") (C := RX0) (T := TX0) (N := 12) (ci := 1) (index := 177) (ty := .boolean) hx hb hts hown hK hM iaX0 rfl 7 (by decide) wf_X6_177 (fun _ h => h) tyX0 tyX0_ok nmX0 rfl (by decide +kernel) hz rfl ha (Nat.le_of_ble_eq_true rfl) hdg kk
theorem fp_X6_183 {v0 v1 v2 v3 v4 v5 : Value} {z : Int32} (hx : p.tables.exec = Jvm.exec) (hb : c.code = cc) (hts : ∀ w ∈ AL, w.before args s = true) (hown : s.vm.findClass RX6 = some m.cls) (hK : Kw G s) (hM : Wd G M s H locs) (ha : M a = some (r, .inr (2, [v0, v1, v2, v3, v4, v5]))) (hdg : decode cc pc = .ok (.putfield 183, 3)) (kk : ∀ (H : Heap) (locs : List Loc), Wd G (hu M a r (.inr (2, [v0, .int z, v2, v3, v4, v5]))) s H locs → W p l e R s m args below meth c H locs cells slots Q (F0 m (pc + 3) ls rest)) : W p l e R s m args below meth c H locs cells slots Q (F0 m pc ls (.int z :: .ref a :: rest)) :=
  g_put (own := RX6) (ref := "WheatRun$Elevator") (C := RX1) (T := TX1) (N := 6) (ci := 2) (index := 183) (ty := .int) hx hb hts hown hK hM iaX1 rfl 1 (by decide) wf_X6_183 (fun _ h => h) tyX1 tyX1_ok nmX1 rfl (by decide +kernel) rfl rfl ha (Nat.le_of_ble_eq_true rfl) hdg kk
theorem fp_X7_11 {v0 v1 v2 v3 v4 v5 v6 v7 v8 v9 : Value} {q : Nat} (hx : p.tables.exec = Jvm.exec) (hb : c.code = cc) (hts : ∀ w ∈ AL, w.before args s = true) (hown : s.vm.findClass RX7 = some m.cls) (hK : Kw G s) (hM : Wd G M s H locs) (hin : meth.name = "<init>") (ha : M a = some (r, .inr (8, [v0, v1, v2, v3, v4, v5, v6, v7, v8, v9]))) (hdg : decode cc pc = .ok (.putfield 11, 3)) (kk : ∀ (H : Heap) (locs : List Loc), Wd G (hu M a r (.inr (8, [.ref q, v1, v2, v3, v4, v5, v6, v7, v8, v9]))) s H locs → W p l e R s m args below meth c H locs cells slots Q (F0 m (pc + 3) ls rest)) : W p l e R s m args below meth c H locs cells slots Q (F0 m pc ls (.ref q :: .ref a :: rest)) :=
  g_putF (own := RX7) (ref := "WheatRunModel$Land") (C := RX7) (T := TX7) (N := 10) (ci := 8) (index := 11) (ty := .array (.array .int)) hx hb hts hown hK hM iaX7 rfl 0 (by decide) wf_X7_11 (fun _ h => h) tyX7 tyX7_ok nmX7 rfl hin rfl (by decide +kernel) rfl rfl ha (Nat.le_of_ble_eq_true rfl) hdg kk
theorem fp_X7_16 {v0 v1 v2 v3 v4 v5 v6 v7 v8 v9 : Value} {q : Nat} (hx : p.tables.exec = Jvm.exec) (hb : c.code = cc) (hts : ∀ w ∈ AL, w.before args s = true) (hown : s.vm.findClass RX7 = some m.cls) (hK : Kw G s) (hM : Wd G M s H locs) (hin : meth.name = "<init>") (ha : M a = some (r, .inr (8, [v0, v1, v2, v3, v4, v5, v6, v7, v8, v9]))) (hdg : decode cc pc = .ok (.putfield 16, 3)) (kk : ∀ (H : Heap) (locs : List Loc), Wd G (hu M a r (.inr (8, [v0, .ref q, v2, v3, v4, v5, v6, v7, v8, v9]))) s H locs → W p l e R s m args below meth c H locs cells slots Q (F0 m (pc + 3) ls rest)) : W p l e R s m args below meth c H locs cells slots Q (F0 m pc ls (.ref q :: .ref a :: rest)) :=
  g_putF (own := RX7) (ref := "WheatRunModel$Land") (C := RX7) (T := TX7) (N := 10) (ci := 8) (index := 16) (ty := .array (.array .int)) hx hb hts hown hK hM iaX7 rfl 1 (by decide) wf_X7_16 (fun _ h => h) tyX7 tyX7_ok nmX7 rfl hin rfl (by decide +kernel) rfl rfl ha (Nat.le_of_ble_eq_true rfl) hdg kk
theorem fp_X7_19 {v0 v1 v2 v3 v4 v5 v6 v7 v8 v9 : Value} {q : Nat} (hx : p.tables.exec = Jvm.exec) (hb : c.code = cc) (hts : ∀ w ∈ AL, w.before args s = true) (hown : s.vm.findClass RX7 = some m.cls) (hK : Kw G s) (hM : Wd G M s H locs) (hin : meth.name = "<init>") (ha : M a = some (r, .inr (8, [v0, v1, v2, v3, v4, v5, v6, v7, v8, v9]))) (hdg : decode cc pc = .ok (.putfield 19, 3)) (kk : ∀ (H : Heap) (locs : List Loc), Wd G (hu M a r (.inr (8, [v0, v1, .ref q, v3, v4, v5, v6, v7, v8, v9]))) s H locs → W p l e R s m args below meth c H locs cells slots Q (F0 m (pc + 3) ls rest)) : W p l e R s m args below meth c H locs cells slots Q (F0 m pc ls (.ref q :: .ref a :: rest)) :=
  g_putF (own := RX7) (ref := "WheatRunModel$Land") (C := RX7) (T := TX7) (N := 10) (ci := 8) (index := 19) (ty := .array (.array .int)) hx hb hts hown hK hM iaX7 rfl 2 (by decide) wf_X7_19 (fun _ h => h) tyX7 tyX7_ok nmX7 rfl hin rfl (by decide +kernel) rfl rfl ha (Nat.le_of_ble_eq_true rfl) hdg kk
theorem fp_X7_22 {v0 v1 v2 v3 v4 v5 v6 v7 v8 v9 : Value} {q : Nat} (hx : p.tables.exec = Jvm.exec) (hb : c.code = cc) (hts : ∀ w ∈ AL, w.before args s = true) (hown : s.vm.findClass RX7 = some m.cls) (hK : Kw G s) (hM : Wd G M s H locs) (hin : meth.name = "<init>") (ha : M a = some (r, .inr (8, [v0, v1, v2, v3, v4, v5, v6, v7, v8, v9]))) (hdg : decode cc pc = .ok (.putfield 22, 3)) (kk : ∀ (H : Heap) (locs : List Loc), Wd G (hu M a r (.inr (8, [v0, v1, v2, .ref q, v4, v5, v6, v7, v8, v9]))) s H locs → W p l e R s m args below meth c H locs cells slots Q (F0 m (pc + 3) ls rest)) : W p l e R s m args below meth c H locs cells slots Q (F0 m pc ls (.ref q :: .ref a :: rest)) :=
  g_putF (own := RX7) (ref := "WheatRunModel$Land") (C := RX7) (T := TX7) (N := 10) (ci := 8) (index := 22) (ty := .array (.array .int)) hx hb hts hown hK hM iaX7 rfl 3 (by decide) wf_X7_22 (fun _ h => h) tyX7 tyX7_ok nmX7 rfl hin rfl (by decide +kernel) rfl rfl ha (Nat.le_of_ble_eq_true rfl) hdg kk
theorem fp_X7_28 {v0 v1 v2 v3 v4 v5 v6 v7 v8 v9 : Value} {q : Nat} (hx : p.tables.exec = Jvm.exec) (hb : c.code = cc) (hts : ∀ w ∈ AL, w.before args s = true) (hown : s.vm.findClass RX7 = some m.cls) (hK : Kw G s) (hM : Wd G M s H locs) (hin : meth.name = "<init>") (ha : M a = some (r, .inr (8, [v0, v1, v2, v3, v4, v5, v6, v7, v8, v9]))) (hdg : decode cc pc = .ok (.putfield 28, 3)) (kk : ∀ (H : Heap) (locs : List Loc), Wd G (hu M a r (.inr (8, [v0, v1, v2, v3, .ref q, v5, v6, v7, v8, v9]))) s H locs → W p l e R s m args below meth c H locs cells slots Q (F0 m (pc + 3) ls rest)) : W p l e R s m args below meth c H locs cells slots Q (F0 m pc ls (.ref q :: .ref a :: rest)) :=
  g_putF (own := RX7) (ref := "WheatRunModel$Land") (C := RX7) (T := TX7) (N := 10) (ci := 8) (index := 28) (ty := .object "java/util/List") hx hb hts hown hK hM iaX7 rfl 4 (by decide) wf_X7_28 (fun _ h => h) tyX7 tyX7_ok nmX7 rfl hin rfl (by decide +kernel) rfl rfl ha (Nat.le_of_ble_eq_true rfl) hdg kk
theorem fp_X7_33 {v0 v1 v2 v3 v4 v5 v6 v7 v8 v9 : Value} {z : Int32} (hx : p.tables.exec = Jvm.exec) (hb : c.code = cc) (hts : ∀ w ∈ AL, w.before args s = true) (hown : s.vm.findClass RX7 = some m.cls) (hK : Kw G s) (hM : Wd G M s H locs) (ha : M a = some (r, .inr (8, [v0, v1, v2, v3, v4, v5, v6, v7, v8, v9]))) (hdg : decode cc pc = .ok (.putfield 33, 3)) (kk : ∀ (H : Heap) (locs : List Loc), Wd G (hu M a r (.inr (8, [v0, v1, v2, v3, v4, v5, .int z, v7, v8, v9]))) s H locs → W p l e R s m args below meth c H locs cells slots Q (F0 m (pc + 3) ls rest)) : W p l e R s m args below meth c H locs cells slots Q (F0 m pc ls (.int z :: .ref a :: rest)) :=
  g_put (own := RX7) (ref := "WheatRunModel$Land") (C := RX7) (T := TX7) (N := 10) (ci := 8) (index := 33) (ty := .int) hx hb hts hown hK hM iaX7 rfl 6 (by decide) wf_X7_33 (fun _ h => h) tyX7 tyX7_ok nmX7 rfl (by decide +kernel) rfl rfl ha (Nat.le_of_ble_eq_true rfl) hdg kk
theorem fp_X7_43 {v0 v1 v2 v3 v4 v5 v6 v7 v8 v9 : Value} {z : Int32} (hx : p.tables.exec = Jvm.exec) (hb : c.code = cc) (hts : ∀ w ∈ AL, w.before args s = true) (hown : s.vm.findClass RX7 = some m.cls) (hK : Kw G s) (hM : Wd G M s H locs) (ha : M a = some (r, .inr (8, [v0, v1, v2, v3, v4, v5, v6, v7, v8, v9]))) (hdg : decode cc pc = .ok (.putfield 43, 3)) (kk : ∀ (H : Heap) (locs : List Loc), Wd G (hu M a r (.inr (8, [v0, v1, v2, v3, v4, v5, v6, .int z, v8, v9]))) s H locs → W p l e R s m args below meth c H locs cells slots Q (F0 m (pc + 3) ls rest)) : W p l e R s m args below meth c H locs cells slots Q (F0 m pc ls (.int z :: .ref a :: rest)) :=
  g_put (own := RX7) (ref := "WheatRunModel$Land") (C := RX7) (T := TX7) (N := 10) (ci := 8) (index := 43) (ty := .int) hx hb hts hown hK hM iaX7 rfl 7 (by decide) wf_X7_43 (fun _ h => h) tyX7 tyX7_ok nmX7 rfl (by decide +kernel) rfl rfl ha (Nat.le_of_ble_eq_true rfl) hdg kk
theorem fp_X7_46 {v0 v1 v2 v3 v4 v5 v6 v7 v8 v9 : Value} {z : Int32} (hx : p.tables.exec = Jvm.exec) (hb : c.code = cc) (hts : ∀ w ∈ AL, w.before args s = true) (hown : s.vm.findClass RX7 = some m.cls) (hK : Kw G s) (hM : Wd G M s H locs) (ha : M a = some (r, .inr (8, [v0, v1, v2, v3, v4, v5, v6, v7, v8, v9]))) (hdg : decode cc pc = .ok (.putfield 46, 3)) (kk : ∀ (H : Heap) (locs : List Loc), Wd G (hu M a r (.inr (8, [v0, v1, v2, v3, v4, v5, v6, v7, .int z, v9]))) s H locs → W p l e R s m args below meth c H locs cells slots Q (F0 m (pc + 3) ls rest)) : W p l e R s m args below meth c H locs cells slots Q (F0 m pc ls (.int z :: .ref a :: rest)) :=
  g_put (own := RX7) (ref := "WheatRunModel$Land") (C := RX7) (T := TX7) (N := 10) (ci := 8) (index := 46) (ty := .int) hx hb hts hown hK hM iaX7 rfl 8 (by decide) wf_X7_46 (fun _ h => h) tyX7 tyX7_ok nmX7 rfl (by decide +kernel) rfl rfl ha (Nat.le_of_ble_eq_true rfl) hdg kk
theorem fp_X7_49 {v0 v1 v2 v3 v4 v5 v6 v7 v8 v9 : Value} {z : Int32} (hx : p.tables.exec = Jvm.exec) (hb : c.code = cc) (hts : ∀ w ∈ AL, w.before args s = true) (hown : s.vm.findClass RX7 = some m.cls) (hK : Kw G s) (hM : Wd G M s H locs) (ha : M a = some (r, .inr (8, [v0, v1, v2, v3, v4, v5, v6, v7, v8, v9]))) (hdg : decode cc pc = .ok (.putfield 49, 3)) (kk : ∀ (H : Heap) (locs : List Loc), Wd G (hu M a r (.inr (8, [v0, v1, v2, v3, v4, v5, v6, v7, v8, .int z]))) s H locs → W p l e R s m args below meth c H locs cells slots Q (F0 m (pc + 3) ls rest)) : W p l e R s m args below meth c H locs cells slots Q (F0 m pc ls (.int z :: .ref a :: rest)) :=
  g_put (own := RX7) (ref := "WheatRunModel$Land") (C := RX7) (T := TX7) (N := 10) (ci := 8) (index := 49) (ty := .int) hx hb hts hown hK hM iaX7 rfl 9 (by decide) wf_X7_49 (fun _ h => h) tyX7 tyX7_ok nmX7 rfl (by decide +kernel) rfl rfl ha (Nat.le_of_ble_eq_true rfl) hdg kk
theorem fp_X7_52 {v0 v1 v2 v3 v4 v5 v6 v7 v8 v9 : Value} {z : Int32} (hx : p.tables.exec = Jvm.exec) (hb : c.code = cc) (hts : ∀ w ∈ AL, w.before args s = true) (hown : s.vm.findClass RX7 = some m.cls) (hK : Kw G s) (hM : Wd G M s H locs) (ha : M a = some (r, .inr (8, [v0, v1, v2, v3, v4, v5, v6, v7, v8, v9]))) (hdg : decode cc pc = .ok (.putfield 52, 3)) (kk : ∀ (H : Heap) (locs : List Loc), Wd G (hu M a r (.inr (8, [v0, v1, v2, v3, v4, .int z, v6, v7, v8, v9]))) s H locs → W p l e R s m args below meth c H locs cells slots Q (F0 m (pc + 3) ls rest)) : W p l e R s m args below meth c H locs cells slots Q (F0 m pc ls (.int z :: .ref a :: rest)) :=
  g_put (own := RX7) (ref := "WheatRunModel$Land") (C := RX7) (T := TX7) (N := 10) (ci := 8) (index := 52) (ty := .int) hx hb hts hown hK hM iaX7 rfl 5 (by decide) wf_X7_52 (fun _ h => h) tyX7 tyX7_ok nmX7 rfl (by decide +kernel) rfl rfl ha (Nat.le_of_ble_eq_true rfl) hdg kk
theorem fp_X8_10 {v0 v1 v2 v3 v4 v5 : Value} {q : Nat} (hx : p.tables.exec = Jvm.exec) (hb : c.code = cc) (hts : ∀ w ∈ AL, w.before args s = true) (hown : s.vm.findClass RX8 = some m.cls) (hK : Kw G s) (hM : Wd G M s H locs) (hin : meth.name = "<init>") (ha : M a = some (r, .inr (9, [v0, v1, v2, v3, v4, v5]))) (hdg : decode cc pc = .ok (.putfield 10, 3)) (kk : ∀ (H : Heap) (locs : List Loc), Wd G (hu M a r (.inr (9, [v0, .ref q, v2, v3, v4, v5]))) s H locs → W p l e R s m args below meth c H locs cells slots Q (F0 m (pc + 3) ls rest)) : W p l e R s m args below meth c H locs cells slots Q (F0 m pc ls (.ref q :: .ref a :: rest)) :=
  g_putF (own := RX8) (ref := "WheatRunModel") (C := RX8) (T := TX8) (N := 6) (ci := 9) (index := 10) (ty := .object "WheatRunModel$Land") hx hb hts hown hK hM iaX8 rfl 1 (by decide) wf_X8_10 (fun _ h => h) tyX8 tyX8_ok nmX8 rfl hin rfl (by decide +kernel) rfl rfl ha (Nat.le_of_ble_eq_true rfl) hdg kk
theorem fp_X8_16 {v0 v1 v2 v3 v4 v5 : Value} {q : Nat} (hx : p.tables.exec = Jvm.exec) (hb : c.code = cc) (hts : ∀ w ∈ AL, w.before args s = true) (hown : s.vm.findClass RX8 = some m.cls) (hK : Kw G s) (hM : Wd G M s H locs) (hin : meth.name = "<init>") (ha : M a = some (r, .inr (9, [v0, v1, v2, v3, v4, v5]))) (hdg : decode cc pc = .ok (.putfield 16, 3)) (kk : ∀ (H : Heap) (locs : List Loc), Wd G (hu M a r (.inr (9, [v0, v1, .ref q, v3, v4, v5]))) s H locs → W p l e R s m args below meth c H locs cells slots Q (F0 m (pc + 3) ls rest)) : W p l e R s m args below meth c H locs cells slots Q (F0 m pc ls (.ref q :: .ref a :: rest)) :=
  g_putF (own := RX8) (ref := "WheatRunModel") (C := RX8) (T := TX8) (N := 6) (ci := 9) (index := 16) (ty := .array .int) hx hb hts hown hK hM iaX8 rfl 2 (by decide) wf_X8_16 (fun _ h => h) tyX8 tyX8_ok nmX8 rfl hin rfl (by decide +kernel) rfl rfl ha (Nat.le_of_ble_eq_true rfl) hdg kk
theorem fp_X8_20 {v0 v1 v2 v3 v4 v5 : Value} {q : Nat} (hx : p.tables.exec = Jvm.exec) (hb : c.code = cc) (hts : ∀ w ∈ AL, w.before args s = true) (hown : s.vm.findClass RX8 = some m.cls) (hK : Kw G s) (hM : Wd G M s H locs) (hin : meth.name = "<init>") (ha : M a = some (r, .inr (9, [v0, v1, v2, v3, v4, v5]))) (hdg : decode cc pc = .ok (.putfield 20, 3)) (kk : ∀ (H : Heap) (locs : List Loc), Wd G (hu M a r (.inr (9, [v0, v1, v2, .ref q, v4, v5]))) s H locs → W p l e R s m args below meth c H locs cells slots Q (F0 m (pc + 3) ls rest)) : W p l e R s m args below meth c H locs cells slots Q (F0 m pc ls (.ref q :: .ref a :: rest)) :=
  g_putF (own := RX8) (ref := "WheatRunModel") (C := RX8) (T := TX8) (N := 6) (ci := 9) (index := 20) (ty := .array .int) hx hb hts hown hK hM iaX8 rfl 3 (by decide) wf_X8_20 (fun _ h => h) tyX8 tyX8_ok nmX8 rfl hin rfl (by decide +kernel) rfl rfl ha (Nat.le_of_ble_eq_true rfl) hdg kk
theorem fp_X8_23 {v0 v1 v2 v3 v4 v5 : Value} {z : Int32} (hx : p.tables.exec = Jvm.exec) (hb : c.code = cc) (hts : ∀ w ∈ AL, w.before args s = true) (hown : s.vm.findClass RX8 = some m.cls) (hK : Kw G s) (hM : Wd G M s H locs) (ha : M a = some (r, .inr (9, [v0, v1, v2, v3, v4, v5]))) (hdg : decode cc pc = .ok (.putfield 23, 3)) (kk : ∀ (H : Heap) (locs : List Loc), Wd G (hu M a r (.inr (9, [v0, v1, v2, v3, .int z, v5]))) s H locs → W p l e R s m args below meth c H locs cells slots Q (F0 m (pc + 3) ls rest)) : W p l e R s m args below meth c H locs cells slots Q (F0 m pc ls (.int z :: .ref a :: rest)) :=
  g_put (own := RX8) (ref := "WheatRunModel") (C := RX8) (T := TX8) (N := 6) (ci := 9) (index := 23) (ty := .int) hx hb hts hown hK hM iaX8 rfl 4 (by decide) wf_X8_23 (fun _ h => h) tyX8 tyX8_ok nmX8 rfl (by decide +kernel) rfl rfl ha (Nat.le_of_ble_eq_true rfl) hdg kk
theorem fp_X8_27 {v0 v1 v2 v3 v4 v5 : Value} {z : Int32} (hx : p.tables.exec = Jvm.exec) (hb : c.code = cc) (hts : ∀ w ∈ AL, w.before args s = true) (hown : s.vm.findClass RX8 = some m.cls) (hK : Kw G s) (hM : Wd G M s H locs) (ha : M a = some (r, .inr (9, [v0, v1, v2, v3, v4, v5]))) (hdg : decode cc pc = .ok (.putfield 27, 3)) (kk : ∀ (H : Heap) (locs : List Loc), Wd G (hu M a r (.inr (9, [v0, v1, v2, v3, v4, .int z]))) s H locs → W p l e R s m args below meth c H locs cells slots Q (F0 m (pc + 3) ls rest)) : W p l e R s m args below meth c H locs cells slots Q (F0 m pc ls (.int z :: .ref a :: rest)) :=
  g_put (own := RX8) (ref := "WheatRunModel") (C := RX8) (T := TX8) (N := 6) (ci := 9) (index := 27) (ty := .int) hx hb hts hown hK hM iaX8 rfl 5 (by decide) wf_X8_27 (fun _ h => h) tyX8 tyX8_ok nmX8 rfl (by decide +kernel) rfl rfl ha (Nat.le_of_ble_eq_true rfl) hdg kk
theorem fp_X8_30 {v0 v1 v2 v3 v4 v5 : Value} {z : Int32} (hx : p.tables.exec = Jvm.exec) (hb : c.code = cc) (hts : ∀ w ∈ AL, w.before args s = true) (hown : s.vm.findClass RX8 = some m.cls) (hK : Kw G s) (hM : Wd G M s H locs) (ha : M a = some (r, .inr (9, [v0, v1, v2, v3, v4, v5]))) (hdg : decode cc pc = .ok (.putfield 30, 3)) (kk : ∀ (H : Heap) (locs : List Loc), Wd G (hu M a r (.inr (9, [.int z, v1, v2, v3, v4, v5]))) s H locs → W p l e R s m args below meth c H locs cells slots Q (F0 m (pc + 3) ls rest)) : W p l e R s m args below meth c H locs cells slots Q (F0 m pc ls (.int z :: .ref a :: rest)) :=
  g_put (own := RX8) (ref := "WheatRunModel") (C := RX8) (T := TX8) (N := 6) (ci := 9) (index := 30) (ty := .int) hx hb hts hown hK hM iaX8 rfl 0 (by decide) wf_X8_30 (fun _ h => h) tyX8 tyX8_ok nmX8 rfl (by decide +kernel) rfl rfl ha (Nat.le_of_ble_eq_true rfl) hdg kk
theorem fp_X8_33 {v0 v1 v2 v3 v4 v5 v6 v7 v8 v9 : Value} {z : Int32} (hx : p.tables.exec = Jvm.exec) (hb : c.code = cc) (hts : ∀ w ∈ AL, w.before args s = true) (hown : s.vm.findClass RX8 = some m.cls) (hK : Kw G s) (hM : Wd G M s H locs) (ha : M a = some (r, .inr (8, [v0, v1, v2, v3, v4, v5, v6, v7, v8, v9]))) (hdg : decode cc pc = .ok (.putfield 33, 3)) (kk : ∀ (H : Heap) (locs : List Loc), Wd G (hu M a r (.inr (8, [v0, v1, v2, v3, v4, v5, .int z, v7, v8, v9]))) s H locs → W p l e R s m args below meth c H locs cells slots Q (F0 m (pc + 3) ls rest)) : W p l e R s m args below meth c H locs cells slots Q (F0 m pc ls (.int z :: .ref a :: rest)) :=
  g_put (own := RX8) (ref := "WheatRunModel$Land") (C := RX7) (T := TX7) (N := 10) (ci := 8) (index := 33) (ty := .int) hx hb hts hown hK hM iaX7 rfl 6 (by decide) wf_X8_33 (fun _ h => h) tyX7 tyX7_ok nmX7 rfl (by decide +kernel) rfl rfl ha (Nat.le_of_ble_eq_true rfl) hdg kk
theorem fp_X8_40 {v0 v1 v2 v3 v4 v5 v6 v7 v8 v9 : Value} {z : Int32} (hx : p.tables.exec = Jvm.exec) (hb : c.code = cc) (hts : ∀ w ∈ AL, w.before args s = true) (hown : s.vm.findClass RX8 = some m.cls) (hK : Kw G s) (hM : Wd G M s H locs) (ha : M a = some (r, .inr (8, [v0, v1, v2, v3, v4, v5, v6, v7, v8, v9]))) (hdg : decode cc pc = .ok (.putfield 40, 3)) (kk : ∀ (H : Heap) (locs : List Loc), Wd G (hu M a r (.inr (8, [v0, v1, v2, v3, v4, v5, v6, .int z, v8, v9]))) s H locs → W p l e R s m args below meth c H locs cells slots Q (F0 m (pc + 3) ls rest)) : W p l e R s m args below meth c H locs cells slots Q (F0 m pc ls (.int z :: .ref a :: rest)) :=
  g_put (own := RX8) (ref := "WheatRunModel$Land") (C := RX7) (T := TX7) (N := 10) (ci := 8) (index := 40) (ty := .int) hx hb hts hown hK hM iaX7 rfl 7 (by decide) wf_X8_40 (fun _ h => h) tyX7 tyX7_ok nmX7 rfl (by decide +kernel) rfl rfl ha (Nat.le_of_ble_eq_true rfl) hdg kk
theorem fp_X8_43 {v0 v1 v2 v3 v4 v5 v6 v7 v8 v9 : Value} {z : Int32} (hx : p.tables.exec = Jvm.exec) (hb : c.code = cc) (hts : ∀ w ∈ AL, w.before args s = true) (hown : s.vm.findClass RX8 = some m.cls) (hK : Kw G s) (hM : Wd G M s H locs) (ha : M a = some (r, .inr (8, [v0, v1, v2, v3, v4, v5, v6, v7, v8, v9]))) (hdg : decode cc pc = .ok (.putfield 43, 3)) (kk : ∀ (H : Heap) (locs : List Loc), Wd G (hu M a r (.inr (8, [v0, v1, v2, v3, v4, v5, v6, v7, .int z, v9]))) s H locs → W p l e R s m args below meth c H locs cells slots Q (F0 m (pc + 3) ls rest)) : W p l e R s m args below meth c H locs cells slots Q (F0 m pc ls (.int z :: .ref a :: rest)) :=
  g_put (own := RX8) (ref := "WheatRunModel$Land") (C := RX7) (T := TX7) (N := 10) (ci := 8) (index := 43) (ty := .int) hx hb hts hown hK hM iaX7 rfl 8 (by decide) wf_X8_43 (fun _ h => h) tyX7 tyX7_ok nmX7 rfl (by decide +kernel) rfl rfl ha (Nat.le_of_ble_eq_true rfl) hdg kk
theorem fp_X8_46 {v0 v1 v2 v3 v4 v5 v6 v7 v8 v9 : Value} {z : Int32} (hx : p.tables.exec = Jvm.exec) (hb : c.code = cc) (hts : ∀ w ∈ AL, w.before args s = true) (hown : s.vm.findClass RX8 = some m.cls) (hK : Kw G s) (hM : Wd G M s H locs) (ha : M a = some (r, .inr (8, [v0, v1, v2, v3, v4, v5, v6, v7, v8, v9]))) (hdg : decode cc pc = .ok (.putfield 46, 3)) (kk : ∀ (H : Heap) (locs : List Loc), Wd G (hu M a r (.inr (8, [v0, v1, v2, v3, v4, v5, v6, v7, v8, .int z]))) s H locs → W p l e R s m args below meth c H locs cells slots Q (F0 m (pc + 3) ls rest)) : W p l e R s m args below meth c H locs cells slots Q (F0 m pc ls (.int z :: .ref a :: rest)) :=
  g_put (own := RX8) (ref := "WheatRunModel$Land") (C := RX7) (T := TX7) (N := 10) (ci := 8) (index := 46) (ty := .int) hx hb hts hown hK hM iaX7 rfl 9 (by decide) wf_X8_46 (fun _ h => h) tyX7 tyX7_ok nmX7 rfl (by decide +kernel) rfl rfl ha (Nat.le_of_ble_eq_true rfl) hdg kk
theorem ia4_0 {v0 v1 v2 v3 : Int32} (hx : p.tables.exec = Jvm.exec) (hb : c.code = cc) (hK : Kw G s) (hM : Wd G M s H locs) (ha : M a = some (r, .inl (G.2.1 0, 4, .inl (rw4 v0 v1 v2 v3)))) (hdg : decode cc pc = .ok (.iaload, 1)) (kk : W p l e R s m args below meth c H locs cells slots Q (F0 m (pc + 1) ls (.int v0 :: rest))) : W p l e R s m args below meth c H locs cells slots Q (F0 m pc ls (.int 0 :: .ref a :: rest)) :=
  g_iald hx hb hK hM ha (i := 0) (by unfold vp_in; decide) hdg (by rw [show rw4 v0 v1 v2 v3 ((0 : Int32).toNatClampNeg) = v0 from congrArg (rw4 v0 v1 v2 v3) (show (0 : Int32).toNatClampNeg = 0 by decide)]; exact kk)
theorem is4_0 {v0 v1 v2 v3 x : Int32} (hx : p.tables.exec = Jvm.exec) (hb : c.code = cc) (hK : Kw G s) (hM : Wd G M s H locs) (ha : M a = some (r, .inl (G.2.1 0, 4, .inl (rw4 v0 v1 v2 v3)))) (hdg : decode cc pc = .ok (.iastore, 1)) (kk : ∀ (H : Heap) (locs : List Loc), Wd G (hu M a r (.inl (G.2.1 0, 4, .inl (rw4 x v1 v2 v3)))) s H locs → W p l e R s m args below meth c H locs cells slots Q (F0 m (pc + 1) ls rest)) : W p l e R s m args below meth c H locs cells slots Q (F0 m pc ls (.int x :: .int 0 :: .ref a :: rest)) :=
  g_iast hx hb hK hM ha (i := 0) (by unfold vp_in; decide) hdg (fun H locs hM => kk H locs (hM.eq (by rw [show (0 : Int32).toNatClampNeg = 0 by decide, ru4_0])))
theorem ia4_1 {v0 v1 v2 v3 : Int32} (hx : p.tables.exec = Jvm.exec) (hb : c.code = cc) (hK : Kw G s) (hM : Wd G M s H locs) (ha : M a = some (r, .inl (G.2.1 0, 4, .inl (rw4 v0 v1 v2 v3)))) (hdg : decode cc pc = .ok (.iaload, 1)) (kk : W p l e R s m args below meth c H locs cells slots Q (F0 m (pc + 1) ls (.int v1 :: rest))) : W p l e R s m args below meth c H locs cells slots Q (F0 m pc ls (.int 1 :: .ref a :: rest)) :=
  g_iald hx hb hK hM ha (i := 1) (by unfold vp_in; decide) hdg (by rw [show rw4 v0 v1 v2 v3 ((1 : Int32).toNatClampNeg) = v1 from congrArg (rw4 v0 v1 v2 v3) (show (1 : Int32).toNatClampNeg = 1 by decide)]; exact kk)
theorem is4_1 {v0 v1 v2 v3 x : Int32} (hx : p.tables.exec = Jvm.exec) (hb : c.code = cc) (hK : Kw G s) (hM : Wd G M s H locs) (ha : M a = some (r, .inl (G.2.1 0, 4, .inl (rw4 v0 v1 v2 v3)))) (hdg : decode cc pc = .ok (.iastore, 1)) (kk : ∀ (H : Heap) (locs : List Loc), Wd G (hu M a r (.inl (G.2.1 0, 4, .inl (rw4 v0 x v2 v3)))) s H locs → W p l e R s m args below meth c H locs cells slots Q (F0 m (pc + 1) ls rest)) : W p l e R s m args below meth c H locs cells slots Q (F0 m pc ls (.int x :: .int 1 :: .ref a :: rest)) :=
  g_iast hx hb hK hM ha (i := 1) (by unfold vp_in; decide) hdg (fun H locs hM => kk H locs (hM.eq (by rw [show (1 : Int32).toNatClampNeg = 1 by decide, ru4_1])))
theorem ia4_2 {v0 v1 v2 v3 : Int32} (hx : p.tables.exec = Jvm.exec) (hb : c.code = cc) (hK : Kw G s) (hM : Wd G M s H locs) (ha : M a = some (r, .inl (G.2.1 0, 4, .inl (rw4 v0 v1 v2 v3)))) (hdg : decode cc pc = .ok (.iaload, 1)) (kk : W p l e R s m args below meth c H locs cells slots Q (F0 m (pc + 1) ls (.int v2 :: rest))) : W p l e R s m args below meth c H locs cells slots Q (F0 m pc ls (.int 2 :: .ref a :: rest)) :=
  g_iald hx hb hK hM ha (i := 2) (by unfold vp_in; decide) hdg (by rw [show rw4 v0 v1 v2 v3 ((2 : Int32).toNatClampNeg) = v2 from congrArg (rw4 v0 v1 v2 v3) (show (2 : Int32).toNatClampNeg = 2 by decide)]; exact kk)
theorem is4_2 {v0 v1 v2 v3 x : Int32} (hx : p.tables.exec = Jvm.exec) (hb : c.code = cc) (hK : Kw G s) (hM : Wd G M s H locs) (ha : M a = some (r, .inl (G.2.1 0, 4, .inl (rw4 v0 v1 v2 v3)))) (hdg : decode cc pc = .ok (.iastore, 1)) (kk : ∀ (H : Heap) (locs : List Loc), Wd G (hu M a r (.inl (G.2.1 0, 4, .inl (rw4 v0 v1 x v3)))) s H locs → W p l e R s m args below meth c H locs cells slots Q (F0 m (pc + 1) ls rest)) : W p l e R s m args below meth c H locs cells slots Q (F0 m pc ls (.int x :: .int 2 :: .ref a :: rest)) :=
  g_iast hx hb hK hM ha (i := 2) (by unfold vp_in; decide) hdg (fun H locs hM => kk H locs (hM.eq (by rw [show (2 : Int32).toNatClampNeg = 2 by decide, ru4_2])))
theorem ia4_3 {v0 v1 v2 v3 : Int32} (hx : p.tables.exec = Jvm.exec) (hb : c.code = cc) (hK : Kw G s) (hM : Wd G M s H locs) (ha : M a = some (r, .inl (G.2.1 0, 4, .inl (rw4 v0 v1 v2 v3)))) (hdg : decode cc pc = .ok (.iaload, 1)) (kk : W p l e R s m args below meth c H locs cells slots Q (F0 m (pc + 1) ls (.int v3 :: rest))) : W p l e R s m args below meth c H locs cells slots Q (F0 m pc ls (.int 3 :: .ref a :: rest)) :=
  g_iald hx hb hK hM ha (i := 3) (by unfold vp_in; decide) hdg (by rw [show rw4 v0 v1 v2 v3 ((3 : Int32).toNatClampNeg) = v3 from congrArg (rw4 v0 v1 v2 v3) (show (3 : Int32).toNatClampNeg = 3 by decide)]; exact kk)
theorem is4_3 {v0 v1 v2 v3 x : Int32} (hx : p.tables.exec = Jvm.exec) (hb : c.code = cc) (hK : Kw G s) (hM : Wd G M s H locs) (ha : M a = some (r, .inl (G.2.1 0, 4, .inl (rw4 v0 v1 v2 v3)))) (hdg : decode cc pc = .ok (.iastore, 1)) (kk : ∀ (H : Heap) (locs : List Loc), Wd G (hu M a r (.inl (G.2.1 0, 4, .inl (rw4 v0 v1 v2 x)))) s H locs → W p l e R s m args below meth c H locs cells slots Q (F0 m (pc + 1) ls rest)) : W p l e R s m args below meth c H locs cells slots Q (F0 m pc ls (.int x :: .int 3 :: .ref a :: rest)) :=
  g_iast hx hb hK hM ha (i := 3) (by unfold vp_in; decide) hdg (fun H locs hM => kk H locs (hM.eq (by rw [show (3 : Int32).toNatClampNeg = 3 by decide, ru4_3])))
theorem ia6_0 {v0 v1 v2 v3 v4 v5 : Int32} (hx : p.tables.exec = Jvm.exec) (hb : c.code = cc) (hK : Kw G s) (hM : Wd G M s H locs) (ha : M a = some (r, .inl (G.2.1 0, 6, .inl (rw6 v0 v1 v2 v3 v4 v5)))) (hdg : decode cc pc = .ok (.iaload, 1)) (kk : W p l e R s m args below meth c H locs cells slots Q (F0 m (pc + 1) ls (.int v0 :: rest))) : W p l e R s m args below meth c H locs cells slots Q (F0 m pc ls (.int 0 :: .ref a :: rest)) :=
  g_iald hx hb hK hM ha (i := 0) (by unfold vp_in; decide) hdg (by rw [show rw6 v0 v1 v2 v3 v4 v5 ((0 : Int32).toNatClampNeg) = v0 from congrArg (rw6 v0 v1 v2 v3 v4 v5) (show (0 : Int32).toNatClampNeg = 0 by decide)]; exact kk)
theorem is6_0 {v0 v1 v2 v3 v4 v5 x : Int32} (hx : p.tables.exec = Jvm.exec) (hb : c.code = cc) (hK : Kw G s) (hM : Wd G M s H locs) (ha : M a = some (r, .inl (G.2.1 0, 6, .inl (rw6 v0 v1 v2 v3 v4 v5)))) (hdg : decode cc pc = .ok (.iastore, 1)) (kk : ∀ (H : Heap) (locs : List Loc), Wd G (hu M a r (.inl (G.2.1 0, 6, .inl (rw6 x v1 v2 v3 v4 v5)))) s H locs → W p l e R s m args below meth c H locs cells slots Q (F0 m (pc + 1) ls rest)) : W p l e R s m args below meth c H locs cells slots Q (F0 m pc ls (.int x :: .int 0 :: .ref a :: rest)) :=
  g_iast hx hb hK hM ha (i := 0) (by unfold vp_in; decide) hdg (fun H locs hM => kk H locs (hM.eq (by rw [show (0 : Int32).toNatClampNeg = 0 by decide, ru6_0])))
theorem ia6_1 {v0 v1 v2 v3 v4 v5 : Int32} (hx : p.tables.exec = Jvm.exec) (hb : c.code = cc) (hK : Kw G s) (hM : Wd G M s H locs) (ha : M a = some (r, .inl (G.2.1 0, 6, .inl (rw6 v0 v1 v2 v3 v4 v5)))) (hdg : decode cc pc = .ok (.iaload, 1)) (kk : W p l e R s m args below meth c H locs cells slots Q (F0 m (pc + 1) ls (.int v1 :: rest))) : W p l e R s m args below meth c H locs cells slots Q (F0 m pc ls (.int 1 :: .ref a :: rest)) :=
  g_iald hx hb hK hM ha (i := 1) (by unfold vp_in; decide) hdg (by rw [show rw6 v0 v1 v2 v3 v4 v5 ((1 : Int32).toNatClampNeg) = v1 from congrArg (rw6 v0 v1 v2 v3 v4 v5) (show (1 : Int32).toNatClampNeg = 1 by decide)]; exact kk)
theorem is6_1 {v0 v1 v2 v3 v4 v5 x : Int32} (hx : p.tables.exec = Jvm.exec) (hb : c.code = cc) (hK : Kw G s) (hM : Wd G M s H locs) (ha : M a = some (r, .inl (G.2.1 0, 6, .inl (rw6 v0 v1 v2 v3 v4 v5)))) (hdg : decode cc pc = .ok (.iastore, 1)) (kk : ∀ (H : Heap) (locs : List Loc), Wd G (hu M a r (.inl (G.2.1 0, 6, .inl (rw6 v0 x v2 v3 v4 v5)))) s H locs → W p l e R s m args below meth c H locs cells slots Q (F0 m (pc + 1) ls rest)) : W p l e R s m args below meth c H locs cells slots Q (F0 m pc ls (.int x :: .int 1 :: .ref a :: rest)) :=
  g_iast hx hb hK hM ha (i := 1) (by unfold vp_in; decide) hdg (fun H locs hM => kk H locs (hM.eq (by rw [show (1 : Int32).toNatClampNeg = 1 by decide, ru6_1])))
theorem ia6_2 {v0 v1 v2 v3 v4 v5 : Int32} (hx : p.tables.exec = Jvm.exec) (hb : c.code = cc) (hK : Kw G s) (hM : Wd G M s H locs) (ha : M a = some (r, .inl (G.2.1 0, 6, .inl (rw6 v0 v1 v2 v3 v4 v5)))) (hdg : decode cc pc = .ok (.iaload, 1)) (kk : W p l e R s m args below meth c H locs cells slots Q (F0 m (pc + 1) ls (.int v2 :: rest))) : W p l e R s m args below meth c H locs cells slots Q (F0 m pc ls (.int 2 :: .ref a :: rest)) :=
  g_iald hx hb hK hM ha (i := 2) (by unfold vp_in; decide) hdg (by rw [show rw6 v0 v1 v2 v3 v4 v5 ((2 : Int32).toNatClampNeg) = v2 from congrArg (rw6 v0 v1 v2 v3 v4 v5) (show (2 : Int32).toNatClampNeg = 2 by decide)]; exact kk)
theorem is6_2 {v0 v1 v2 v3 v4 v5 x : Int32} (hx : p.tables.exec = Jvm.exec) (hb : c.code = cc) (hK : Kw G s) (hM : Wd G M s H locs) (ha : M a = some (r, .inl (G.2.1 0, 6, .inl (rw6 v0 v1 v2 v3 v4 v5)))) (hdg : decode cc pc = .ok (.iastore, 1)) (kk : ∀ (H : Heap) (locs : List Loc), Wd G (hu M a r (.inl (G.2.1 0, 6, .inl (rw6 v0 v1 x v3 v4 v5)))) s H locs → W p l e R s m args below meth c H locs cells slots Q (F0 m (pc + 1) ls rest)) : W p l e R s m args below meth c H locs cells slots Q (F0 m pc ls (.int x :: .int 2 :: .ref a :: rest)) :=
  g_iast hx hb hK hM ha (i := 2) (by unfold vp_in; decide) hdg (fun H locs hM => kk H locs (hM.eq (by rw [show (2 : Int32).toNatClampNeg = 2 by decide, ru6_2])))
theorem ia6_3 {v0 v1 v2 v3 v4 v5 : Int32} (hx : p.tables.exec = Jvm.exec) (hb : c.code = cc) (hK : Kw G s) (hM : Wd G M s H locs) (ha : M a = some (r, .inl (G.2.1 0, 6, .inl (rw6 v0 v1 v2 v3 v4 v5)))) (hdg : decode cc pc = .ok (.iaload, 1)) (kk : W p l e R s m args below meth c H locs cells slots Q (F0 m (pc + 1) ls (.int v3 :: rest))) : W p l e R s m args below meth c H locs cells slots Q (F0 m pc ls (.int 3 :: .ref a :: rest)) :=
  g_iald hx hb hK hM ha (i := 3) (by unfold vp_in; decide) hdg (by rw [show rw6 v0 v1 v2 v3 v4 v5 ((3 : Int32).toNatClampNeg) = v3 from congrArg (rw6 v0 v1 v2 v3 v4 v5) (show (3 : Int32).toNatClampNeg = 3 by decide)]; exact kk)
theorem is6_3 {v0 v1 v2 v3 v4 v5 x : Int32} (hx : p.tables.exec = Jvm.exec) (hb : c.code = cc) (hK : Kw G s) (hM : Wd G M s H locs) (ha : M a = some (r, .inl (G.2.1 0, 6, .inl (rw6 v0 v1 v2 v3 v4 v5)))) (hdg : decode cc pc = .ok (.iastore, 1)) (kk : ∀ (H : Heap) (locs : List Loc), Wd G (hu M a r (.inl (G.2.1 0, 6, .inl (rw6 v0 v1 v2 x v4 v5)))) s H locs → W p l e R s m args below meth c H locs cells slots Q (F0 m (pc + 1) ls rest)) : W p l e R s m args below meth c H locs cells slots Q (F0 m pc ls (.int x :: .int 3 :: .ref a :: rest)) :=
  g_iast hx hb hK hM ha (i := 3) (by unfold vp_in; decide) hdg (fun H locs hM => kk H locs (hM.eq (by rw [show (3 : Int32).toNatClampNeg = 3 by decide, ru6_3])))
theorem ia6_4 {v0 v1 v2 v3 v4 v5 : Int32} (hx : p.tables.exec = Jvm.exec) (hb : c.code = cc) (hK : Kw G s) (hM : Wd G M s H locs) (ha : M a = some (r, .inl (G.2.1 0, 6, .inl (rw6 v0 v1 v2 v3 v4 v5)))) (hdg : decode cc pc = .ok (.iaload, 1)) (kk : W p l e R s m args below meth c H locs cells slots Q (F0 m (pc + 1) ls (.int v4 :: rest))) : W p l e R s m args below meth c H locs cells slots Q (F0 m pc ls (.int 4 :: .ref a :: rest)) :=
  g_iald hx hb hK hM ha (i := 4) (by unfold vp_in; decide) hdg (by rw [show rw6 v0 v1 v2 v3 v4 v5 ((4 : Int32).toNatClampNeg) = v4 from congrArg (rw6 v0 v1 v2 v3 v4 v5) (show (4 : Int32).toNatClampNeg = 4 by decide)]; exact kk)
theorem is6_4 {v0 v1 v2 v3 v4 v5 x : Int32} (hx : p.tables.exec = Jvm.exec) (hb : c.code = cc) (hK : Kw G s) (hM : Wd G M s H locs) (ha : M a = some (r, .inl (G.2.1 0, 6, .inl (rw6 v0 v1 v2 v3 v4 v5)))) (hdg : decode cc pc = .ok (.iastore, 1)) (kk : ∀ (H : Heap) (locs : List Loc), Wd G (hu M a r (.inl (G.2.1 0, 6, .inl (rw6 v0 v1 v2 v3 x v5)))) s H locs → W p l e R s m args below meth c H locs cells slots Q (F0 m (pc + 1) ls rest)) : W p l e R s m args below meth c H locs cells slots Q (F0 m pc ls (.int x :: .int 4 :: .ref a :: rest)) :=
  g_iast hx hb hK hM ha (i := 4) (by unfold vp_in; decide) hdg (fun H locs hM => kk H locs (hM.eq (by rw [show (4 : Int32).toNatClampNeg = 4 by decide, ru6_4])))
theorem ia6_5 {v0 v1 v2 v3 v4 v5 : Int32} (hx : p.tables.exec = Jvm.exec) (hb : c.code = cc) (hK : Kw G s) (hM : Wd G M s H locs) (ha : M a = some (r, .inl (G.2.1 0, 6, .inl (rw6 v0 v1 v2 v3 v4 v5)))) (hdg : decode cc pc = .ok (.iaload, 1)) (kk : W p l e R s m args below meth c H locs cells slots Q (F0 m (pc + 1) ls (.int v5 :: rest))) : W p l e R s m args below meth c H locs cells slots Q (F0 m pc ls (.int 5 :: .ref a :: rest)) :=
  g_iald hx hb hK hM ha (i := 5) (by unfold vp_in; decide) hdg (by rw [show rw6 v0 v1 v2 v3 v4 v5 ((5 : Int32).toNatClampNeg) = v5 from congrArg (rw6 v0 v1 v2 v3 v4 v5) (show (5 : Int32).toNatClampNeg = 5 by decide)]; exact kk)
theorem is6_5 {v0 v1 v2 v3 v4 v5 x : Int32} (hx : p.tables.exec = Jvm.exec) (hb : c.code = cc) (hK : Kw G s) (hM : Wd G M s H locs) (ha : M a = some (r, .inl (G.2.1 0, 6, .inl (rw6 v0 v1 v2 v3 v4 v5)))) (hdg : decode cc pc = .ok (.iastore, 1)) (kk : ∀ (H : Heap) (locs : List Loc), Wd G (hu M a r (.inl (G.2.1 0, 6, .inl (rw6 v0 v1 v2 v3 v4 x)))) s H locs → W p l e R s m args below meth c H locs cells slots Q (F0 m (pc + 1) ls rest)) : W p l e R s m args below meth c H locs cells slots Q (F0 m pc ls (.int x :: .int 5 :: .ref a :: rest)) :=
  g_iast hx hb hK hM ha (i := 5) (by unfold vp_in; decide) hdg (fun H locs hM => kk H locs (hM.eq (by rw [show (5 : Int32).toNatClampNeg = 5 by decide, ru6_5])))
theorem ia7_0 {v0 v1 v2 v3 v4 v5 v6 : Int32} (hx : p.tables.exec = Jvm.exec) (hb : c.code = cc) (hK : Kw G s) (hM : Wd G M s H locs) (ha : M a = some (r, .inl (G.2.1 0, 7, .inl (rw7 v0 v1 v2 v3 v4 v5 v6)))) (hdg : decode cc pc = .ok (.iaload, 1)) (kk : W p l e R s m args below meth c H locs cells slots Q (F0 m (pc + 1) ls (.int v0 :: rest))) : W p l e R s m args below meth c H locs cells slots Q (F0 m pc ls (.int 0 :: .ref a :: rest)) :=
  g_iald hx hb hK hM ha (i := 0) (by unfold vp_in; decide) hdg (by rw [show rw7 v0 v1 v2 v3 v4 v5 v6 ((0 : Int32).toNatClampNeg) = v0 from congrArg (rw7 v0 v1 v2 v3 v4 v5 v6) (show (0 : Int32).toNatClampNeg = 0 by decide)]; exact kk)
theorem is7_0 {v0 v1 v2 v3 v4 v5 v6 x : Int32} (hx : p.tables.exec = Jvm.exec) (hb : c.code = cc) (hK : Kw G s) (hM : Wd G M s H locs) (ha : M a = some (r, .inl (G.2.1 0, 7, .inl (rw7 v0 v1 v2 v3 v4 v5 v6)))) (hdg : decode cc pc = .ok (.iastore, 1)) (kk : ∀ (H : Heap) (locs : List Loc), Wd G (hu M a r (.inl (G.2.1 0, 7, .inl (rw7 x v1 v2 v3 v4 v5 v6)))) s H locs → W p l e R s m args below meth c H locs cells slots Q (F0 m (pc + 1) ls rest)) : W p l e R s m args below meth c H locs cells slots Q (F0 m pc ls (.int x :: .int 0 :: .ref a :: rest)) :=
  g_iast hx hb hK hM ha (i := 0) (by unfold vp_in; decide) hdg (fun H locs hM => kk H locs (hM.eq (by rw [show (0 : Int32).toNatClampNeg = 0 by decide, ru7_0])))
theorem ia7_1 {v0 v1 v2 v3 v4 v5 v6 : Int32} (hx : p.tables.exec = Jvm.exec) (hb : c.code = cc) (hK : Kw G s) (hM : Wd G M s H locs) (ha : M a = some (r, .inl (G.2.1 0, 7, .inl (rw7 v0 v1 v2 v3 v4 v5 v6)))) (hdg : decode cc pc = .ok (.iaload, 1)) (kk : W p l e R s m args below meth c H locs cells slots Q (F0 m (pc + 1) ls (.int v1 :: rest))) : W p l e R s m args below meth c H locs cells slots Q (F0 m pc ls (.int 1 :: .ref a :: rest)) :=
  g_iald hx hb hK hM ha (i := 1) (by unfold vp_in; decide) hdg (by rw [show rw7 v0 v1 v2 v3 v4 v5 v6 ((1 : Int32).toNatClampNeg) = v1 from congrArg (rw7 v0 v1 v2 v3 v4 v5 v6) (show (1 : Int32).toNatClampNeg = 1 by decide)]; exact kk)
theorem is7_1 {v0 v1 v2 v3 v4 v5 v6 x : Int32} (hx : p.tables.exec = Jvm.exec) (hb : c.code = cc) (hK : Kw G s) (hM : Wd G M s H locs) (ha : M a = some (r, .inl (G.2.1 0, 7, .inl (rw7 v0 v1 v2 v3 v4 v5 v6)))) (hdg : decode cc pc = .ok (.iastore, 1)) (kk : ∀ (H : Heap) (locs : List Loc), Wd G (hu M a r (.inl (G.2.1 0, 7, .inl (rw7 v0 x v2 v3 v4 v5 v6)))) s H locs → W p l e R s m args below meth c H locs cells slots Q (F0 m (pc + 1) ls rest)) : W p l e R s m args below meth c H locs cells slots Q (F0 m pc ls (.int x :: .int 1 :: .ref a :: rest)) :=
  g_iast hx hb hK hM ha (i := 1) (by unfold vp_in; decide) hdg (fun H locs hM => kk H locs (hM.eq (by rw [show (1 : Int32).toNatClampNeg = 1 by decide, ru7_1])))
theorem ia7_2 {v0 v1 v2 v3 v4 v5 v6 : Int32} (hx : p.tables.exec = Jvm.exec) (hb : c.code = cc) (hK : Kw G s) (hM : Wd G M s H locs) (ha : M a = some (r, .inl (G.2.1 0, 7, .inl (rw7 v0 v1 v2 v3 v4 v5 v6)))) (hdg : decode cc pc = .ok (.iaload, 1)) (kk : W p l e R s m args below meth c H locs cells slots Q (F0 m (pc + 1) ls (.int v2 :: rest))) : W p l e R s m args below meth c H locs cells slots Q (F0 m pc ls (.int 2 :: .ref a :: rest)) :=
  g_iald hx hb hK hM ha (i := 2) (by unfold vp_in; decide) hdg (by rw [show rw7 v0 v1 v2 v3 v4 v5 v6 ((2 : Int32).toNatClampNeg) = v2 from congrArg (rw7 v0 v1 v2 v3 v4 v5 v6) (show (2 : Int32).toNatClampNeg = 2 by decide)]; exact kk)
theorem is7_2 {v0 v1 v2 v3 v4 v5 v6 x : Int32} (hx : p.tables.exec = Jvm.exec) (hb : c.code = cc) (hK : Kw G s) (hM : Wd G M s H locs) (ha : M a = some (r, .inl (G.2.1 0, 7, .inl (rw7 v0 v1 v2 v3 v4 v5 v6)))) (hdg : decode cc pc = .ok (.iastore, 1)) (kk : ∀ (H : Heap) (locs : List Loc), Wd G (hu M a r (.inl (G.2.1 0, 7, .inl (rw7 v0 v1 x v3 v4 v5 v6)))) s H locs → W p l e R s m args below meth c H locs cells slots Q (F0 m (pc + 1) ls rest)) : W p l e R s m args below meth c H locs cells slots Q (F0 m pc ls (.int x :: .int 2 :: .ref a :: rest)) :=
  g_iast hx hb hK hM ha (i := 2) (by unfold vp_in; decide) hdg (fun H locs hM => kk H locs (hM.eq (by rw [show (2 : Int32).toNatClampNeg = 2 by decide, ru7_2])))
theorem ia7_3 {v0 v1 v2 v3 v4 v5 v6 : Int32} (hx : p.tables.exec = Jvm.exec) (hb : c.code = cc) (hK : Kw G s) (hM : Wd G M s H locs) (ha : M a = some (r, .inl (G.2.1 0, 7, .inl (rw7 v0 v1 v2 v3 v4 v5 v6)))) (hdg : decode cc pc = .ok (.iaload, 1)) (kk : W p l e R s m args below meth c H locs cells slots Q (F0 m (pc + 1) ls (.int v3 :: rest))) : W p l e R s m args below meth c H locs cells slots Q (F0 m pc ls (.int 3 :: .ref a :: rest)) :=
  g_iald hx hb hK hM ha (i := 3) (by unfold vp_in; decide) hdg (by rw [show rw7 v0 v1 v2 v3 v4 v5 v6 ((3 : Int32).toNatClampNeg) = v3 from congrArg (rw7 v0 v1 v2 v3 v4 v5 v6) (show (3 : Int32).toNatClampNeg = 3 by decide)]; exact kk)
theorem is7_3 {v0 v1 v2 v3 v4 v5 v6 x : Int32} (hx : p.tables.exec = Jvm.exec) (hb : c.code = cc) (hK : Kw G s) (hM : Wd G M s H locs) (ha : M a = some (r, .inl (G.2.1 0, 7, .inl (rw7 v0 v1 v2 v3 v4 v5 v6)))) (hdg : decode cc pc = .ok (.iastore, 1)) (kk : ∀ (H : Heap) (locs : List Loc), Wd G (hu M a r (.inl (G.2.1 0, 7, .inl (rw7 v0 v1 v2 x v4 v5 v6)))) s H locs → W p l e R s m args below meth c H locs cells slots Q (F0 m (pc + 1) ls rest)) : W p l e R s m args below meth c H locs cells slots Q (F0 m pc ls (.int x :: .int 3 :: .ref a :: rest)) :=
  g_iast hx hb hK hM ha (i := 3) (by unfold vp_in; decide) hdg (fun H locs hM => kk H locs (hM.eq (by rw [show (3 : Int32).toNatClampNeg = 3 by decide, ru7_3])))
theorem ia7_4 {v0 v1 v2 v3 v4 v5 v6 : Int32} (hx : p.tables.exec = Jvm.exec) (hb : c.code = cc) (hK : Kw G s) (hM : Wd G M s H locs) (ha : M a = some (r, .inl (G.2.1 0, 7, .inl (rw7 v0 v1 v2 v3 v4 v5 v6)))) (hdg : decode cc pc = .ok (.iaload, 1)) (kk : W p l e R s m args below meth c H locs cells slots Q (F0 m (pc + 1) ls (.int v4 :: rest))) : W p l e R s m args below meth c H locs cells slots Q (F0 m pc ls (.int 4 :: .ref a :: rest)) :=
  g_iald hx hb hK hM ha (i := 4) (by unfold vp_in; decide) hdg (by rw [show rw7 v0 v1 v2 v3 v4 v5 v6 ((4 : Int32).toNatClampNeg) = v4 from congrArg (rw7 v0 v1 v2 v3 v4 v5 v6) (show (4 : Int32).toNatClampNeg = 4 by decide)]; exact kk)
theorem is7_4 {v0 v1 v2 v3 v4 v5 v6 x : Int32} (hx : p.tables.exec = Jvm.exec) (hb : c.code = cc) (hK : Kw G s) (hM : Wd G M s H locs) (ha : M a = some (r, .inl (G.2.1 0, 7, .inl (rw7 v0 v1 v2 v3 v4 v5 v6)))) (hdg : decode cc pc = .ok (.iastore, 1)) (kk : ∀ (H : Heap) (locs : List Loc), Wd G (hu M a r (.inl (G.2.1 0, 7, .inl (rw7 v0 v1 v2 v3 x v5 v6)))) s H locs → W p l e R s m args below meth c H locs cells slots Q (F0 m (pc + 1) ls rest)) : W p l e R s m args below meth c H locs cells slots Q (F0 m pc ls (.int x :: .int 4 :: .ref a :: rest)) :=
  g_iast hx hb hK hM ha (i := 4) (by unfold vp_in; decide) hdg (fun H locs hM => kk H locs (hM.eq (by rw [show (4 : Int32).toNatClampNeg = 4 by decide, ru7_4])))
theorem ia7_5 {v0 v1 v2 v3 v4 v5 v6 : Int32} (hx : p.tables.exec = Jvm.exec) (hb : c.code = cc) (hK : Kw G s) (hM : Wd G M s H locs) (ha : M a = some (r, .inl (G.2.1 0, 7, .inl (rw7 v0 v1 v2 v3 v4 v5 v6)))) (hdg : decode cc pc = .ok (.iaload, 1)) (kk : W p l e R s m args below meth c H locs cells slots Q (F0 m (pc + 1) ls (.int v5 :: rest))) : W p l e R s m args below meth c H locs cells slots Q (F0 m pc ls (.int 5 :: .ref a :: rest)) :=
  g_iald hx hb hK hM ha (i := 5) (by unfold vp_in; decide) hdg (by rw [show rw7 v0 v1 v2 v3 v4 v5 v6 ((5 : Int32).toNatClampNeg) = v5 from congrArg (rw7 v0 v1 v2 v3 v4 v5 v6) (show (5 : Int32).toNatClampNeg = 5 by decide)]; exact kk)
theorem is7_5 {v0 v1 v2 v3 v4 v5 v6 x : Int32} (hx : p.tables.exec = Jvm.exec) (hb : c.code = cc) (hK : Kw G s) (hM : Wd G M s H locs) (ha : M a = some (r, .inl (G.2.1 0, 7, .inl (rw7 v0 v1 v2 v3 v4 v5 v6)))) (hdg : decode cc pc = .ok (.iastore, 1)) (kk : ∀ (H : Heap) (locs : List Loc), Wd G (hu M a r (.inl (G.2.1 0, 7, .inl (rw7 v0 v1 v2 v3 v4 x v6)))) s H locs → W p l e R s m args below meth c H locs cells slots Q (F0 m (pc + 1) ls rest)) : W p l e R s m args below meth c H locs cells slots Q (F0 m pc ls (.int x :: .int 5 :: .ref a :: rest)) :=
  g_iast hx hb hK hM ha (i := 5) (by unfold vp_in; decide) hdg (fun H locs hM => kk H locs (hM.eq (by rw [show (5 : Int32).toNatClampNeg = 5 by decide, ru7_5])))
theorem ia7_6 {v0 v1 v2 v3 v4 v5 v6 : Int32} (hx : p.tables.exec = Jvm.exec) (hb : c.code = cc) (hK : Kw G s) (hM : Wd G M s H locs) (ha : M a = some (r, .inl (G.2.1 0, 7, .inl (rw7 v0 v1 v2 v3 v4 v5 v6)))) (hdg : decode cc pc = .ok (.iaload, 1)) (kk : W p l e R s m args below meth c H locs cells slots Q (F0 m (pc + 1) ls (.int v6 :: rest))) : W p l e R s m args below meth c H locs cells slots Q (F0 m pc ls (.int 6 :: .ref a :: rest)) :=
  g_iald hx hb hK hM ha (i := 6) (by unfold vp_in; decide) hdg (by rw [show rw7 v0 v1 v2 v3 v4 v5 v6 ((6 : Int32).toNatClampNeg) = v6 from congrArg (rw7 v0 v1 v2 v3 v4 v5 v6) (show (6 : Int32).toNatClampNeg = 6 by decide)]; exact kk)
theorem is7_6 {v0 v1 v2 v3 v4 v5 v6 x : Int32} (hx : p.tables.exec = Jvm.exec) (hb : c.code = cc) (hK : Kw G s) (hM : Wd G M s H locs) (ha : M a = some (r, .inl (G.2.1 0, 7, .inl (rw7 v0 v1 v2 v3 v4 v5 v6)))) (hdg : decode cc pc = .ok (.iastore, 1)) (kk : ∀ (H : Heap) (locs : List Loc), Wd G (hu M a r (.inl (G.2.1 0, 7, .inl (rw7 v0 v1 v2 v3 v4 v5 x)))) s H locs → W p l e R s m args below meth c H locs cells slots Q (F0 m (pc + 1) ls rest)) : W p l e R s m args below meth c H locs cells slots Q (F0 m pc ls (.int x :: .int 6 :: .ref a :: rest)) :=
  g_iast hx hb hK hM ha (i := 6) (by unfold vp_in; decide) hdg (fun H locs hM => kk H locs (hM.eq (by rw [show (6 : Int32).toNatClampNeg = 6 by decide, ru7_6])))
theorem ia8_0 {v0 v1 v2 v3 v4 v5 v6 v7 : Int32} (hx : p.tables.exec = Jvm.exec) (hb : c.code = cc) (hK : Kw G s) (hM : Wd G M s H locs) (ha : M a = some (r, .inl (G.2.1 0, 8, .inl (rw8 v0 v1 v2 v3 v4 v5 v6 v7)))) (hdg : decode cc pc = .ok (.iaload, 1)) (kk : W p l e R s m args below meth c H locs cells slots Q (F0 m (pc + 1) ls (.int v0 :: rest))) : W p l e R s m args below meth c H locs cells slots Q (F0 m pc ls (.int 0 :: .ref a :: rest)) :=
  g_iald hx hb hK hM ha (i := 0) (by unfold vp_in; decide) hdg (by rw [show rw8 v0 v1 v2 v3 v4 v5 v6 v7 ((0 : Int32).toNatClampNeg) = v0 from congrArg (rw8 v0 v1 v2 v3 v4 v5 v6 v7) (show (0 : Int32).toNatClampNeg = 0 by decide)]; exact kk)
theorem is8_0 {v0 v1 v2 v3 v4 v5 v6 v7 x : Int32} (hx : p.tables.exec = Jvm.exec) (hb : c.code = cc) (hK : Kw G s) (hM : Wd G M s H locs) (ha : M a = some (r, .inl (G.2.1 0, 8, .inl (rw8 v0 v1 v2 v3 v4 v5 v6 v7)))) (hdg : decode cc pc = .ok (.iastore, 1)) (kk : ∀ (H : Heap) (locs : List Loc), Wd G (hu M a r (.inl (G.2.1 0, 8, .inl (rw8 x v1 v2 v3 v4 v5 v6 v7)))) s H locs → W p l e R s m args below meth c H locs cells slots Q (F0 m (pc + 1) ls rest)) : W p l e R s m args below meth c H locs cells slots Q (F0 m pc ls (.int x :: .int 0 :: .ref a :: rest)) :=
  g_iast hx hb hK hM ha (i := 0) (by unfold vp_in; decide) hdg (fun H locs hM => kk H locs (hM.eq (by rw [show (0 : Int32).toNatClampNeg = 0 by decide, ru8_0])))
theorem ia8_1 {v0 v1 v2 v3 v4 v5 v6 v7 : Int32} (hx : p.tables.exec = Jvm.exec) (hb : c.code = cc) (hK : Kw G s) (hM : Wd G M s H locs) (ha : M a = some (r, .inl (G.2.1 0, 8, .inl (rw8 v0 v1 v2 v3 v4 v5 v6 v7)))) (hdg : decode cc pc = .ok (.iaload, 1)) (kk : W p l e R s m args below meth c H locs cells slots Q (F0 m (pc + 1) ls (.int v1 :: rest))) : W p l e R s m args below meth c H locs cells slots Q (F0 m pc ls (.int 1 :: .ref a :: rest)) :=
  g_iald hx hb hK hM ha (i := 1) (by unfold vp_in; decide) hdg (by rw [show rw8 v0 v1 v2 v3 v4 v5 v6 v7 ((1 : Int32).toNatClampNeg) = v1 from congrArg (rw8 v0 v1 v2 v3 v4 v5 v6 v7) (show (1 : Int32).toNatClampNeg = 1 by decide)]; exact kk)
theorem is8_1 {v0 v1 v2 v3 v4 v5 v6 v7 x : Int32} (hx : p.tables.exec = Jvm.exec) (hb : c.code = cc) (hK : Kw G s) (hM : Wd G M s H locs) (ha : M a = some (r, .inl (G.2.1 0, 8, .inl (rw8 v0 v1 v2 v3 v4 v5 v6 v7)))) (hdg : decode cc pc = .ok (.iastore, 1)) (kk : ∀ (H : Heap) (locs : List Loc), Wd G (hu M a r (.inl (G.2.1 0, 8, .inl (rw8 v0 x v2 v3 v4 v5 v6 v7)))) s H locs → W p l e R s m args below meth c H locs cells slots Q (F0 m (pc + 1) ls rest)) : W p l e R s m args below meth c H locs cells slots Q (F0 m pc ls (.int x :: .int 1 :: .ref a :: rest)) :=
  g_iast hx hb hK hM ha (i := 1) (by unfold vp_in; decide) hdg (fun H locs hM => kk H locs (hM.eq (by rw [show (1 : Int32).toNatClampNeg = 1 by decide, ru8_1])))
theorem ia8_2 {v0 v1 v2 v3 v4 v5 v6 v7 : Int32} (hx : p.tables.exec = Jvm.exec) (hb : c.code = cc) (hK : Kw G s) (hM : Wd G M s H locs) (ha : M a = some (r, .inl (G.2.1 0, 8, .inl (rw8 v0 v1 v2 v3 v4 v5 v6 v7)))) (hdg : decode cc pc = .ok (.iaload, 1)) (kk : W p l e R s m args below meth c H locs cells slots Q (F0 m (pc + 1) ls (.int v2 :: rest))) : W p l e R s m args below meth c H locs cells slots Q (F0 m pc ls (.int 2 :: .ref a :: rest)) :=
  g_iald hx hb hK hM ha (i := 2) (by unfold vp_in; decide) hdg (by rw [show rw8 v0 v1 v2 v3 v4 v5 v6 v7 ((2 : Int32).toNatClampNeg) = v2 from congrArg (rw8 v0 v1 v2 v3 v4 v5 v6 v7) (show (2 : Int32).toNatClampNeg = 2 by decide)]; exact kk)
theorem is8_2 {v0 v1 v2 v3 v4 v5 v6 v7 x : Int32} (hx : p.tables.exec = Jvm.exec) (hb : c.code = cc) (hK : Kw G s) (hM : Wd G M s H locs) (ha : M a = some (r, .inl (G.2.1 0, 8, .inl (rw8 v0 v1 v2 v3 v4 v5 v6 v7)))) (hdg : decode cc pc = .ok (.iastore, 1)) (kk : ∀ (H : Heap) (locs : List Loc), Wd G (hu M a r (.inl (G.2.1 0, 8, .inl (rw8 v0 v1 x v3 v4 v5 v6 v7)))) s H locs → W p l e R s m args below meth c H locs cells slots Q (F0 m (pc + 1) ls rest)) : W p l e R s m args below meth c H locs cells slots Q (F0 m pc ls (.int x :: .int 2 :: .ref a :: rest)) :=
  g_iast hx hb hK hM ha (i := 2) (by unfold vp_in; decide) hdg (fun H locs hM => kk H locs (hM.eq (by rw [show (2 : Int32).toNatClampNeg = 2 by decide, ru8_2])))
theorem ia8_3 {v0 v1 v2 v3 v4 v5 v6 v7 : Int32} (hx : p.tables.exec = Jvm.exec) (hb : c.code = cc) (hK : Kw G s) (hM : Wd G M s H locs) (ha : M a = some (r, .inl (G.2.1 0, 8, .inl (rw8 v0 v1 v2 v3 v4 v5 v6 v7)))) (hdg : decode cc pc = .ok (.iaload, 1)) (kk : W p l e R s m args below meth c H locs cells slots Q (F0 m (pc + 1) ls (.int v3 :: rest))) : W p l e R s m args below meth c H locs cells slots Q (F0 m pc ls (.int 3 :: .ref a :: rest)) :=
  g_iald hx hb hK hM ha (i := 3) (by unfold vp_in; decide) hdg (by rw [show rw8 v0 v1 v2 v3 v4 v5 v6 v7 ((3 : Int32).toNatClampNeg) = v3 from congrArg (rw8 v0 v1 v2 v3 v4 v5 v6 v7) (show (3 : Int32).toNatClampNeg = 3 by decide)]; exact kk)
theorem is8_3 {v0 v1 v2 v3 v4 v5 v6 v7 x : Int32} (hx : p.tables.exec = Jvm.exec) (hb : c.code = cc) (hK : Kw G s) (hM : Wd G M s H locs) (ha : M a = some (r, .inl (G.2.1 0, 8, .inl (rw8 v0 v1 v2 v3 v4 v5 v6 v7)))) (hdg : decode cc pc = .ok (.iastore, 1)) (kk : ∀ (H : Heap) (locs : List Loc), Wd G (hu M a r (.inl (G.2.1 0, 8, .inl (rw8 v0 v1 v2 x v4 v5 v6 v7)))) s H locs → W p l e R s m args below meth c H locs cells slots Q (F0 m (pc + 1) ls rest)) : W p l e R s m args below meth c H locs cells slots Q (F0 m pc ls (.int x :: .int 3 :: .ref a :: rest)) :=
  g_iast hx hb hK hM ha (i := 3) (by unfold vp_in; decide) hdg (fun H locs hM => kk H locs (hM.eq (by rw [show (3 : Int32).toNatClampNeg = 3 by decide, ru8_3])))
theorem ia8_4 {v0 v1 v2 v3 v4 v5 v6 v7 : Int32} (hx : p.tables.exec = Jvm.exec) (hb : c.code = cc) (hK : Kw G s) (hM : Wd G M s H locs) (ha : M a = some (r, .inl (G.2.1 0, 8, .inl (rw8 v0 v1 v2 v3 v4 v5 v6 v7)))) (hdg : decode cc pc = .ok (.iaload, 1)) (kk : W p l e R s m args below meth c H locs cells slots Q (F0 m (pc + 1) ls (.int v4 :: rest))) : W p l e R s m args below meth c H locs cells slots Q (F0 m pc ls (.int 4 :: .ref a :: rest)) :=
  g_iald hx hb hK hM ha (i := 4) (by unfold vp_in; decide) hdg (by rw [show rw8 v0 v1 v2 v3 v4 v5 v6 v7 ((4 : Int32).toNatClampNeg) = v4 from congrArg (rw8 v0 v1 v2 v3 v4 v5 v6 v7) (show (4 : Int32).toNatClampNeg = 4 by decide)]; exact kk)
theorem is8_4 {v0 v1 v2 v3 v4 v5 v6 v7 x : Int32} (hx : p.tables.exec = Jvm.exec) (hb : c.code = cc) (hK : Kw G s) (hM : Wd G M s H locs) (ha : M a = some (r, .inl (G.2.1 0, 8, .inl (rw8 v0 v1 v2 v3 v4 v5 v6 v7)))) (hdg : decode cc pc = .ok (.iastore, 1)) (kk : ∀ (H : Heap) (locs : List Loc), Wd G (hu M a r (.inl (G.2.1 0, 8, .inl (rw8 v0 v1 v2 v3 x v5 v6 v7)))) s H locs → W p l e R s m args below meth c H locs cells slots Q (F0 m (pc + 1) ls rest)) : W p l e R s m args below meth c H locs cells slots Q (F0 m pc ls (.int x :: .int 4 :: .ref a :: rest)) :=
  g_iast hx hb hK hM ha (i := 4) (by unfold vp_in; decide) hdg (fun H locs hM => kk H locs (hM.eq (by rw [show (4 : Int32).toNatClampNeg = 4 by decide, ru8_4])))
theorem ia8_5 {v0 v1 v2 v3 v4 v5 v6 v7 : Int32} (hx : p.tables.exec = Jvm.exec) (hb : c.code = cc) (hK : Kw G s) (hM : Wd G M s H locs) (ha : M a = some (r, .inl (G.2.1 0, 8, .inl (rw8 v0 v1 v2 v3 v4 v5 v6 v7)))) (hdg : decode cc pc = .ok (.iaload, 1)) (kk : W p l e R s m args below meth c H locs cells slots Q (F0 m (pc + 1) ls (.int v5 :: rest))) : W p l e R s m args below meth c H locs cells slots Q (F0 m pc ls (.int 5 :: .ref a :: rest)) :=
  g_iald hx hb hK hM ha (i := 5) (by unfold vp_in; decide) hdg (by rw [show rw8 v0 v1 v2 v3 v4 v5 v6 v7 ((5 : Int32).toNatClampNeg) = v5 from congrArg (rw8 v0 v1 v2 v3 v4 v5 v6 v7) (show (5 : Int32).toNatClampNeg = 5 by decide)]; exact kk)
theorem is8_5 {v0 v1 v2 v3 v4 v5 v6 v7 x : Int32} (hx : p.tables.exec = Jvm.exec) (hb : c.code = cc) (hK : Kw G s) (hM : Wd G M s H locs) (ha : M a = some (r, .inl (G.2.1 0, 8, .inl (rw8 v0 v1 v2 v3 v4 v5 v6 v7)))) (hdg : decode cc pc = .ok (.iastore, 1)) (kk : ∀ (H : Heap) (locs : List Loc), Wd G (hu M a r (.inl (G.2.1 0, 8, .inl (rw8 v0 v1 v2 v3 v4 x v6 v7)))) s H locs → W p l e R s m args below meth c H locs cells slots Q (F0 m (pc + 1) ls rest)) : W p l e R s m args below meth c H locs cells slots Q (F0 m pc ls (.int x :: .int 5 :: .ref a :: rest)) :=
  g_iast hx hb hK hM ha (i := 5) (by unfold vp_in; decide) hdg (fun H locs hM => kk H locs (hM.eq (by rw [show (5 : Int32).toNatClampNeg = 5 by decide, ru8_5])))
theorem ia8_6 {v0 v1 v2 v3 v4 v5 v6 v7 : Int32} (hx : p.tables.exec = Jvm.exec) (hb : c.code = cc) (hK : Kw G s) (hM : Wd G M s H locs) (ha : M a = some (r, .inl (G.2.1 0, 8, .inl (rw8 v0 v1 v2 v3 v4 v5 v6 v7)))) (hdg : decode cc pc = .ok (.iaload, 1)) (kk : W p l e R s m args below meth c H locs cells slots Q (F0 m (pc + 1) ls (.int v6 :: rest))) : W p l e R s m args below meth c H locs cells slots Q (F0 m pc ls (.int 6 :: .ref a :: rest)) :=
  g_iald hx hb hK hM ha (i := 6) (by unfold vp_in; decide) hdg (by rw [show rw8 v0 v1 v2 v3 v4 v5 v6 v7 ((6 : Int32).toNatClampNeg) = v6 from congrArg (rw8 v0 v1 v2 v3 v4 v5 v6 v7) (show (6 : Int32).toNatClampNeg = 6 by decide)]; exact kk)
theorem is8_6 {v0 v1 v2 v3 v4 v5 v6 v7 x : Int32} (hx : p.tables.exec = Jvm.exec) (hb : c.code = cc) (hK : Kw G s) (hM : Wd G M s H locs) (ha : M a = some (r, .inl (G.2.1 0, 8, .inl (rw8 v0 v1 v2 v3 v4 v5 v6 v7)))) (hdg : decode cc pc = .ok (.iastore, 1)) (kk : ∀ (H : Heap) (locs : List Loc), Wd G (hu M a r (.inl (G.2.1 0, 8, .inl (rw8 v0 v1 v2 v3 v4 v5 x v7)))) s H locs → W p l e R s m args below meth c H locs cells slots Q (F0 m (pc + 1) ls rest)) : W p l e R s m args below meth c H locs cells slots Q (F0 m pc ls (.int x :: .int 6 :: .ref a :: rest)) :=
  g_iast hx hb hK hM ha (i := 6) (by unfold vp_in; decide) hdg (fun H locs hM => kk H locs (hM.eq (by rw [show (6 : Int32).toNatClampNeg = 6 by decide, ru8_6])))
theorem ia8_7 {v0 v1 v2 v3 v4 v5 v6 v7 : Int32} (hx : p.tables.exec = Jvm.exec) (hb : c.code = cc) (hK : Kw G s) (hM : Wd G M s H locs) (ha : M a = some (r, .inl (G.2.1 0, 8, .inl (rw8 v0 v1 v2 v3 v4 v5 v6 v7)))) (hdg : decode cc pc = .ok (.iaload, 1)) (kk : W p l e R s m args below meth c H locs cells slots Q (F0 m (pc + 1) ls (.int v7 :: rest))) : W p l e R s m args below meth c H locs cells slots Q (F0 m pc ls (.int 7 :: .ref a :: rest)) :=
  g_iald hx hb hK hM ha (i := 7) (by unfold vp_in; decide) hdg (by rw [show rw8 v0 v1 v2 v3 v4 v5 v6 v7 ((7 : Int32).toNatClampNeg) = v7 from congrArg (rw8 v0 v1 v2 v3 v4 v5 v6 v7) (show (7 : Int32).toNatClampNeg = 7 by decide)]; exact kk)
theorem is8_7 {v0 v1 v2 v3 v4 v5 v6 v7 x : Int32} (hx : p.tables.exec = Jvm.exec) (hb : c.code = cc) (hK : Kw G s) (hM : Wd G M s H locs) (ha : M a = some (r, .inl (G.2.1 0, 8, .inl (rw8 v0 v1 v2 v3 v4 v5 v6 v7)))) (hdg : decode cc pc = .ok (.iastore, 1)) (kk : ∀ (H : Heap) (locs : List Loc), Wd G (hu M a r (.inl (G.2.1 0, 8, .inl (rw8 v0 v1 v2 v3 v4 v5 v6 x)))) s H locs → W p l e R s m args below meth c H locs cells slots Q (F0 m (pc + 1) ls rest)) : W p l e R s m args below meth c H locs cells slots Q (F0 m pc ls (.int x :: .int 7 :: .ref a :: rest)) :=
  g_iast hx hb hK hM ha (i := 7) (by unfold vp_in; decide) hdg (fun H locs hM => kk H locs (hM.eq (by rw [show (7 : Int32).toNatClampNeg = 7 by decide, ru8_7])))
theorem ia10_0 {v0 v1 v2 v3 v4 v5 v6 v7 v8 v9 : Int32} (hx : p.tables.exec = Jvm.exec) (hb : c.code = cc) (hK : Kw G s) (hM : Wd G M s H locs) (ha : M a = some (r, .inl (G.2.1 0, 10, .inl (rw10 v0 v1 v2 v3 v4 v5 v6 v7 v8 v9)))) (hdg : decode cc pc = .ok (.iaload, 1)) (kk : W p l e R s m args below meth c H locs cells slots Q (F0 m (pc + 1) ls (.int v0 :: rest))) : W p l e R s m args below meth c H locs cells slots Q (F0 m pc ls (.int 0 :: .ref a :: rest)) :=
  g_iald hx hb hK hM ha (i := 0) (by unfold vp_in; decide) hdg (by rw [show rw10 v0 v1 v2 v3 v4 v5 v6 v7 v8 v9 ((0 : Int32).toNatClampNeg) = v0 from congrArg (rw10 v0 v1 v2 v3 v4 v5 v6 v7 v8 v9) (show (0 : Int32).toNatClampNeg = 0 by decide)]; exact kk)
theorem is10_0 {v0 v1 v2 v3 v4 v5 v6 v7 v8 v9 x : Int32} (hx : p.tables.exec = Jvm.exec) (hb : c.code = cc) (hK : Kw G s) (hM : Wd G M s H locs) (ha : M a = some (r, .inl (G.2.1 0, 10, .inl (rw10 v0 v1 v2 v3 v4 v5 v6 v7 v8 v9)))) (hdg : decode cc pc = .ok (.iastore, 1)) (kk : ∀ (H : Heap) (locs : List Loc), Wd G (hu M a r (.inl (G.2.1 0, 10, .inl (rw10 x v1 v2 v3 v4 v5 v6 v7 v8 v9)))) s H locs → W p l e R s m args below meth c H locs cells slots Q (F0 m (pc + 1) ls rest)) : W p l e R s m args below meth c H locs cells slots Q (F0 m pc ls (.int x :: .int 0 :: .ref a :: rest)) :=
  g_iast hx hb hK hM ha (i := 0) (by unfold vp_in; decide) hdg (fun H locs hM => kk H locs (hM.eq (by rw [show (0 : Int32).toNatClampNeg = 0 by decide, ru10_0])))
theorem ia10_1 {v0 v1 v2 v3 v4 v5 v6 v7 v8 v9 : Int32} (hx : p.tables.exec = Jvm.exec) (hb : c.code = cc) (hK : Kw G s) (hM : Wd G M s H locs) (ha : M a = some (r, .inl (G.2.1 0, 10, .inl (rw10 v0 v1 v2 v3 v4 v5 v6 v7 v8 v9)))) (hdg : decode cc pc = .ok (.iaload, 1)) (kk : W p l e R s m args below meth c H locs cells slots Q (F0 m (pc + 1) ls (.int v1 :: rest))) : W p l e R s m args below meth c H locs cells slots Q (F0 m pc ls (.int 1 :: .ref a :: rest)) :=
  g_iald hx hb hK hM ha (i := 1) (by unfold vp_in; decide) hdg (by rw [show rw10 v0 v1 v2 v3 v4 v5 v6 v7 v8 v9 ((1 : Int32).toNatClampNeg) = v1 from congrArg (rw10 v0 v1 v2 v3 v4 v5 v6 v7 v8 v9) (show (1 : Int32).toNatClampNeg = 1 by decide)]; exact kk)
theorem is10_1 {v0 v1 v2 v3 v4 v5 v6 v7 v8 v9 x : Int32} (hx : p.tables.exec = Jvm.exec) (hb : c.code = cc) (hK : Kw G s) (hM : Wd G M s H locs) (ha : M a = some (r, .inl (G.2.1 0, 10, .inl (rw10 v0 v1 v2 v3 v4 v5 v6 v7 v8 v9)))) (hdg : decode cc pc = .ok (.iastore, 1)) (kk : ∀ (H : Heap) (locs : List Loc), Wd G (hu M a r (.inl (G.2.1 0, 10, .inl (rw10 v0 x v2 v3 v4 v5 v6 v7 v8 v9)))) s H locs → W p l e R s m args below meth c H locs cells slots Q (F0 m (pc + 1) ls rest)) : W p l e R s m args below meth c H locs cells slots Q (F0 m pc ls (.int x :: .int 1 :: .ref a :: rest)) :=
  g_iast hx hb hK hM ha (i := 1) (by unfold vp_in; decide) hdg (fun H locs hM => kk H locs (hM.eq (by rw [show (1 : Int32).toNatClampNeg = 1 by decide, ru10_1])))
theorem ia10_2 {v0 v1 v2 v3 v4 v5 v6 v7 v8 v9 : Int32} (hx : p.tables.exec = Jvm.exec) (hb : c.code = cc) (hK : Kw G s) (hM : Wd G M s H locs) (ha : M a = some (r, .inl (G.2.1 0, 10, .inl (rw10 v0 v1 v2 v3 v4 v5 v6 v7 v8 v9)))) (hdg : decode cc pc = .ok (.iaload, 1)) (kk : W p l e R s m args below meth c H locs cells slots Q (F0 m (pc + 1) ls (.int v2 :: rest))) : W p l e R s m args below meth c H locs cells slots Q (F0 m pc ls (.int 2 :: .ref a :: rest)) :=
  g_iald hx hb hK hM ha (i := 2) (by unfold vp_in; decide) hdg (by rw [show rw10 v0 v1 v2 v3 v4 v5 v6 v7 v8 v9 ((2 : Int32).toNatClampNeg) = v2 from congrArg (rw10 v0 v1 v2 v3 v4 v5 v6 v7 v8 v9) (show (2 : Int32).toNatClampNeg = 2 by decide)]; exact kk)
theorem is10_2 {v0 v1 v2 v3 v4 v5 v6 v7 v8 v9 x : Int32} (hx : p.tables.exec = Jvm.exec) (hb : c.code = cc) (hK : Kw G s) (hM : Wd G M s H locs) (ha : M a = some (r, .inl (G.2.1 0, 10, .inl (rw10 v0 v1 v2 v3 v4 v5 v6 v7 v8 v9)))) (hdg : decode cc pc = .ok (.iastore, 1)) (kk : ∀ (H : Heap) (locs : List Loc), Wd G (hu M a r (.inl (G.2.1 0, 10, .inl (rw10 v0 v1 x v3 v4 v5 v6 v7 v8 v9)))) s H locs → W p l e R s m args below meth c H locs cells slots Q (F0 m (pc + 1) ls rest)) : W p l e R s m args below meth c H locs cells slots Q (F0 m pc ls (.int x :: .int 2 :: .ref a :: rest)) :=
  g_iast hx hb hK hM ha (i := 2) (by unfold vp_in; decide) hdg (fun H locs hM => kk H locs (hM.eq (by rw [show (2 : Int32).toNatClampNeg = 2 by decide, ru10_2])))
theorem ia10_3 {v0 v1 v2 v3 v4 v5 v6 v7 v8 v9 : Int32} (hx : p.tables.exec = Jvm.exec) (hb : c.code = cc) (hK : Kw G s) (hM : Wd G M s H locs) (ha : M a = some (r, .inl (G.2.1 0, 10, .inl (rw10 v0 v1 v2 v3 v4 v5 v6 v7 v8 v9)))) (hdg : decode cc pc = .ok (.iaload, 1)) (kk : W p l e R s m args below meth c H locs cells slots Q (F0 m (pc + 1) ls (.int v3 :: rest))) : W p l e R s m args below meth c H locs cells slots Q (F0 m pc ls (.int 3 :: .ref a :: rest)) :=
  g_iald hx hb hK hM ha (i := 3) (by unfold vp_in; decide) hdg (by rw [show rw10 v0 v1 v2 v3 v4 v5 v6 v7 v8 v9 ((3 : Int32).toNatClampNeg) = v3 from congrArg (rw10 v0 v1 v2 v3 v4 v5 v6 v7 v8 v9) (show (3 : Int32).toNatClampNeg = 3 by decide)]; exact kk)
theorem is10_3 {v0 v1 v2 v3 v4 v5 v6 v7 v8 v9 x : Int32} (hx : p.tables.exec = Jvm.exec) (hb : c.code = cc) (hK : Kw G s) (hM : Wd G M s H locs) (ha : M a = some (r, .inl (G.2.1 0, 10, .inl (rw10 v0 v1 v2 v3 v4 v5 v6 v7 v8 v9)))) (hdg : decode cc pc = .ok (.iastore, 1)) (kk : ∀ (H : Heap) (locs : List Loc), Wd G (hu M a r (.inl (G.2.1 0, 10, .inl (rw10 v0 v1 v2 x v4 v5 v6 v7 v8 v9)))) s H locs → W p l e R s m args below meth c H locs cells slots Q (F0 m (pc + 1) ls rest)) : W p l e R s m args below meth c H locs cells slots Q (F0 m pc ls (.int x :: .int 3 :: .ref a :: rest)) :=
  g_iast hx hb hK hM ha (i := 3) (by unfold vp_in; decide) hdg (fun H locs hM => kk H locs (hM.eq (by rw [show (3 : Int32).toNatClampNeg = 3 by decide, ru10_3])))
theorem ia10_4 {v0 v1 v2 v3 v4 v5 v6 v7 v8 v9 : Int32} (hx : p.tables.exec = Jvm.exec) (hb : c.code = cc) (hK : Kw G s) (hM : Wd G M s H locs) (ha : M a = some (r, .inl (G.2.1 0, 10, .inl (rw10 v0 v1 v2 v3 v4 v5 v6 v7 v8 v9)))) (hdg : decode cc pc = .ok (.iaload, 1)) (kk : W p l e R s m args below meth c H locs cells slots Q (F0 m (pc + 1) ls (.int v4 :: rest))) : W p l e R s m args below meth c H locs cells slots Q (F0 m pc ls (.int 4 :: .ref a :: rest)) :=
  g_iald hx hb hK hM ha (i := 4) (by unfold vp_in; decide) hdg (by rw [show rw10 v0 v1 v2 v3 v4 v5 v6 v7 v8 v9 ((4 : Int32).toNatClampNeg) = v4 from congrArg (rw10 v0 v1 v2 v3 v4 v5 v6 v7 v8 v9) (show (4 : Int32).toNatClampNeg = 4 by decide)]; exact kk)
theorem is10_4 {v0 v1 v2 v3 v4 v5 v6 v7 v8 v9 x : Int32} (hx : p.tables.exec = Jvm.exec) (hb : c.code = cc) (hK : Kw G s) (hM : Wd G M s H locs) (ha : M a = some (r, .inl (G.2.1 0, 10, .inl (rw10 v0 v1 v2 v3 v4 v5 v6 v7 v8 v9)))) (hdg : decode cc pc = .ok (.iastore, 1)) (kk : ∀ (H : Heap) (locs : List Loc), Wd G (hu M a r (.inl (G.2.1 0, 10, .inl (rw10 v0 v1 v2 v3 x v5 v6 v7 v8 v9)))) s H locs → W p l e R s m args below meth c H locs cells slots Q (F0 m (pc + 1) ls rest)) : W p l e R s m args below meth c H locs cells slots Q (F0 m pc ls (.int x :: .int 4 :: .ref a :: rest)) :=
  g_iast hx hb hK hM ha (i := 4) (by unfold vp_in; decide) hdg (fun H locs hM => kk H locs (hM.eq (by rw [show (4 : Int32).toNatClampNeg = 4 by decide, ru10_4])))
theorem ia10_5 {v0 v1 v2 v3 v4 v5 v6 v7 v8 v9 : Int32} (hx : p.tables.exec = Jvm.exec) (hb : c.code = cc) (hK : Kw G s) (hM : Wd G M s H locs) (ha : M a = some (r, .inl (G.2.1 0, 10, .inl (rw10 v0 v1 v2 v3 v4 v5 v6 v7 v8 v9)))) (hdg : decode cc pc = .ok (.iaload, 1)) (kk : W p l e R s m args below meth c H locs cells slots Q (F0 m (pc + 1) ls (.int v5 :: rest))) : W p l e R s m args below meth c H locs cells slots Q (F0 m pc ls (.int 5 :: .ref a :: rest)) :=
  g_iald hx hb hK hM ha (i := 5) (by unfold vp_in; decide) hdg (by rw [show rw10 v0 v1 v2 v3 v4 v5 v6 v7 v8 v9 ((5 : Int32).toNatClampNeg) = v5 from congrArg (rw10 v0 v1 v2 v3 v4 v5 v6 v7 v8 v9) (show (5 : Int32).toNatClampNeg = 5 by decide)]; exact kk)
theorem is10_5 {v0 v1 v2 v3 v4 v5 v6 v7 v8 v9 x : Int32} (hx : p.tables.exec = Jvm.exec) (hb : c.code = cc) (hK : Kw G s) (hM : Wd G M s H locs) (ha : M a = some (r, .inl (G.2.1 0, 10, .inl (rw10 v0 v1 v2 v3 v4 v5 v6 v7 v8 v9)))) (hdg : decode cc pc = .ok (.iastore, 1)) (kk : ∀ (H : Heap) (locs : List Loc), Wd G (hu M a r (.inl (G.2.1 0, 10, .inl (rw10 v0 v1 v2 v3 v4 x v6 v7 v8 v9)))) s H locs → W p l e R s m args below meth c H locs cells slots Q (F0 m (pc + 1) ls rest)) : W p l e R s m args below meth c H locs cells slots Q (F0 m pc ls (.int x :: .int 5 :: .ref a :: rest)) :=
  g_iast hx hb hK hM ha (i := 5) (by unfold vp_in; decide) hdg (fun H locs hM => kk H locs (hM.eq (by rw [show (5 : Int32).toNatClampNeg = 5 by decide, ru10_5])))
theorem ia10_6 {v0 v1 v2 v3 v4 v5 v6 v7 v8 v9 : Int32} (hx : p.tables.exec = Jvm.exec) (hb : c.code = cc) (hK : Kw G s) (hM : Wd G M s H locs) (ha : M a = some (r, .inl (G.2.1 0, 10, .inl (rw10 v0 v1 v2 v3 v4 v5 v6 v7 v8 v9)))) (hdg : decode cc pc = .ok (.iaload, 1)) (kk : W p l e R s m args below meth c H locs cells slots Q (F0 m (pc + 1) ls (.int v6 :: rest))) : W p l e R s m args below meth c H locs cells slots Q (F0 m pc ls (.int 6 :: .ref a :: rest)) :=
  g_iald hx hb hK hM ha (i := 6) (by unfold vp_in; decide) hdg (by rw [show rw10 v0 v1 v2 v3 v4 v5 v6 v7 v8 v9 ((6 : Int32).toNatClampNeg) = v6 from congrArg (rw10 v0 v1 v2 v3 v4 v5 v6 v7 v8 v9) (show (6 : Int32).toNatClampNeg = 6 by decide)]; exact kk)
theorem is10_6 {v0 v1 v2 v3 v4 v5 v6 v7 v8 v9 x : Int32} (hx : p.tables.exec = Jvm.exec) (hb : c.code = cc) (hK : Kw G s) (hM : Wd G M s H locs) (ha : M a = some (r, .inl (G.2.1 0, 10, .inl (rw10 v0 v1 v2 v3 v4 v5 v6 v7 v8 v9)))) (hdg : decode cc pc = .ok (.iastore, 1)) (kk : ∀ (H : Heap) (locs : List Loc), Wd G (hu M a r (.inl (G.2.1 0, 10, .inl (rw10 v0 v1 v2 v3 v4 v5 x v7 v8 v9)))) s H locs → W p l e R s m args below meth c H locs cells slots Q (F0 m (pc + 1) ls rest)) : W p l e R s m args below meth c H locs cells slots Q (F0 m pc ls (.int x :: .int 6 :: .ref a :: rest)) :=
  g_iast hx hb hK hM ha (i := 6) (by unfold vp_in; decide) hdg (fun H locs hM => kk H locs (hM.eq (by rw [show (6 : Int32).toNatClampNeg = 6 by decide, ru10_6])))
theorem ia10_7 {v0 v1 v2 v3 v4 v5 v6 v7 v8 v9 : Int32} (hx : p.tables.exec = Jvm.exec) (hb : c.code = cc) (hK : Kw G s) (hM : Wd G M s H locs) (ha : M a = some (r, .inl (G.2.1 0, 10, .inl (rw10 v0 v1 v2 v3 v4 v5 v6 v7 v8 v9)))) (hdg : decode cc pc = .ok (.iaload, 1)) (kk : W p l e R s m args below meth c H locs cells slots Q (F0 m (pc + 1) ls (.int v7 :: rest))) : W p l e R s m args below meth c H locs cells slots Q (F0 m pc ls (.int 7 :: .ref a :: rest)) :=
  g_iald hx hb hK hM ha (i := 7) (by unfold vp_in; decide) hdg (by rw [show rw10 v0 v1 v2 v3 v4 v5 v6 v7 v8 v9 ((7 : Int32).toNatClampNeg) = v7 from congrArg (rw10 v0 v1 v2 v3 v4 v5 v6 v7 v8 v9) (show (7 : Int32).toNatClampNeg = 7 by decide)]; exact kk)
theorem is10_7 {v0 v1 v2 v3 v4 v5 v6 v7 v8 v9 x : Int32} (hx : p.tables.exec = Jvm.exec) (hb : c.code = cc) (hK : Kw G s) (hM : Wd G M s H locs) (ha : M a = some (r, .inl (G.2.1 0, 10, .inl (rw10 v0 v1 v2 v3 v4 v5 v6 v7 v8 v9)))) (hdg : decode cc pc = .ok (.iastore, 1)) (kk : ∀ (H : Heap) (locs : List Loc), Wd G (hu M a r (.inl (G.2.1 0, 10, .inl (rw10 v0 v1 v2 v3 v4 v5 v6 x v8 v9)))) s H locs → W p l e R s m args below meth c H locs cells slots Q (F0 m (pc + 1) ls rest)) : W p l e R s m args below meth c H locs cells slots Q (F0 m pc ls (.int x :: .int 7 :: .ref a :: rest)) :=
  g_iast hx hb hK hM ha (i := 7) (by unfold vp_in; decide) hdg (fun H locs hM => kk H locs (hM.eq (by rw [show (7 : Int32).toNatClampNeg = 7 by decide, ru10_7])))
theorem ia10_8 {v0 v1 v2 v3 v4 v5 v6 v7 v8 v9 : Int32} (hx : p.tables.exec = Jvm.exec) (hb : c.code = cc) (hK : Kw G s) (hM : Wd G M s H locs) (ha : M a = some (r, .inl (G.2.1 0, 10, .inl (rw10 v0 v1 v2 v3 v4 v5 v6 v7 v8 v9)))) (hdg : decode cc pc = .ok (.iaload, 1)) (kk : W p l e R s m args below meth c H locs cells slots Q (F0 m (pc + 1) ls (.int v8 :: rest))) : W p l e R s m args below meth c H locs cells slots Q (F0 m pc ls (.int 8 :: .ref a :: rest)) :=
  g_iald hx hb hK hM ha (i := 8) (by unfold vp_in; decide) hdg (by rw [show rw10 v0 v1 v2 v3 v4 v5 v6 v7 v8 v9 ((8 : Int32).toNatClampNeg) = v8 from congrArg (rw10 v0 v1 v2 v3 v4 v5 v6 v7 v8 v9) (show (8 : Int32).toNatClampNeg = 8 by decide)]; exact kk)
theorem is10_8 {v0 v1 v2 v3 v4 v5 v6 v7 v8 v9 x : Int32} (hx : p.tables.exec = Jvm.exec) (hb : c.code = cc) (hK : Kw G s) (hM : Wd G M s H locs) (ha : M a = some (r, .inl (G.2.1 0, 10, .inl (rw10 v0 v1 v2 v3 v4 v5 v6 v7 v8 v9)))) (hdg : decode cc pc = .ok (.iastore, 1)) (kk : ∀ (H : Heap) (locs : List Loc), Wd G (hu M a r (.inl (G.2.1 0, 10, .inl (rw10 v0 v1 v2 v3 v4 v5 v6 v7 x v9)))) s H locs → W p l e R s m args below meth c H locs cells slots Q (F0 m (pc + 1) ls rest)) : W p l e R s m args below meth c H locs cells slots Q (F0 m pc ls (.int x :: .int 8 :: .ref a :: rest)) :=
  g_iast hx hb hK hM ha (i := 8) (by unfold vp_in; decide) hdg (fun H locs hM => kk H locs (hM.eq (by rw [show (8 : Int32).toNatClampNeg = 8 by decide, ru10_8])))
theorem ia10_9 {v0 v1 v2 v3 v4 v5 v6 v7 v8 v9 : Int32} (hx : p.tables.exec = Jvm.exec) (hb : c.code = cc) (hK : Kw G s) (hM : Wd G M s H locs) (ha : M a = some (r, .inl (G.2.1 0, 10, .inl (rw10 v0 v1 v2 v3 v4 v5 v6 v7 v8 v9)))) (hdg : decode cc pc = .ok (.iaload, 1)) (kk : W p l e R s m args below meth c H locs cells slots Q (F0 m (pc + 1) ls (.int v9 :: rest))) : W p l e R s m args below meth c H locs cells slots Q (F0 m pc ls (.int 9 :: .ref a :: rest)) :=
  g_iald hx hb hK hM ha (i := 9) (by unfold vp_in; decide) hdg (by rw [show rw10 v0 v1 v2 v3 v4 v5 v6 v7 v8 v9 ((9 : Int32).toNatClampNeg) = v9 from congrArg (rw10 v0 v1 v2 v3 v4 v5 v6 v7 v8 v9) (show (9 : Int32).toNatClampNeg = 9 by decide)]; exact kk)
theorem is10_9 {v0 v1 v2 v3 v4 v5 v6 v7 v8 v9 x : Int32} (hx : p.tables.exec = Jvm.exec) (hb : c.code = cc) (hK : Kw G s) (hM : Wd G M s H locs) (ha : M a = some (r, .inl (G.2.1 0, 10, .inl (rw10 v0 v1 v2 v3 v4 v5 v6 v7 v8 v9)))) (hdg : decode cc pc = .ok (.iastore, 1)) (kk : ∀ (H : Heap) (locs : List Loc), Wd G (hu M a r (.inl (G.2.1 0, 10, .inl (rw10 v0 v1 v2 v3 v4 v5 v6 v7 v8 x)))) s H locs → W p l e R s m args below meth c H locs cells slots Q (F0 m (pc + 1) ls rest)) : W p l e R s m args below meth c H locs cells slots Q (F0 m pc ls (.int x :: .int 9 :: .ref a :: rest)) :=
  g_iast hx hb hK hM ha (i := 9) (by unfold vp_in; decide) hdg (fun H locs hM => kk H locs (hM.eq (by rw [show (9 : Int32).toNatClampNeg = 9 by decide, ru10_9])))
theorem ia11_0 {v0 v1 v2 v3 v4 v5 v6 v7 v8 v9 v10 : Int32} (hx : p.tables.exec = Jvm.exec) (hb : c.code = cc) (hK : Kw G s) (hM : Wd G M s H locs) (ha : M a = some (r, .inl (G.2.1 0, 11, .inl (rw11 v0 v1 v2 v3 v4 v5 v6 v7 v8 v9 v10)))) (hdg : decode cc pc = .ok (.iaload, 1)) (kk : W p l e R s m args below meth c H locs cells slots Q (F0 m (pc + 1) ls (.int v0 :: rest))) : W p l e R s m args below meth c H locs cells slots Q (F0 m pc ls (.int 0 :: .ref a :: rest)) :=
  g_iald hx hb hK hM ha (i := 0) (by unfold vp_in; decide) hdg (by rw [show rw11 v0 v1 v2 v3 v4 v5 v6 v7 v8 v9 v10 ((0 : Int32).toNatClampNeg) = v0 from congrArg (rw11 v0 v1 v2 v3 v4 v5 v6 v7 v8 v9 v10) (show (0 : Int32).toNatClampNeg = 0 by decide)]; exact kk)
theorem is11_0 {v0 v1 v2 v3 v4 v5 v6 v7 v8 v9 v10 x : Int32} (hx : p.tables.exec = Jvm.exec) (hb : c.code = cc) (hK : Kw G s) (hM : Wd G M s H locs) (ha : M a = some (r, .inl (G.2.1 0, 11, .inl (rw11 v0 v1 v2 v3 v4 v5 v6 v7 v8 v9 v10)))) (hdg : decode cc pc = .ok (.iastore, 1)) (kk : ∀ (H : Heap) (locs : List Loc), Wd G (hu M a r (.inl (G.2.1 0, 11, .inl (rw11 x v1 v2 v3 v4 v5 v6 v7 v8 v9 v10)))) s H locs → W p l e R s m args below meth c H locs cells slots Q (F0 m (pc + 1) ls rest)) : W p l e R s m args below meth c H locs cells slots Q (F0 m pc ls (.int x :: .int 0 :: .ref a :: rest)) :=
  g_iast hx hb hK hM ha (i := 0) (by unfold vp_in; decide) hdg (fun H locs hM => kk H locs (hM.eq (by rw [show (0 : Int32).toNatClampNeg = 0 by decide, ru11_0])))
theorem ia11_1 {v0 v1 v2 v3 v4 v5 v6 v7 v8 v9 v10 : Int32} (hx : p.tables.exec = Jvm.exec) (hb : c.code = cc) (hK : Kw G s) (hM : Wd G M s H locs) (ha : M a = some (r, .inl (G.2.1 0, 11, .inl (rw11 v0 v1 v2 v3 v4 v5 v6 v7 v8 v9 v10)))) (hdg : decode cc pc = .ok (.iaload, 1)) (kk : W p l e R s m args below meth c H locs cells slots Q (F0 m (pc + 1) ls (.int v1 :: rest))) : W p l e R s m args below meth c H locs cells slots Q (F0 m pc ls (.int 1 :: .ref a :: rest)) :=
  g_iald hx hb hK hM ha (i := 1) (by unfold vp_in; decide) hdg (by rw [show rw11 v0 v1 v2 v3 v4 v5 v6 v7 v8 v9 v10 ((1 : Int32).toNatClampNeg) = v1 from congrArg (rw11 v0 v1 v2 v3 v4 v5 v6 v7 v8 v9 v10) (show (1 : Int32).toNatClampNeg = 1 by decide)]; exact kk)
theorem is11_1 {v0 v1 v2 v3 v4 v5 v6 v7 v8 v9 v10 x : Int32} (hx : p.tables.exec = Jvm.exec) (hb : c.code = cc) (hK : Kw G s) (hM : Wd G M s H locs) (ha : M a = some (r, .inl (G.2.1 0, 11, .inl (rw11 v0 v1 v2 v3 v4 v5 v6 v7 v8 v9 v10)))) (hdg : decode cc pc = .ok (.iastore, 1)) (kk : ∀ (H : Heap) (locs : List Loc), Wd G (hu M a r (.inl (G.2.1 0, 11, .inl (rw11 v0 x v2 v3 v4 v5 v6 v7 v8 v9 v10)))) s H locs → W p l e R s m args below meth c H locs cells slots Q (F0 m (pc + 1) ls rest)) : W p l e R s m args below meth c H locs cells slots Q (F0 m pc ls (.int x :: .int 1 :: .ref a :: rest)) :=
  g_iast hx hb hK hM ha (i := 1) (by unfold vp_in; decide) hdg (fun H locs hM => kk H locs (hM.eq (by rw [show (1 : Int32).toNatClampNeg = 1 by decide, ru11_1])))
theorem ia11_2 {v0 v1 v2 v3 v4 v5 v6 v7 v8 v9 v10 : Int32} (hx : p.tables.exec = Jvm.exec) (hb : c.code = cc) (hK : Kw G s) (hM : Wd G M s H locs) (ha : M a = some (r, .inl (G.2.1 0, 11, .inl (rw11 v0 v1 v2 v3 v4 v5 v6 v7 v8 v9 v10)))) (hdg : decode cc pc = .ok (.iaload, 1)) (kk : W p l e R s m args below meth c H locs cells slots Q (F0 m (pc + 1) ls (.int v2 :: rest))) : W p l e R s m args below meth c H locs cells slots Q (F0 m pc ls (.int 2 :: .ref a :: rest)) :=
  g_iald hx hb hK hM ha (i := 2) (by unfold vp_in; decide) hdg (by rw [show rw11 v0 v1 v2 v3 v4 v5 v6 v7 v8 v9 v10 ((2 : Int32).toNatClampNeg) = v2 from congrArg (rw11 v0 v1 v2 v3 v4 v5 v6 v7 v8 v9 v10) (show (2 : Int32).toNatClampNeg = 2 by decide)]; exact kk)
theorem is11_2 {v0 v1 v2 v3 v4 v5 v6 v7 v8 v9 v10 x : Int32} (hx : p.tables.exec = Jvm.exec) (hb : c.code = cc) (hK : Kw G s) (hM : Wd G M s H locs) (ha : M a = some (r, .inl (G.2.1 0, 11, .inl (rw11 v0 v1 v2 v3 v4 v5 v6 v7 v8 v9 v10)))) (hdg : decode cc pc = .ok (.iastore, 1)) (kk : ∀ (H : Heap) (locs : List Loc), Wd G (hu M a r (.inl (G.2.1 0, 11, .inl (rw11 v0 v1 x v3 v4 v5 v6 v7 v8 v9 v10)))) s H locs → W p l e R s m args below meth c H locs cells slots Q (F0 m (pc + 1) ls rest)) : W p l e R s m args below meth c H locs cells slots Q (F0 m pc ls (.int x :: .int 2 :: .ref a :: rest)) :=
  g_iast hx hb hK hM ha (i := 2) (by unfold vp_in; decide) hdg (fun H locs hM => kk H locs (hM.eq (by rw [show (2 : Int32).toNatClampNeg = 2 by decide, ru11_2])))
theorem ia11_3 {v0 v1 v2 v3 v4 v5 v6 v7 v8 v9 v10 : Int32} (hx : p.tables.exec = Jvm.exec) (hb : c.code = cc) (hK : Kw G s) (hM : Wd G M s H locs) (ha : M a = some (r, .inl (G.2.1 0, 11, .inl (rw11 v0 v1 v2 v3 v4 v5 v6 v7 v8 v9 v10)))) (hdg : decode cc pc = .ok (.iaload, 1)) (kk : W p l e R s m args below meth c H locs cells slots Q (F0 m (pc + 1) ls (.int v3 :: rest))) : W p l e R s m args below meth c H locs cells slots Q (F0 m pc ls (.int 3 :: .ref a :: rest)) :=
  g_iald hx hb hK hM ha (i := 3) (by unfold vp_in; decide) hdg (by rw [show rw11 v0 v1 v2 v3 v4 v5 v6 v7 v8 v9 v10 ((3 : Int32).toNatClampNeg) = v3 from congrArg (rw11 v0 v1 v2 v3 v4 v5 v6 v7 v8 v9 v10) (show (3 : Int32).toNatClampNeg = 3 by decide)]; exact kk)
theorem is11_3 {v0 v1 v2 v3 v4 v5 v6 v7 v8 v9 v10 x : Int32} (hx : p.tables.exec = Jvm.exec) (hb : c.code = cc) (hK : Kw G s) (hM : Wd G M s H locs) (ha : M a = some (r, .inl (G.2.1 0, 11, .inl (rw11 v0 v1 v2 v3 v4 v5 v6 v7 v8 v9 v10)))) (hdg : decode cc pc = .ok (.iastore, 1)) (kk : ∀ (H : Heap) (locs : List Loc), Wd G (hu M a r (.inl (G.2.1 0, 11, .inl (rw11 v0 v1 v2 x v4 v5 v6 v7 v8 v9 v10)))) s H locs → W p l e R s m args below meth c H locs cells slots Q (F0 m (pc + 1) ls rest)) : W p l e R s m args below meth c H locs cells slots Q (F0 m pc ls (.int x :: .int 3 :: .ref a :: rest)) :=
  g_iast hx hb hK hM ha (i := 3) (by unfold vp_in; decide) hdg (fun H locs hM => kk H locs (hM.eq (by rw [show (3 : Int32).toNatClampNeg = 3 by decide, ru11_3])))
theorem ia11_4 {v0 v1 v2 v3 v4 v5 v6 v7 v8 v9 v10 : Int32} (hx : p.tables.exec = Jvm.exec) (hb : c.code = cc) (hK : Kw G s) (hM : Wd G M s H locs) (ha : M a = some (r, .inl (G.2.1 0, 11, .inl (rw11 v0 v1 v2 v3 v4 v5 v6 v7 v8 v9 v10)))) (hdg : decode cc pc = .ok (.iaload, 1)) (kk : W p l e R s m args below meth c H locs cells slots Q (F0 m (pc + 1) ls (.int v4 :: rest))) : W p l e R s m args below meth c H locs cells slots Q (F0 m pc ls (.int 4 :: .ref a :: rest)) :=
  g_iald hx hb hK hM ha (i := 4) (by unfold vp_in; decide) hdg (by rw [show rw11 v0 v1 v2 v3 v4 v5 v6 v7 v8 v9 v10 ((4 : Int32).toNatClampNeg) = v4 from congrArg (rw11 v0 v1 v2 v3 v4 v5 v6 v7 v8 v9 v10) (show (4 : Int32).toNatClampNeg = 4 by decide)]; exact kk)
theorem is11_4 {v0 v1 v2 v3 v4 v5 v6 v7 v8 v9 v10 x : Int32} (hx : p.tables.exec = Jvm.exec) (hb : c.code = cc) (hK : Kw G s) (hM : Wd G M s H locs) (ha : M a = some (r, .inl (G.2.1 0, 11, .inl (rw11 v0 v1 v2 v3 v4 v5 v6 v7 v8 v9 v10)))) (hdg : decode cc pc = .ok (.iastore, 1)) (kk : ∀ (H : Heap) (locs : List Loc), Wd G (hu M a r (.inl (G.2.1 0, 11, .inl (rw11 v0 v1 v2 v3 x v5 v6 v7 v8 v9 v10)))) s H locs → W p l e R s m args below meth c H locs cells slots Q (F0 m (pc + 1) ls rest)) : W p l e R s m args below meth c H locs cells slots Q (F0 m pc ls (.int x :: .int 4 :: .ref a :: rest)) :=
  g_iast hx hb hK hM ha (i := 4) (by unfold vp_in; decide) hdg (fun H locs hM => kk H locs (hM.eq (by rw [show (4 : Int32).toNatClampNeg = 4 by decide, ru11_4])))
theorem ia11_5 {v0 v1 v2 v3 v4 v5 v6 v7 v8 v9 v10 : Int32} (hx : p.tables.exec = Jvm.exec) (hb : c.code = cc) (hK : Kw G s) (hM : Wd G M s H locs) (ha : M a = some (r, .inl (G.2.1 0, 11, .inl (rw11 v0 v1 v2 v3 v4 v5 v6 v7 v8 v9 v10)))) (hdg : decode cc pc = .ok (.iaload, 1)) (kk : W p l e R s m args below meth c H locs cells slots Q (F0 m (pc + 1) ls (.int v5 :: rest))) : W p l e R s m args below meth c H locs cells slots Q (F0 m pc ls (.int 5 :: .ref a :: rest)) :=
  g_iald hx hb hK hM ha (i := 5) (by unfold vp_in; decide) hdg (by rw [show rw11 v0 v1 v2 v3 v4 v5 v6 v7 v8 v9 v10 ((5 : Int32).toNatClampNeg) = v5 from congrArg (rw11 v0 v1 v2 v3 v4 v5 v6 v7 v8 v9 v10) (show (5 : Int32).toNatClampNeg = 5 by decide)]; exact kk)
theorem is11_5 {v0 v1 v2 v3 v4 v5 v6 v7 v8 v9 v10 x : Int32} (hx : p.tables.exec = Jvm.exec) (hb : c.code = cc) (hK : Kw G s) (hM : Wd G M s H locs) (ha : M a = some (r, .inl (G.2.1 0, 11, .inl (rw11 v0 v1 v2 v3 v4 v5 v6 v7 v8 v9 v10)))) (hdg : decode cc pc = .ok (.iastore, 1)) (kk : ∀ (H : Heap) (locs : List Loc), Wd G (hu M a r (.inl (G.2.1 0, 11, .inl (rw11 v0 v1 v2 v3 v4 x v6 v7 v8 v9 v10)))) s H locs → W p l e R s m args below meth c H locs cells slots Q (F0 m (pc + 1) ls rest)) : W p l e R s m args below meth c H locs cells slots Q (F0 m pc ls (.int x :: .int 5 :: .ref a :: rest)) :=
  g_iast hx hb hK hM ha (i := 5) (by unfold vp_in; decide) hdg (fun H locs hM => kk H locs (hM.eq (by rw [show (5 : Int32).toNatClampNeg = 5 by decide, ru11_5])))
theorem ia11_6 {v0 v1 v2 v3 v4 v5 v6 v7 v8 v9 v10 : Int32} (hx : p.tables.exec = Jvm.exec) (hb : c.code = cc) (hK : Kw G s) (hM : Wd G M s H locs) (ha : M a = some (r, .inl (G.2.1 0, 11, .inl (rw11 v0 v1 v2 v3 v4 v5 v6 v7 v8 v9 v10)))) (hdg : decode cc pc = .ok (.iaload, 1)) (kk : W p l e R s m args below meth c H locs cells slots Q (F0 m (pc + 1) ls (.int v6 :: rest))) : W p l e R s m args below meth c H locs cells slots Q (F0 m pc ls (.int 6 :: .ref a :: rest)) :=
  g_iald hx hb hK hM ha (i := 6) (by unfold vp_in; decide) hdg (by rw [show rw11 v0 v1 v2 v3 v4 v5 v6 v7 v8 v9 v10 ((6 : Int32).toNatClampNeg) = v6 from congrArg (rw11 v0 v1 v2 v3 v4 v5 v6 v7 v8 v9 v10) (show (6 : Int32).toNatClampNeg = 6 by decide)]; exact kk)
theorem is11_6 {v0 v1 v2 v3 v4 v5 v6 v7 v8 v9 v10 x : Int32} (hx : p.tables.exec = Jvm.exec) (hb : c.code = cc) (hK : Kw G s) (hM : Wd G M s H locs) (ha : M a = some (r, .inl (G.2.1 0, 11, .inl (rw11 v0 v1 v2 v3 v4 v5 v6 v7 v8 v9 v10)))) (hdg : decode cc pc = .ok (.iastore, 1)) (kk : ∀ (H : Heap) (locs : List Loc), Wd G (hu M a r (.inl (G.2.1 0, 11, .inl (rw11 v0 v1 v2 v3 v4 v5 x v7 v8 v9 v10)))) s H locs → W p l e R s m args below meth c H locs cells slots Q (F0 m (pc + 1) ls rest)) : W p l e R s m args below meth c H locs cells slots Q (F0 m pc ls (.int x :: .int 6 :: .ref a :: rest)) :=
  g_iast hx hb hK hM ha (i := 6) (by unfold vp_in; decide) hdg (fun H locs hM => kk H locs (hM.eq (by rw [show (6 : Int32).toNatClampNeg = 6 by decide, ru11_6])))
theorem ia11_7 {v0 v1 v2 v3 v4 v5 v6 v7 v8 v9 v10 : Int32} (hx : p.tables.exec = Jvm.exec) (hb : c.code = cc) (hK : Kw G s) (hM : Wd G M s H locs) (ha : M a = some (r, .inl (G.2.1 0, 11, .inl (rw11 v0 v1 v2 v3 v4 v5 v6 v7 v8 v9 v10)))) (hdg : decode cc pc = .ok (.iaload, 1)) (kk : W p l e R s m args below meth c H locs cells slots Q (F0 m (pc + 1) ls (.int v7 :: rest))) : W p l e R s m args below meth c H locs cells slots Q (F0 m pc ls (.int 7 :: .ref a :: rest)) :=
  g_iald hx hb hK hM ha (i := 7) (by unfold vp_in; decide) hdg (by rw [show rw11 v0 v1 v2 v3 v4 v5 v6 v7 v8 v9 v10 ((7 : Int32).toNatClampNeg) = v7 from congrArg (rw11 v0 v1 v2 v3 v4 v5 v6 v7 v8 v9 v10) (show (7 : Int32).toNatClampNeg = 7 by decide)]; exact kk)
theorem is11_7 {v0 v1 v2 v3 v4 v5 v6 v7 v8 v9 v10 x : Int32} (hx : p.tables.exec = Jvm.exec) (hb : c.code = cc) (hK : Kw G s) (hM : Wd G M s H locs) (ha : M a = some (r, .inl (G.2.1 0, 11, .inl (rw11 v0 v1 v2 v3 v4 v5 v6 v7 v8 v9 v10)))) (hdg : decode cc pc = .ok (.iastore, 1)) (kk : ∀ (H : Heap) (locs : List Loc), Wd G (hu M a r (.inl (G.2.1 0, 11, .inl (rw11 v0 v1 v2 v3 v4 v5 v6 x v8 v9 v10)))) s H locs → W p l e R s m args below meth c H locs cells slots Q (F0 m (pc + 1) ls rest)) : W p l e R s m args below meth c H locs cells slots Q (F0 m pc ls (.int x :: .int 7 :: .ref a :: rest)) :=
  g_iast hx hb hK hM ha (i := 7) (by unfold vp_in; decide) hdg (fun H locs hM => kk H locs (hM.eq (by rw [show (7 : Int32).toNatClampNeg = 7 by decide, ru11_7])))
theorem ia11_8 {v0 v1 v2 v3 v4 v5 v6 v7 v8 v9 v10 : Int32} (hx : p.tables.exec = Jvm.exec) (hb : c.code = cc) (hK : Kw G s) (hM : Wd G M s H locs) (ha : M a = some (r, .inl (G.2.1 0, 11, .inl (rw11 v0 v1 v2 v3 v4 v5 v6 v7 v8 v9 v10)))) (hdg : decode cc pc = .ok (.iaload, 1)) (kk : W p l e R s m args below meth c H locs cells slots Q (F0 m (pc + 1) ls (.int v8 :: rest))) : W p l e R s m args below meth c H locs cells slots Q (F0 m pc ls (.int 8 :: .ref a :: rest)) :=
  g_iald hx hb hK hM ha (i := 8) (by unfold vp_in; decide) hdg (by rw [show rw11 v0 v1 v2 v3 v4 v5 v6 v7 v8 v9 v10 ((8 : Int32).toNatClampNeg) = v8 from congrArg (rw11 v0 v1 v2 v3 v4 v5 v6 v7 v8 v9 v10) (show (8 : Int32).toNatClampNeg = 8 by decide)]; exact kk)
theorem is11_8 {v0 v1 v2 v3 v4 v5 v6 v7 v8 v9 v10 x : Int32} (hx : p.tables.exec = Jvm.exec) (hb : c.code = cc) (hK : Kw G s) (hM : Wd G M s H locs) (ha : M a = some (r, .inl (G.2.1 0, 11, .inl (rw11 v0 v1 v2 v3 v4 v5 v6 v7 v8 v9 v10)))) (hdg : decode cc pc = .ok (.iastore, 1)) (kk : ∀ (H : Heap) (locs : List Loc), Wd G (hu M a r (.inl (G.2.1 0, 11, .inl (rw11 v0 v1 v2 v3 v4 v5 v6 v7 x v9 v10)))) s H locs → W p l e R s m args below meth c H locs cells slots Q (F0 m (pc + 1) ls rest)) : W p l e R s m args below meth c H locs cells slots Q (F0 m pc ls (.int x :: .int 8 :: .ref a :: rest)) :=
  g_iast hx hb hK hM ha (i := 8) (by unfold vp_in; decide) hdg (fun H locs hM => kk H locs (hM.eq (by rw [show (8 : Int32).toNatClampNeg = 8 by decide, ru11_8])))
theorem ia11_9 {v0 v1 v2 v3 v4 v5 v6 v7 v8 v9 v10 : Int32} (hx : p.tables.exec = Jvm.exec) (hb : c.code = cc) (hK : Kw G s) (hM : Wd G M s H locs) (ha : M a = some (r, .inl (G.2.1 0, 11, .inl (rw11 v0 v1 v2 v3 v4 v5 v6 v7 v8 v9 v10)))) (hdg : decode cc pc = .ok (.iaload, 1)) (kk : W p l e R s m args below meth c H locs cells slots Q (F0 m (pc + 1) ls (.int v9 :: rest))) : W p l e R s m args below meth c H locs cells slots Q (F0 m pc ls (.int 9 :: .ref a :: rest)) :=
  g_iald hx hb hK hM ha (i := 9) (by unfold vp_in; decide) hdg (by rw [show rw11 v0 v1 v2 v3 v4 v5 v6 v7 v8 v9 v10 ((9 : Int32).toNatClampNeg) = v9 from congrArg (rw11 v0 v1 v2 v3 v4 v5 v6 v7 v8 v9 v10) (show (9 : Int32).toNatClampNeg = 9 by decide)]; exact kk)
theorem is11_9 {v0 v1 v2 v3 v4 v5 v6 v7 v8 v9 v10 x : Int32} (hx : p.tables.exec = Jvm.exec) (hb : c.code = cc) (hK : Kw G s) (hM : Wd G M s H locs) (ha : M a = some (r, .inl (G.2.1 0, 11, .inl (rw11 v0 v1 v2 v3 v4 v5 v6 v7 v8 v9 v10)))) (hdg : decode cc pc = .ok (.iastore, 1)) (kk : ∀ (H : Heap) (locs : List Loc), Wd G (hu M a r (.inl (G.2.1 0, 11, .inl (rw11 v0 v1 v2 v3 v4 v5 v6 v7 v8 x v10)))) s H locs → W p l e R s m args below meth c H locs cells slots Q (F0 m (pc + 1) ls rest)) : W p l e R s m args below meth c H locs cells slots Q (F0 m pc ls (.int x :: .int 9 :: .ref a :: rest)) :=
  g_iast hx hb hK hM ha (i := 9) (by unfold vp_in; decide) hdg (fun H locs hM => kk H locs (hM.eq (by rw [show (9 : Int32).toNatClampNeg = 9 by decide, ru11_9])))
theorem ia11_10 {v0 v1 v2 v3 v4 v5 v6 v7 v8 v9 v10 : Int32} (hx : p.tables.exec = Jvm.exec) (hb : c.code = cc) (hK : Kw G s) (hM : Wd G M s H locs) (ha : M a = some (r, .inl (G.2.1 0, 11, .inl (rw11 v0 v1 v2 v3 v4 v5 v6 v7 v8 v9 v10)))) (hdg : decode cc pc = .ok (.iaload, 1)) (kk : W p l e R s m args below meth c H locs cells slots Q (F0 m (pc + 1) ls (.int v10 :: rest))) : W p l e R s m args below meth c H locs cells slots Q (F0 m pc ls (.int 10 :: .ref a :: rest)) :=
  g_iald hx hb hK hM ha (i := 10) (by unfold vp_in; decide) hdg (by rw [show rw11 v0 v1 v2 v3 v4 v5 v6 v7 v8 v9 v10 ((10 : Int32).toNatClampNeg) = v10 from congrArg (rw11 v0 v1 v2 v3 v4 v5 v6 v7 v8 v9 v10) (show (10 : Int32).toNatClampNeg = 10 by decide)]; exact kk)
theorem is11_10 {v0 v1 v2 v3 v4 v5 v6 v7 v8 v9 v10 x : Int32} (hx : p.tables.exec = Jvm.exec) (hb : c.code = cc) (hK : Kw G s) (hM : Wd G M s H locs) (ha : M a = some (r, .inl (G.2.1 0, 11, .inl (rw11 v0 v1 v2 v3 v4 v5 v6 v7 v8 v9 v10)))) (hdg : decode cc pc = .ok (.iastore, 1)) (kk : ∀ (H : Heap) (locs : List Loc), Wd G (hu M a r (.inl (G.2.1 0, 11, .inl (rw11 v0 v1 v2 v3 v4 v5 v6 v7 v8 v9 x)))) s H locs → W p l e R s m args below meth c H locs cells slots Q (F0 m (pc + 1) ls rest)) : W p l e R s m args below meth c H locs cells slots Q (F0 m pc ls (.int x :: .int 10 :: .ref a :: rest)) :=
  g_iast hx hb hK hM ha (i := 10) (by unfold vp_in; decide) hdg (fun H locs hM => kk H locs (hM.eq (by rw [show (10 : Int32).toNatClampNeg = 10 by decide, ru11_10])))
theorem ia13_0 {v0 v1 v2 v3 v4 v5 v6 v7 v8 v9 v10 v11 v12 : Int32} (hx : p.tables.exec = Jvm.exec) (hb : c.code = cc) (hK : Kw G s) (hM : Wd G M s H locs) (ha : M a = some (r, .inl (G.2.1 0, 13, .inl (rw13 v0 v1 v2 v3 v4 v5 v6 v7 v8 v9 v10 v11 v12)))) (hdg : decode cc pc = .ok (.iaload, 1)) (kk : W p l e R s m args below meth c H locs cells slots Q (F0 m (pc + 1) ls (.int v0 :: rest))) : W p l e R s m args below meth c H locs cells slots Q (F0 m pc ls (.int 0 :: .ref a :: rest)) :=
  g_iald hx hb hK hM ha (i := 0) (by unfold vp_in; decide) hdg (by rw [show rw13 v0 v1 v2 v3 v4 v5 v6 v7 v8 v9 v10 v11 v12 ((0 : Int32).toNatClampNeg) = v0 from congrArg (rw13 v0 v1 v2 v3 v4 v5 v6 v7 v8 v9 v10 v11 v12) (show (0 : Int32).toNatClampNeg = 0 by decide)]; exact kk)
theorem is13_0 {v0 v1 v2 v3 v4 v5 v6 v7 v8 v9 v10 v11 v12 x : Int32} (hx : p.tables.exec = Jvm.exec) (hb : c.code = cc) (hK : Kw G s) (hM : Wd G M s H locs) (ha : M a = some (r, .inl (G.2.1 0, 13, .inl (rw13 v0 v1 v2 v3 v4 v5 v6 v7 v8 v9 v10 v11 v12)))) (hdg : decode cc pc = .ok (.iastore, 1)) (kk : ∀ (H : Heap) (locs : List Loc), Wd G (hu M a r (.inl (G.2.1 0, 13, .inl (rw13 x v1 v2 v3 v4 v5 v6 v7 v8 v9 v10 v11 v12)))) s H locs → W p l e R s m args below meth c H locs cells slots Q (F0 m (pc + 1) ls rest)) : W p l e R s m args below meth c H locs cells slots Q (F0 m pc ls (.int x :: .int 0 :: .ref a :: rest)) :=
  g_iast hx hb hK hM ha (i := 0) (by unfold vp_in; decide) hdg (fun H locs hM => kk H locs (hM.eq (by rw [show (0 : Int32).toNatClampNeg = 0 by decide, ru13_0])))
theorem ia13_1 {v0 v1 v2 v3 v4 v5 v6 v7 v8 v9 v10 v11 v12 : Int32} (hx : p.tables.exec = Jvm.exec) (hb : c.code = cc) (hK : Kw G s) (hM : Wd G M s H locs) (ha : M a = some (r, .inl (G.2.1 0, 13, .inl (rw13 v0 v1 v2 v3 v4 v5 v6 v7 v8 v9 v10 v11 v12)))) (hdg : decode cc pc = .ok (.iaload, 1)) (kk : W p l e R s m args below meth c H locs cells slots Q (F0 m (pc + 1) ls (.int v1 :: rest))) : W p l e R s m args below meth c H locs cells slots Q (F0 m pc ls (.int 1 :: .ref a :: rest)) :=
  g_iald hx hb hK hM ha (i := 1) (by unfold vp_in; decide) hdg (by rw [show rw13 v0 v1 v2 v3 v4 v5 v6 v7 v8 v9 v10 v11 v12 ((1 : Int32).toNatClampNeg) = v1 from congrArg (rw13 v0 v1 v2 v3 v4 v5 v6 v7 v8 v9 v10 v11 v12) (show (1 : Int32).toNatClampNeg = 1 by decide)]; exact kk)
theorem is13_1 {v0 v1 v2 v3 v4 v5 v6 v7 v8 v9 v10 v11 v12 x : Int32} (hx : p.tables.exec = Jvm.exec) (hb : c.code = cc) (hK : Kw G s) (hM : Wd G M s H locs) (ha : M a = some (r, .inl (G.2.1 0, 13, .inl (rw13 v0 v1 v2 v3 v4 v5 v6 v7 v8 v9 v10 v11 v12)))) (hdg : decode cc pc = .ok (.iastore, 1)) (kk : ∀ (H : Heap) (locs : List Loc), Wd G (hu M a r (.inl (G.2.1 0, 13, .inl (rw13 v0 x v2 v3 v4 v5 v6 v7 v8 v9 v10 v11 v12)))) s H locs → W p l e R s m args below meth c H locs cells slots Q (F0 m (pc + 1) ls rest)) : W p l e R s m args below meth c H locs cells slots Q (F0 m pc ls (.int x :: .int 1 :: .ref a :: rest)) :=
  g_iast hx hb hK hM ha (i := 1) (by unfold vp_in; decide) hdg (fun H locs hM => kk H locs (hM.eq (by rw [show (1 : Int32).toNatClampNeg = 1 by decide, ru13_1])))
theorem ia13_2 {v0 v1 v2 v3 v4 v5 v6 v7 v8 v9 v10 v11 v12 : Int32} (hx : p.tables.exec = Jvm.exec) (hb : c.code = cc) (hK : Kw G s) (hM : Wd G M s H locs) (ha : M a = some (r, .inl (G.2.1 0, 13, .inl (rw13 v0 v1 v2 v3 v4 v5 v6 v7 v8 v9 v10 v11 v12)))) (hdg : decode cc pc = .ok (.iaload, 1)) (kk : W p l e R s m args below meth c H locs cells slots Q (F0 m (pc + 1) ls (.int v2 :: rest))) : W p l e R s m args below meth c H locs cells slots Q (F0 m pc ls (.int 2 :: .ref a :: rest)) :=
  g_iald hx hb hK hM ha (i := 2) (by unfold vp_in; decide) hdg (by rw [show rw13 v0 v1 v2 v3 v4 v5 v6 v7 v8 v9 v10 v11 v12 ((2 : Int32).toNatClampNeg) = v2 from congrArg (rw13 v0 v1 v2 v3 v4 v5 v6 v7 v8 v9 v10 v11 v12) (show (2 : Int32).toNatClampNeg = 2 by decide)]; exact kk)
theorem is13_2 {v0 v1 v2 v3 v4 v5 v6 v7 v8 v9 v10 v11 v12 x : Int32} (hx : p.tables.exec = Jvm.exec) (hb : c.code = cc) (hK : Kw G s) (hM : Wd G M s H locs) (ha : M a = some (r, .inl (G.2.1 0, 13, .inl (rw13 v0 v1 v2 v3 v4 v5 v6 v7 v8 v9 v10 v11 v12)))) (hdg : decode cc pc = .ok (.iastore, 1)) (kk : ∀ (H : Heap) (locs : List Loc), Wd G (hu M a r (.inl (G.2.1 0, 13, .inl (rw13 v0 v1 x v3 v4 v5 v6 v7 v8 v9 v10 v11 v12)))) s H locs → W p l e R s m args below meth c H locs cells slots Q (F0 m (pc + 1) ls rest)) : W p l e R s m args below meth c H locs cells slots Q (F0 m pc ls (.int x :: .int 2 :: .ref a :: rest)) :=
  g_iast hx hb hK hM ha (i := 2) (by unfold vp_in; decide) hdg (fun H locs hM => kk H locs (hM.eq (by rw [show (2 : Int32).toNatClampNeg = 2 by decide, ru13_2])))
theorem ia13_3 {v0 v1 v2 v3 v4 v5 v6 v7 v8 v9 v10 v11 v12 : Int32} (hx : p.tables.exec = Jvm.exec) (hb : c.code = cc) (hK : Kw G s) (hM : Wd G M s H locs) (ha : M a = some (r, .inl (G.2.1 0, 13, .inl (rw13 v0 v1 v2 v3 v4 v5 v6 v7 v8 v9 v10 v11 v12)))) (hdg : decode cc pc = .ok (.iaload, 1)) (kk : W p l e R s m args below meth c H locs cells slots Q (F0 m (pc + 1) ls (.int v3 :: rest))) : W p l e R s m args below meth c H locs cells slots Q (F0 m pc ls (.int 3 :: .ref a :: rest)) :=
  g_iald hx hb hK hM ha (i := 3) (by unfold vp_in; decide) hdg (by rw [show rw13 v0 v1 v2 v3 v4 v5 v6 v7 v8 v9 v10 v11 v12 ((3 : Int32).toNatClampNeg) = v3 from congrArg (rw13 v0 v1 v2 v3 v4 v5 v6 v7 v8 v9 v10 v11 v12) (show (3 : Int32).toNatClampNeg = 3 by decide)]; exact kk)
theorem is13_3 {v0 v1 v2 v3 v4 v5 v6 v7 v8 v9 v10 v11 v12 x : Int32} (hx : p.tables.exec = Jvm.exec) (hb : c.code = cc) (hK : Kw G s) (hM : Wd G M s H locs) (ha : M a = some (r, .inl (G.2.1 0, 13, .inl (rw13 v0 v1 v2 v3 v4 v5 v6 v7 v8 v9 v10 v11 v12)))) (hdg : decode cc pc = .ok (.iastore, 1)) (kk : ∀ (H : Heap) (locs : List Loc), Wd G (hu M a r (.inl (G.2.1 0, 13, .inl (rw13 v0 v1 v2 x v4 v5 v6 v7 v8 v9 v10 v11 v12)))) s H locs → W p l e R s m args below meth c H locs cells slots Q (F0 m (pc + 1) ls rest)) : W p l e R s m args below meth c H locs cells slots Q (F0 m pc ls (.int x :: .int 3 :: .ref a :: rest)) :=
  g_iast hx hb hK hM ha (i := 3) (by unfold vp_in; decide) hdg (fun H locs hM => kk H locs (hM.eq (by rw [show (3 : Int32).toNatClampNeg = 3 by decide, ru13_3])))
theorem ia13_4 {v0 v1 v2 v3 v4 v5 v6 v7 v8 v9 v10 v11 v12 : Int32} (hx : p.tables.exec = Jvm.exec) (hb : c.code = cc) (hK : Kw G s) (hM : Wd G M s H locs) (ha : M a = some (r, .inl (G.2.1 0, 13, .inl (rw13 v0 v1 v2 v3 v4 v5 v6 v7 v8 v9 v10 v11 v12)))) (hdg : decode cc pc = .ok (.iaload, 1)) (kk : W p l e R s m args below meth c H locs cells slots Q (F0 m (pc + 1) ls (.int v4 :: rest))) : W p l e R s m args below meth c H locs cells slots Q (F0 m pc ls (.int 4 :: .ref a :: rest)) :=
  g_iald hx hb hK hM ha (i := 4) (by unfold vp_in; decide) hdg (by rw [show rw13 v0 v1 v2 v3 v4 v5 v6 v7 v8 v9 v10 v11 v12 ((4 : Int32).toNatClampNeg) = v4 from congrArg (rw13 v0 v1 v2 v3 v4 v5 v6 v7 v8 v9 v10 v11 v12) (show (4 : Int32).toNatClampNeg = 4 by decide)]; exact kk)
theorem is13_4 {v0 v1 v2 v3 v4 v5 v6 v7 v8 v9 v10 v11 v12 x : Int32} (hx : p.tables.exec = Jvm.exec) (hb : c.code = cc) (hK : Kw G s) (hM : Wd G M s H locs) (ha : M a = some (r, .inl (G.2.1 0, 13, .inl (rw13 v0 v1 v2 v3 v4 v5 v6 v7 v8 v9 v10 v11 v12)))) (hdg : decode cc pc = .ok (.iastore, 1)) (kk : ∀ (H : Heap) (locs : List Loc), Wd G (hu M a r (.inl (G.2.1 0, 13, .inl (rw13 v0 v1 v2 v3 x v5 v6 v7 v8 v9 v10 v11 v12)))) s H locs → W p l e R s m args below meth c H locs cells slots Q (F0 m (pc + 1) ls rest)) : W p l e R s m args below meth c H locs cells slots Q (F0 m pc ls (.int x :: .int 4 :: .ref a :: rest)) :=
  g_iast hx hb hK hM ha (i := 4) (by unfold vp_in; decide) hdg (fun H locs hM => kk H locs (hM.eq (by rw [show (4 : Int32).toNatClampNeg = 4 by decide, ru13_4])))
theorem ia13_5 {v0 v1 v2 v3 v4 v5 v6 v7 v8 v9 v10 v11 v12 : Int32} (hx : p.tables.exec = Jvm.exec) (hb : c.code = cc) (hK : Kw G s) (hM : Wd G M s H locs) (ha : M a = some (r, .inl (G.2.1 0, 13, .inl (rw13 v0 v1 v2 v3 v4 v5 v6 v7 v8 v9 v10 v11 v12)))) (hdg : decode cc pc = .ok (.iaload, 1)) (kk : W p l e R s m args below meth c H locs cells slots Q (F0 m (pc + 1) ls (.int v5 :: rest))) : W p l e R s m args below meth c H locs cells slots Q (F0 m pc ls (.int 5 :: .ref a :: rest)) :=
  g_iald hx hb hK hM ha (i := 5) (by unfold vp_in; decide) hdg (by rw [show rw13 v0 v1 v2 v3 v4 v5 v6 v7 v8 v9 v10 v11 v12 ((5 : Int32).toNatClampNeg) = v5 from congrArg (rw13 v0 v1 v2 v3 v4 v5 v6 v7 v8 v9 v10 v11 v12) (show (5 : Int32).toNatClampNeg = 5 by decide)]; exact kk)
theorem is13_5 {v0 v1 v2 v3 v4 v5 v6 v7 v8 v9 v10 v11 v12 x : Int32} (hx : p.tables.exec = Jvm.exec) (hb : c.code = cc) (hK : Kw G s) (hM : Wd G M s H locs) (ha : M a = some (r, .inl (G.2.1 0, 13, .inl (rw13 v0 v1 v2 v3 v4 v5 v6 v7 v8 v9 v10 v11 v12)))) (hdg : decode cc pc = .ok (.iastore, 1)) (kk : ∀ (H : Heap) (locs : List Loc), Wd G (hu M a r (.inl (G.2.1 0, 13, .inl (rw13 v0 v1 v2 v3 v4 x v6 v7 v8 v9 v10 v11 v12)))) s H locs → W p l e R s m args below meth c H locs cells slots Q (F0 m (pc + 1) ls rest)) : W p l e R s m args below meth c H locs cells slots Q (F0 m pc ls (.int x :: .int 5 :: .ref a :: rest)) :=
  g_iast hx hb hK hM ha (i := 5) (by unfold vp_in; decide) hdg (fun H locs hM => kk H locs (hM.eq (by rw [show (5 : Int32).toNatClampNeg = 5 by decide, ru13_5])))
theorem ia13_6 {v0 v1 v2 v3 v4 v5 v6 v7 v8 v9 v10 v11 v12 : Int32} (hx : p.tables.exec = Jvm.exec) (hb : c.code = cc) (hK : Kw G s) (hM : Wd G M s H locs) (ha : M a = some (r, .inl (G.2.1 0, 13, .inl (rw13 v0 v1 v2 v3 v4 v5 v6 v7 v8 v9 v10 v11 v12)))) (hdg : decode cc pc = .ok (.iaload, 1)) (kk : W p l e R s m args below meth c H locs cells slots Q (F0 m (pc + 1) ls (.int v6 :: rest))) : W p l e R s m args below meth c H locs cells slots Q (F0 m pc ls (.int 6 :: .ref a :: rest)) :=
  g_iald hx hb hK hM ha (i := 6) (by unfold vp_in; decide) hdg (by rw [show rw13 v0 v1 v2 v3 v4 v5 v6 v7 v8 v9 v10 v11 v12 ((6 : Int32).toNatClampNeg) = v6 from congrArg (rw13 v0 v1 v2 v3 v4 v5 v6 v7 v8 v9 v10 v11 v12) (show (6 : Int32).toNatClampNeg = 6 by decide)]; exact kk)
theorem is13_6 {v0 v1 v2 v3 v4 v5 v6 v7 v8 v9 v10 v11 v12 x : Int32} (hx : p.tables.exec = Jvm.exec) (hb : c.code = cc) (hK : Kw G s) (hM : Wd G M s H locs) (ha : M a = some (r, .inl (G.2.1 0, 13, .inl (rw13 v0 v1 v2 v3 v4 v5 v6 v7 v8 v9 v10 v11 v12)))) (hdg : decode cc pc = .ok (.iastore, 1)) (kk : ∀ (H : Heap) (locs : List Loc), Wd G (hu M a r (.inl (G.2.1 0, 13, .inl (rw13 v0 v1 v2 v3 v4 v5 x v7 v8 v9 v10 v11 v12)))) s H locs → W p l e R s m args below meth c H locs cells slots Q (F0 m (pc + 1) ls rest)) : W p l e R s m args below meth c H locs cells slots Q (F0 m pc ls (.int x :: .int 6 :: .ref a :: rest)) :=
  g_iast hx hb hK hM ha (i := 6) (by unfold vp_in; decide) hdg (fun H locs hM => kk H locs (hM.eq (by rw [show (6 : Int32).toNatClampNeg = 6 by decide, ru13_6])))
theorem ia13_7 {v0 v1 v2 v3 v4 v5 v6 v7 v8 v9 v10 v11 v12 : Int32} (hx : p.tables.exec = Jvm.exec) (hb : c.code = cc) (hK : Kw G s) (hM : Wd G M s H locs) (ha : M a = some (r, .inl (G.2.1 0, 13, .inl (rw13 v0 v1 v2 v3 v4 v5 v6 v7 v8 v9 v10 v11 v12)))) (hdg : decode cc pc = .ok (.iaload, 1)) (kk : W p l e R s m args below meth c H locs cells slots Q (F0 m (pc + 1) ls (.int v7 :: rest))) : W p l e R s m args below meth c H locs cells slots Q (F0 m pc ls (.int 7 :: .ref a :: rest)) :=
  g_iald hx hb hK hM ha (i := 7) (by unfold vp_in; decide) hdg (by rw [show rw13 v0 v1 v2 v3 v4 v5 v6 v7 v8 v9 v10 v11 v12 ((7 : Int32).toNatClampNeg) = v7 from congrArg (rw13 v0 v1 v2 v3 v4 v5 v6 v7 v8 v9 v10 v11 v12) (show (7 : Int32).toNatClampNeg = 7 by decide)]; exact kk)
theorem is13_7 {v0 v1 v2 v3 v4 v5 v6 v7 v8 v9 v10 v11 v12 x : Int32} (hx : p.tables.exec = Jvm.exec) (hb : c.code = cc) (hK : Kw G s) (hM : Wd G M s H locs) (ha : M a = some (r, .inl (G.2.1 0, 13, .inl (rw13 v0 v1 v2 v3 v4 v5 v6 v7 v8 v9 v10 v11 v12)))) (hdg : decode cc pc = .ok (.iastore, 1)) (kk : ∀ (H : Heap) (locs : List Loc), Wd G (hu M a r (.inl (G.2.1 0, 13, .inl (rw13 v0 v1 v2 v3 v4 v5 v6 x v8 v9 v10 v11 v12)))) s H locs → W p l e R s m args below meth c H locs cells slots Q (F0 m (pc + 1) ls rest)) : W p l e R s m args below meth c H locs cells slots Q (F0 m pc ls (.int x :: .int 7 :: .ref a :: rest)) :=
  g_iast hx hb hK hM ha (i := 7) (by unfold vp_in; decide) hdg (fun H locs hM => kk H locs (hM.eq (by rw [show (7 : Int32).toNatClampNeg = 7 by decide, ru13_7])))
theorem ia13_8 {v0 v1 v2 v3 v4 v5 v6 v7 v8 v9 v10 v11 v12 : Int32} (hx : p.tables.exec = Jvm.exec) (hb : c.code = cc) (hK : Kw G s) (hM : Wd G M s H locs) (ha : M a = some (r, .inl (G.2.1 0, 13, .inl (rw13 v0 v1 v2 v3 v4 v5 v6 v7 v8 v9 v10 v11 v12)))) (hdg : decode cc pc = .ok (.iaload, 1)) (kk : W p l e R s m args below meth c H locs cells slots Q (F0 m (pc + 1) ls (.int v8 :: rest))) : W p l e R s m args below meth c H locs cells slots Q (F0 m pc ls (.int 8 :: .ref a :: rest)) :=
  g_iald hx hb hK hM ha (i := 8) (by unfold vp_in; decide) hdg (by rw [show rw13 v0 v1 v2 v3 v4 v5 v6 v7 v8 v9 v10 v11 v12 ((8 : Int32).toNatClampNeg) = v8 from congrArg (rw13 v0 v1 v2 v3 v4 v5 v6 v7 v8 v9 v10 v11 v12) (show (8 : Int32).toNatClampNeg = 8 by decide)]; exact kk)
theorem is13_8 {v0 v1 v2 v3 v4 v5 v6 v7 v8 v9 v10 v11 v12 x : Int32} (hx : p.tables.exec = Jvm.exec) (hb : c.code = cc) (hK : Kw G s) (hM : Wd G M s H locs) (ha : M a = some (r, .inl (G.2.1 0, 13, .inl (rw13 v0 v1 v2 v3 v4 v5 v6 v7 v8 v9 v10 v11 v12)))) (hdg : decode cc pc = .ok (.iastore, 1)) (kk : ∀ (H : Heap) (locs : List Loc), Wd G (hu M a r (.inl (G.2.1 0, 13, .inl (rw13 v0 v1 v2 v3 v4 v5 v6 v7 x v9 v10 v11 v12)))) s H locs → W p l e R s m args below meth c H locs cells slots Q (F0 m (pc + 1) ls rest)) : W p l e R s m args below meth c H locs cells slots Q (F0 m pc ls (.int x :: .int 8 :: .ref a :: rest)) :=
  g_iast hx hb hK hM ha (i := 8) (by unfold vp_in; decide) hdg (fun H locs hM => kk H locs (hM.eq (by rw [show (8 : Int32).toNatClampNeg = 8 by decide, ru13_8])))
theorem ia13_9 {v0 v1 v2 v3 v4 v5 v6 v7 v8 v9 v10 v11 v12 : Int32} (hx : p.tables.exec = Jvm.exec) (hb : c.code = cc) (hK : Kw G s) (hM : Wd G M s H locs) (ha : M a = some (r, .inl (G.2.1 0, 13, .inl (rw13 v0 v1 v2 v3 v4 v5 v6 v7 v8 v9 v10 v11 v12)))) (hdg : decode cc pc = .ok (.iaload, 1)) (kk : W p l e R s m args below meth c H locs cells slots Q (F0 m (pc + 1) ls (.int v9 :: rest))) : W p l e R s m args below meth c H locs cells slots Q (F0 m pc ls (.int 9 :: .ref a :: rest)) :=
  g_iald hx hb hK hM ha (i := 9) (by unfold vp_in; decide) hdg (by rw [show rw13 v0 v1 v2 v3 v4 v5 v6 v7 v8 v9 v10 v11 v12 ((9 : Int32).toNatClampNeg) = v9 from congrArg (rw13 v0 v1 v2 v3 v4 v5 v6 v7 v8 v9 v10 v11 v12) (show (9 : Int32).toNatClampNeg = 9 by decide)]; exact kk)
theorem is13_9 {v0 v1 v2 v3 v4 v5 v6 v7 v8 v9 v10 v11 v12 x : Int32} (hx : p.tables.exec = Jvm.exec) (hb : c.code = cc) (hK : Kw G s) (hM : Wd G M s H locs) (ha : M a = some (r, .inl (G.2.1 0, 13, .inl (rw13 v0 v1 v2 v3 v4 v5 v6 v7 v8 v9 v10 v11 v12)))) (hdg : decode cc pc = .ok (.iastore, 1)) (kk : ∀ (H : Heap) (locs : List Loc), Wd G (hu M a r (.inl (G.2.1 0, 13, .inl (rw13 v0 v1 v2 v3 v4 v5 v6 v7 v8 x v10 v11 v12)))) s H locs → W p l e R s m args below meth c H locs cells slots Q (F0 m (pc + 1) ls rest)) : W p l e R s m args below meth c H locs cells slots Q (F0 m pc ls (.int x :: .int 9 :: .ref a :: rest)) :=
  g_iast hx hb hK hM ha (i := 9) (by unfold vp_in; decide) hdg (fun H locs hM => kk H locs (hM.eq (by rw [show (9 : Int32).toNatClampNeg = 9 by decide, ru13_9])))
theorem ia13_10 {v0 v1 v2 v3 v4 v5 v6 v7 v8 v9 v10 v11 v12 : Int32} (hx : p.tables.exec = Jvm.exec) (hb : c.code = cc) (hK : Kw G s) (hM : Wd G M s H locs) (ha : M a = some (r, .inl (G.2.1 0, 13, .inl (rw13 v0 v1 v2 v3 v4 v5 v6 v7 v8 v9 v10 v11 v12)))) (hdg : decode cc pc = .ok (.iaload, 1)) (kk : W p l e R s m args below meth c H locs cells slots Q (F0 m (pc + 1) ls (.int v10 :: rest))) : W p l e R s m args below meth c H locs cells slots Q (F0 m pc ls (.int 10 :: .ref a :: rest)) :=
  g_iald hx hb hK hM ha (i := 10) (by unfold vp_in; decide) hdg (by rw [show rw13 v0 v1 v2 v3 v4 v5 v6 v7 v8 v9 v10 v11 v12 ((10 : Int32).toNatClampNeg) = v10 from congrArg (rw13 v0 v1 v2 v3 v4 v5 v6 v7 v8 v9 v10 v11 v12) (show (10 : Int32).toNatClampNeg = 10 by decide)]; exact kk)
theorem is13_10 {v0 v1 v2 v3 v4 v5 v6 v7 v8 v9 v10 v11 v12 x : Int32} (hx : p.tables.exec = Jvm.exec) (hb : c.code = cc) (hK : Kw G s) (hM : Wd G M s H locs) (ha : M a = some (r, .inl (G.2.1 0, 13, .inl (rw13 v0 v1 v2 v3 v4 v5 v6 v7 v8 v9 v10 v11 v12)))) (hdg : decode cc pc = .ok (.iastore, 1)) (kk : ∀ (H : Heap) (locs : List Loc), Wd G (hu M a r (.inl (G.2.1 0, 13, .inl (rw13 v0 v1 v2 v3 v4 v5 v6 v7 v8 v9 x v11 v12)))) s H locs → W p l e R s m args below meth c H locs cells slots Q (F0 m (pc + 1) ls rest)) : W p l e R s m args below meth c H locs cells slots Q (F0 m pc ls (.int x :: .int 10 :: .ref a :: rest)) :=
  g_iast hx hb hK hM ha (i := 10) (by unfold vp_in; decide) hdg (fun H locs hM => kk H locs (hM.eq (by rw [show (10 : Int32).toNatClampNeg = 10 by decide, ru13_10])))
theorem ia13_11 {v0 v1 v2 v3 v4 v5 v6 v7 v8 v9 v10 v11 v12 : Int32} (hx : p.tables.exec = Jvm.exec) (hb : c.code = cc) (hK : Kw G s) (hM : Wd G M s H locs) (ha : M a = some (r, .inl (G.2.1 0, 13, .inl (rw13 v0 v1 v2 v3 v4 v5 v6 v7 v8 v9 v10 v11 v12)))) (hdg : decode cc pc = .ok (.iaload, 1)) (kk : W p l e R s m args below meth c H locs cells slots Q (F0 m (pc + 1) ls (.int v11 :: rest))) : W p l e R s m args below meth c H locs cells slots Q (F0 m pc ls (.int 11 :: .ref a :: rest)) :=
  g_iald hx hb hK hM ha (i := 11) (by unfold vp_in; decide) hdg (by rw [show rw13 v0 v1 v2 v3 v4 v5 v6 v7 v8 v9 v10 v11 v12 ((11 : Int32).toNatClampNeg) = v11 from congrArg (rw13 v0 v1 v2 v3 v4 v5 v6 v7 v8 v9 v10 v11 v12) (show (11 : Int32).toNatClampNeg = 11 by decide)]; exact kk)
theorem is13_11 {v0 v1 v2 v3 v4 v5 v6 v7 v8 v9 v10 v11 v12 x : Int32} (hx : p.tables.exec = Jvm.exec) (hb : c.code = cc) (hK : Kw G s) (hM : Wd G M s H locs) (ha : M a = some (r, .inl (G.2.1 0, 13, .inl (rw13 v0 v1 v2 v3 v4 v5 v6 v7 v8 v9 v10 v11 v12)))) (hdg : decode cc pc = .ok (.iastore, 1)) (kk : ∀ (H : Heap) (locs : List Loc), Wd G (hu M a r (.inl (G.2.1 0, 13, .inl (rw13 v0 v1 v2 v3 v4 v5 v6 v7 v8 v9 v10 x v12)))) s H locs → W p l e R s m args below meth c H locs cells slots Q (F0 m (pc + 1) ls rest)) : W p l e R s m args below meth c H locs cells slots Q (F0 m pc ls (.int x :: .int 11 :: .ref a :: rest)) :=
  g_iast hx hb hK hM ha (i := 11) (by unfold vp_in; decide) hdg (fun H locs hM => kk H locs (hM.eq (by rw [show (11 : Int32).toNatClampNeg = 11 by decide, ru13_11])))
theorem ia13_12 {v0 v1 v2 v3 v4 v5 v6 v7 v8 v9 v10 v11 v12 : Int32} (hx : p.tables.exec = Jvm.exec) (hb : c.code = cc) (hK : Kw G s) (hM : Wd G M s H locs) (ha : M a = some (r, .inl (G.2.1 0, 13, .inl (rw13 v0 v1 v2 v3 v4 v5 v6 v7 v8 v9 v10 v11 v12)))) (hdg : decode cc pc = .ok (.iaload, 1)) (kk : W p l e R s m args below meth c H locs cells slots Q (F0 m (pc + 1) ls (.int v12 :: rest))) : W p l e R s m args below meth c H locs cells slots Q (F0 m pc ls (.int 12 :: .ref a :: rest)) :=
  g_iald hx hb hK hM ha (i := 12) (by unfold vp_in; decide) hdg (by rw [show rw13 v0 v1 v2 v3 v4 v5 v6 v7 v8 v9 v10 v11 v12 ((12 : Int32).toNatClampNeg) = v12 from congrArg (rw13 v0 v1 v2 v3 v4 v5 v6 v7 v8 v9 v10 v11 v12) (show (12 : Int32).toNatClampNeg = 12 by decide)]; exact kk)
theorem is13_12 {v0 v1 v2 v3 v4 v5 v6 v7 v8 v9 v10 v11 v12 x : Int32} (hx : p.tables.exec = Jvm.exec) (hb : c.code = cc) (hK : Kw G s) (hM : Wd G M s H locs) (ha : M a = some (r, .inl (G.2.1 0, 13, .inl (rw13 v0 v1 v2 v3 v4 v5 v6 v7 v8 v9 v10 v11 v12)))) (hdg : decode cc pc = .ok (.iastore, 1)) (kk : ∀ (H : Heap) (locs : List Loc), Wd G (hu M a r (.inl (G.2.1 0, 13, .inl (rw13 v0 v1 v2 v3 v4 v5 v6 v7 v8 v9 v10 v11 x)))) s H locs → W p l e R s m args below meth c H locs cells slots Q (F0 m (pc + 1) ls rest)) : W p l e R s m args below meth c H locs cells slots Q (F0 m pc ls (.int x :: .int 12 :: .ref a :: rest)) :=
  g_iast hx hb hK hM ha (i := 12) (by unfold vp_in; decide) hdg (fun H locs hM => kk H locs (hM.eq (by rw [show (12 : Int32).toNatClampNeg = 12 by decide, ru13_12])))
end GF
end

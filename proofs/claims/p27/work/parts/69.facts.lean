/-! what is so of what is found -/
section FF
variable {L : Nat} {xs : Nat → Int32}
theorem fdA_at (d k : Nat) (T : Tb) : fdA L xs d k T 0 k = upd (upd (fdR L xs d) 6 (nI (70 + drN L xs (d + 5) 31))) 7 (nI (8 + drN L xs (d + 6) 14)) := by
  unfold fdA
  rw [tu_s, tu_s]
theorem fdA_o (d k i : Nat) (T : Tb) (h : i ≠ k) : fdA L xs d k T 0 i = T 0 i := by
  unfold fdA
  rw [tu_i h, tu_i h, tu_i h]
theorem fdA_k (d k q i : Nat) (T : Tb) (h : q ≠ 0) : fdA L xs d k T q i = T q i := by
  unfold fdA
  rw [tu_k h, tu_k h, tu_k h]
theorem fd_IF (d : Nat) : IF (upd (upd (fdR L xs d) 6 (nI (70 + drN L xs (d + 5) 31))) 7 (nI (8 + drN L xs (d + 6) 14))) := by
  have h0 := drN_lt (L := L) (xs := xs) (d := d) (n := 4) (by decide)
  have h2 := drN_lt (L := L) (xs := xs) (d := d + 2) (n := 100) (by decide)
  have h3 := drN_lt (L := L) (xs := xs) (d := d + 3) (n := 81) (by decide)
  have e0 : upd (upd (fdR L xs d) 6 (nI (70 + drN L xs (d + 5) 31))) 7 (nI (8 + drN L xs (d + 6) 14)) 0 = nI (drN L xs d 4) := by rw [upd_o (by decide), upd_o (by decide)]; rfl
  have e2 : upd (upd (fdR L xs d) 6 (nI (70 + drN L xs (d + 5) 31))) 7 (nI (8 + drN L xs (d + 6) 14)) 2 = nI (20 + drN L xs (d + 2) 100) := by rw [upd_o (by decide), upd_o (by decide)]; rfl
  have e3 : upd (upd (fdR L xs d) 6 (nI (70 + drN L xs (d + 5) 31))) 7 (nI (8 + drN L xs (d + 6) 14)) 3 = nI (10 + drN L xs (d + 3) 81) := by rw [upd_o (by decide), upd_o (by decide)]; rfl
  have e5 : upd (upd (fdR L xs d) 6 (nI (70 + drN L xs (d + 5) 31))) 7 (nI (8 + drN L xs (d + 6) 14)) 5 = 0 := by rw [upd_o (by decide), upd_o (by decide)]; rfl
  have e8 : upd (upd (fdR L xs d) 6 (nI (70 + drN L xs (d + 5) 31))) 7 (nI (8 + drN L xs (d + 6) 14)) 8 = 0 := by rw [upd_o (by decide), upd_o (by decide)]; rfl
  unfold IF
  rw [e0, e2, e3, e5, e8, nI_toInt (by omega), nI_toInt (by omega), nI_toInt (by omega), Int32.toInt_zero]
  omega
theorem ffT_f (d : Nat) : ∀ k, ∀ i, i < k → IF (ffT L xs d k 0 i) ∧ ffT L xs d k 0 i 3 = ffB L xs d i
  | 0, i, hi => absurd hi (Nat.not_lt_zero _)
  | k + 1, i, hi => by
    show IF (fdA L xs (d + 7 * k) k (ffT L xs d k) 0 i) ∧ fdA L xs (d + 7 * k) k (ffT L xs d k) 0 i 3 = ffB L xs d i
    by_cases z : i = k
    · subst z
      rw [fdA_at]
      exact ⟨fd_IF _, by rw [upd_o (by decide), upd_o (by decide)]; rfl⟩
    · rw [fdA_o _ _ _ _ z]
      exact ffT_f d k i (by omega)
theorem fcT_f (d : Nat) : ∀ k, (∀ i, fcT L xs d k 0 i = ffT L xs d 4 0 i) ∧ (∀ i, i < k → IC2 (fcT L xs d k 1 i)) ∧ ∀ i, i < k → IT2 (fcT L xs d k 2 i)
  | 0 => ⟨fun _ => rfl, fun i hi => absurd hi (Nat.not_lt_zero _), fun i hi => absurd hi (Nat.not_lt_zero _)⟩
  | k + 1 => by
    obtain ⟨a1, a2, a3⟩ := fcT_f d k
    show (∀ i, fcA L xs (d + 28 + 3 * k) k (fcT L xs d k) 0 i = _) ∧ (∀ i, i < k + 1 → IC2 (fcA L xs (d + 28 + 3 * k) k (fcT L xs d k) 1 i)) ∧ ∀ i, i < k + 1 → IT2 (fcA L xs (d + 28 + 3 * k) k (fcT L xs d k) 2 i)
    unfold fcA
    refine ⟨fun i => ?_, fun i hi => ?_, fun i hi => ?_⟩
    · rw [tu_k (by decide), tu_k (by decide)]
      exact a1 i
    · rw [tu_k (by decide : (1 : Nat) ≠ 2)]
      by_cases z : i = k
      · subst z
        rw [tu_s]
        have h := drN_lt (L := L) (xs := xs) (d := d + 28 + 3 * i + 1) (n := 20) (by decide)
        refine ⟨?_, ⟨by show 0 ≤ (0 : Int32).toInt; decide, by show (0 : Int32).toInt ≤ 400; decide⟩, Or.inl rfl⟩
        show 1 ≤ (nI (1 + drN L xs (d + 28 + 3 * i + 1) 20)).toInt ∧ (nI (1 + drN L xs (d + 28 + 3 * i + 1) 20)).toInt ≤ 20
        rw [nI_toInt (by omega)]
        omega
      · rw [tu_i z]
        exact a2 i (by omega)
    · by_cases z : i = k
      · subst z
        rw [tu_s]
        exact ⟨by show 0 ≤ (0 : Int32).toInt; decide, by show (0 : Int32).toInt ≤ 800; decide⟩
      · rw [tu_i z, tu_k (by decide)]
        exact a3 i (by omega)
theorem fdT_f (d : Nat) : Iv 4 2 2 (fdT L xs d) ∧ ∀ i, i < 4 → fdT L xs d 0 i 3 = ffB L xs d i := by
  obtain ⟨a1, a2, a3⟩ := fcT_f (L := L) (xs := xs) d 2
  have e : ∀ k i, k ≠ 3 → fdT L xs d k i = fcT L xs d 2 k i := fun k i h => by
    unfold fdT
    rw [tu_k h, tu_k h]
  refine ⟨⟨fun i hi => ?_, fun i hi => ?_, fun i hi => ?_⟩, fun i hi => ?_⟩
  · rw [e 0 i (by decide), a1 i]
    exact (ffT_f d 4 i hi).1
  · rw [e 1 i (by decide)]
    exact a2 i hi
  · rw [e 2 i (by decide)]
    exact a3 i hi
  · rw [e 0 i (by decide), a1 i]
    exact (ffT_f d 4 i hi).2
end FF
theorem fhP_3 {now w a r : Int32} {f : Row} : ∀ k, fhP now w a r k f 3 = f 3
  | 0 => rfl
  | k + 1 => (RX2_o (by decide) (by decide) (by decide)).trans (fhP_3 k)
theorem fhP_2 {now w a r : Int32} {f : Row} : ∀ k, fhP now w a r k f 2 = f 2
  | 0 => rfl
  | k + 1 => (RX2_o (by decide) (by decide) (by decide)).trans (fhP_2 k)
theorem cmp_s (x : Int64) : lg_cmp x x = 0 := by
  unfold lg_cmp
  simp
/-! codes and answers -/
section KA
variable {n4 f w hr wm ai j : Nat} {T : Tb} {now money : Int32}
theorem nwz (h1 : wm ≤ 45) (h2 : ai ≤ 100) : t_X6_isNoWeather_0 (nI wm) (nI ai) (nI 0) = 0 := by
  unfold t_X6_isNoWeather_0
  rw [if_pos (out_l (lo := 0) (hi := 45) (x := 0) (y := 45) rfl rfl (by omega) (by omega) (by decide)), if_pos (out_l (lo := 0) (hi := 100) (x := 0) (y := 100) rfl rfl (by omega) (by omega) (by decide)), if_pos (out_l (a := 0) (lo := 0) (hi := 20) (x := 0) (y := 20) rfl rfl (by omega) (by omega) (by decide))]
theorem nfz (h0 : 1 ≤ hr) (h3 : hr ≤ 48) (h1 : wm ≤ 45) (h2 : ai ≤ 100) : t_X6_isNoForecast_0 (nI hr) (nI wm) (nI ai) (nI 0) = 0 := by
  unfold t_X6_isNoForecast_0
  rw [if_pos (out_l (lo := 1) (hi := 48) (x := 1) (y := 48) rfl rfl (by omega) (by omega) (by decide)), if_pos (nwz h1 h2)]
theorem kz_readyIn (hf : f < 4) (h1 : wm ≤ 45) (h2 : ai ≤ 100) : kc_X6_readyIn (Nq n4) T 0 now 400 money (nI f) (nI wm) (nI ai) = 0 := by
  unfold kc_X6_readyIn
  rw [if_neg (by rw [show Nq n4 0 = 4 from rfl, ixR_of (by omega) hf]; simp), if_pos (show t_X6_isNoWeather_0 (nI wm) (nI ai) (0 : Int32) = 0 from nwz h1 h2)]
theorem kz_waiting (hf : f < 4) (h0 : 1 ≤ hr) (h3 : hr ≤ 48) (h1 : wm ≤ 45) (h2 : ai ≤ 100) : kc_X6_waiting (Nq n4) T 0 now 400 money (nI f) (nI hr) (nI wm) (nI ai) (nI 0) = 0 := by
  unfold kc_X6_waiting
  rw [if_neg (by rw [show Nq n4 0 = 4 from rfl, ixR_of (by omega) hf]; simp), if_pos (nfz h0 h3 h1 h2)]
theorem kz_nextField (h0 : 1 ≤ hr) (h3 : hr ≤ 48) (h1 : wm ≤ 45) (h2 : ai ≤ 100) : kc_X6_nextField (Nq n4) T 0 now 400 money (nI 0) (nI hr) (nI wm) (nI ai) = 0 := by
  unfold kc_X6_nextField
  rw [if_neg (by rw [show Nq n4 1 = 2 from rfl, ixR_of (by omega) (by decide)]; simp), if_pos (show t_X6_isNoForecast_0 (nI hr) (nI wm) (nI ai) (0 : Int32) = 0 from nfz h0 h3 h1 h2)]
theorem kz_pass {nw : Nat} (h0 : 1 ≤ hr) (h3 : hr ≤ 48) (h1 : wm ≤ 45) (h2 : ai ≤ 100) (hn : nw + hr ≤ 2400) : kc_X6_pass (Nq n4) T 0 (nI nw) 400 money (nI hr) (nI wm) (nI ai) (nI 0) = 0 := by
  unfold kc_X6_pass
  rw [if_pos (nfz h0 h3 h1 h2), nI_add, if_pos (show nI (nw + hr) ≤ (2400 : Int32) from (nI_leI (a := nw + hr) (b := 2400) (by omega) (by decide)).mpr hn)]
theorem kz_cut {c : Nat} (hc : c < 2) (hj : j < 4) : kc_X6_cut (Nq n4) T 0 now 400 money (nI c) (nI j) = 0 := by
  unfold kc_X6_cut
  rw [if_neg (by rw [show Nq n4 1 = 2 from rfl, ixR_of (by omega) hc]; simp), if_neg (nI_m (by omega)), if_neg (by rw [show Nq n4 0 = 4 from rfl, ixR_of (by omega) hj]; simp)]
theorem kz_fetch (hj : j < 2) : kc_X6_fetch (Nq n4) T 0 now 400 money (nI j) (nI 0) = 0 := by
  unfold kc_X6_fetch
  rw [if_neg (by rw [show Nq n4 2 = 2 from rfl, ixR_of (by omega) hj]; simp), if_neg (by rw [show Nq n4 1 = 2 from rfl, ixR_of (by omega) (by decide)]; simp)]
theorem kz_haul (hj : j < 2) : kc_X6_haul (Nq n4) T 0 now 400 money (nI j) (nI 1) = 0 := by
  unfold kc_X6_haul
  rw [if_neg (by rw [show Nq n4 2 = 2 from rfl, ixR_of (by omega) hj]; simp), if_neg (by rw [show Nq n4 3 = 2 from rfl, ixR_of (by omega) (by decide)]; simp)]
theorem kz_ofField (hf : f < 4) (hw : w ≤ 11) : kc_X6_ofField (Nq n4) T 0 now 400 money (nI f) (nI w) = 0 := by
  unfold kc_X6_ofField
  rw [if_neg (by rw [show Nq n4 0 = 4 from rfl, ixR_of (by omega) hf]; simp), if_pos (out_l (lo := 0) (hi := 11) (x := 0) (y := 11) rfl rfl (by omega) (by omega) (by decide))]
theorem kz_ofCombine : kc_X6_ofCombine (Nq n4) T 0 now 400 money (nI 0) (nI 6) = 0 := by
  unfold kc_X6_ofCombine
  rw [if_neg (by rw [show Nq n4 1 = 2 from rfl, ixR_of (by omega) (by decide)]; simp), if_pos (out_l (a := 6) (lo := 0) (hi := 7) (x := 0) (y := 7) rfl rfl (by omega) (by omega) (by decide))]
theorem kz_many : kc_X6_many (Nq n4) T 0 now 400 money (nI 0) = 0 := by
  unfold kc_X6_many
  rw [if_pos (out_l (a := 0) (lo := 0) (hi := 12) (x := 0) (y := 12) rfl rfl (by omega) (by omega) (by decide))]
theorem qm_0 : qv_X6_many (Nq n4) T 0 now 400 money (nI 0) = now := if_pos (by decide)
theorem qc_6 : qv_X6_ofCombine (Nq n4) T 0 now 400 money (nI 0) (nI 6) = T 1 0 10 := by
  unfold qv_X6_ofCombine
  rw [if_neg (by decide), if_neg (by decide), if_neg (by decide), if_neg (by decide), if_neg (by decide), if_neg (by decide), if_pos (by decide), show ix (nI 0) = 0 from nI_clamp (by decide)]
theorem qf_2 (hf : f < 4) : qv_X6_ofField (Nq n4) T 0 now 400 money (nI f) (nI 2) = T 0 f 2 := by
  unfold qv_X6_ofField
  rw [if_neg (by decide), if_neg (by decide), if_pos (by decide), show ix (nI f) = f from nI_clamp (by omega)]
theorem qf_3 (hf : f < 4) : qv_X6_ofField (Nq n4) T 0 now 400 money (nI f) (nI 3) = T 0 f 5 := by
  unfold qv_X6_ofField
  rw [if_neg (by decide), if_neg (by decide), if_neg (by decide), if_pos (by decide), show ix (nI f) = f from nI_clamp (by omega)]
theorem qf_4 (hf : f < 4) : qv_X6_ofField (Nq n4) T 0 now 400 money (nI f) (nI 4) = T 0 f 6 := by
  unfold qv_X6_ofField
  rw [if_neg (by decide), if_neg (by decide), if_neg (by decide), if_neg (by decide), if_pos (by decide), show ix (nI f) = f from nI_clamp (by omega)]
theorem qf_5 (hf : f < 4) : qv_X6_ofField (Nq n4) T 0 now 400 money (nI f) (nI 5) = T 0 f 7 := by
  unfold qv_X6_ofField
  rw [if_neg (by decide), if_neg (by decide), if_neg (by decide), if_neg (by decide), if_neg (by decide), if_pos (by decide), show ix (nI f) = f from nI_clamp (by omega)]
theorem qf_6 (hf : f < 4) : qv_X6_ofField (Nq n4) T 0 now 400 money (nI f) (nI 6) = T 0 f 8 := by
  unfold qv_X6_ofField
  rw [if_neg (by decide), if_neg (by decide), if_neg (by decide), if_neg (by decide), if_neg (by decide), if_neg (by decide), if_pos (by decide), show ix (nI f) = f from nI_clamp (by omega)]
theorem qf_11 : qv_X6_ofField (Nq n4) T 0 now 400 money (nI f) (nI 11) = sa 0 (fun j => if T 1 j 9 = nI f then 1 else 0) 2 := by
  unfold qv_X6_ofField
  rw [if_neg (by decide), if_neg (by decide), if_neg (by decide), if_neg (by decide), if_neg (by decide), if_neg (by decide), if_neg (by decide), if_neg (by decide), if_neg (by decide), if_neg (by decide), if_neg (by decide)]
  rfl
theorem alone (h : sa 0 (fun j => if T 1 j 9 = nI f then 1 else 0) 2 = 0) : ∀ i, i < 2 → ¬ T 1 i 9 = nI f := by
  rw [sa_s, sa_s] at h
  have h2 : ((0 : Int32) + (if T 1 0 9 = nI f then 1 else 0)) + (if T 1 1 9 = nI f then 1 else 0) = 0 := h
  by_cases c0 : T 1 0 9 = nI f
  · exfalso
    rw [if_pos c0] at h2
    by_cases c1 : T 1 1 9 = nI f
    · rw [if_pos c1] at h2
      exact absurd h2 (by decide)
    · rw [if_neg c1] at h2
      exact absurd h2 (by decide)
  · rw [if_neg c0] at h2
    by_cases c1 : T 1 1 9 = nI f
    · exfalso
      rw [if_pos c1] at h2
      exact absurd h2 (by decide)
    · intro i hi
      match i, hi with
      | 0, _ => exact c0
      | 1, _ => exact c1
end KA
/-- what the walk of the law stands on -/
def LH (p : Program) (l : Launch) (s : State) (m : MethodId) (args : Array Value) (c : Code) (G : GG) (b L : Nat) (xs : Nat → Int32) : Prop := p.tables.exec = Jvm.exec ∧ c.code = cL_law ∧ c.maxLocals = 24 ∧ s.vm.findClass RL = some m.cls ∧ (∀ w ∈ AL, w.before args s = true) ∧ Ks G b L xs s s.heap ∧ Kw G s ∧ Kx G s s.heap ∧ l.stackTraces = false ∧ L ≤ 260

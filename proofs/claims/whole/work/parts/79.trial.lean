/-! trials of both lands -/
theorem Sm.trl {N : Nat → Nat} {T U : Tb} (tr : Int32) (h : Sm N 0 T U) : Sm N tr T U := ⟨fun i hi => ⟨(by
  obtain ⟨f0, f1, f2, f3, f4, f5, f6, f7, f9, f10, f8⟩ := (h.1 i hi).1
  exact ⟨f0, f1, f2, f3, f4, f5, f6, f7, f9, f10, fun _ => f8 rfl⟩), (h.1 i hi).2⟩, h.2⟩
theorem Sm.cong {N : Nat → Nat} {tr : Int32} {T U V : Tb} (h : Sm N tr T U) (hV : ∀ k i, k < 4 → i < N k → V k i = U k i) : Sm N tr T V := by
  refine ⟨fun i hi => ?_, fun i hi => ?_, fun i hi => ?_, fun i hi => ?_⟩
  · rw [hV 0 i (by decide) hi]; exact h.1 i hi
  · rw [hV 1 i (by decide) hi]; exact h.2.1 i hi
  · rw [hV 2 i (by decide) hi]; exact h.2.2.1 i hi
  · rw [hV 3 i (by decide) hi]; exact h.2.2.2 i hi
theorem Sm.sent {N : Nat → Nat} {tr : Int32} {T U : Tb} {c i : Nat} (h : Sm N tr T U) (hc : c < N 1) (hi : i < N 0) : Sm N tr (tu T 1 c (upd (T 1 c) 9 (nI i))) (trR N U c (nI i)) := by
  have h2 := h.cong (V := cpR N U) (fun k j hk hj => cpR_at k j hk hj)
  obtain ⟨⟨c0, q0, q1, q2, q3, q4, q5, q6, q7, q8, q9, q10⟩, ⟨ip, it, itf, ib, ig⟩⟩ := h2.2.1 c hc
  exact h2.set1 ⟨c0, q0, q1, q2, q3, q4, q5, q6, rfl, q8, q9, q10⟩ ⟨ip, it, itf, ib, Or.inr ⟨i, hi, rfl⟩⟩
theorem Sm.trial {N : Nat → Nat} {tr : Int32} {T U : Tb} {n nr : Nat} {m : Int32} (hN : NB N) (h : Sm N tr T U) {now price w a : Int32} : ∀ k, (Sm N tr (hrsP (N 0) (N 1) (N 2) (N 3) tr now price w a 0 k (T, n, m)).1 (ngR N now w a k (U, nr)).1 ∧ (ngR N now w a k (U, nr)).2 + ph (ngR N now w a k (U, nr)).1 (N 2) ≤ nr + ph U (N 2)) ∧ HrOK N (now + nI k) w a 0 (ngR N now w a k (U, nr))
  | 0 => ⟨⟨h, Nat.le_refl _⟩, (Sm.hour hN (price := price) (n := 0) (m := 0) h).1⟩
  | k + 1 => by
    obtain ⟨⟨z1, z2⟩, -⟩ := Sm.trial (n := n) (nr := nr) (m := m) hN h (now := now) (price := price) (w := w) (a := a) k
    have y := (Sm.hour hN (now := now + nI k) (price := price) (w := w) (a := a) (r := 0) (n := (hrsP (N 0) (N 1) (N 2) (N 3) tr now price w a 0 k (T, n, m)).2.1) (nr := (ngR N now w a k (U, nr)).2) (m := (hrsP (N 0) (N 1) (N 2) (N 3) tr now price w a 0 k (T, n, m)).2.2) z1).2
    exact ⟨⟨y.1, Nat.le_trans y.2.1 z2⟩, (Sm.hour hN (price := price) (n := 0) (m := 0) y.1).1⟩
theorem Sm.trOK {N : Nat → Nat} {T U : Tb} {c h : Nat} {now w a : Int32} (hN : NB N) (hs : Sm N 0 T U) (hc : c < N 1) : TrOK N U now c h w a := fun i hi _ => by
  have z := (hs.trl 1).sent hc hi
  have y := fun k => Sm.trial (n := 0) (nr := 0) (m := 0) hN z (now := now) (price := 0) (w := w) (a := a) k
  refine ⟨fun j _ => (y j).2, ?_⟩
  have y1 := (y h).1.2
  have y2 := ph_b (U := trR N U c (nI i)) (N 2)
  have := hN.2.2.1
  omega
theorem unc_le {f : Row} (h : IF f) : t_X2_uncut_0 (f 2) (f 5) ≤ 0 ↔ f 2 = f 5 := by
  obtain ⟨i0, i2, i5, i3, i8⟩ := h
  have e : (t_X2_uncut_0 (f 2) (f 5)).toInt = (f 2).toInt - (f 5).toInt := ti_sub (by omega) (by omega)
  rw [i_le0, e, ← Int32.toInt_inj]
  omega
theorem nfV_eq {s i g b m : Int32} (hm : 0 ≤ m.toInt) : nfV s i g b m = nxV s i g b m ∧ 0 ≤ (nfV s i g b m).2.toInt := by
  unfold nfV nxV
  have e0 := i_eq0 (a := s)
  have e1 := i_le0 (a := s)
  by_cases h1 : m < s
  · have q := Int32.lt_iff_toInt_lt.mp h1
    have n1 : ¬ s < m := fun z => by have := Int32.lt_iff_toInt_lt.mp z; omega
    have n2 : ¬ s = 0 := fun z => by have := e0.mp z; omega
    have n3 : ¬ s = m := fun z => by rw [z] at q; omega
    rw [if_pos h1, if_neg n1, if_neg n2, if_neg n3]
    exact ⟨rfl, by show 0 ≤ s.toInt; omega⟩
  · rw [if_neg h1]
    by_cases h2 : s = m
    · subst h2
      rw [if_pos rfl, if_neg h1, if_pos (show s = s from rfl)]
      by_cases h3 : s ≤ 0
      · have n2 : s = 0 := e0.mpr (by have := e1.mp h3; omega)
        rw [if_pos h3, if_pos n2]
        exact ⟨rfl, hm⟩
      · have n2 : ¬ s = 0 := fun z => h3 (by rw [z]; decide)
        rw [if_neg h3, if_neg n2]
        refine ⟨rfl, ?_⟩
        split <;> exact hm
    · have q := mt Int32.lt_iff_toInt_lt.mpr h1
      have n1 : s < m := Int32.lt_iff_toInt_lt.mpr (by
        have : ¬ s.toInt = m.toInt := fun z => h2 (Int32.toInt_inj.mp z)
        omega)
      rw [if_neg h2, if_pos n1]
      exact ⟨rfl, hm⟩
theorem Sm.next {N : Nat → Nat} {T U : Tb} {c : Nat} {tr now price money h w a : Int32} (hN : NB N) (hs : Sm N 0 T U) (hc : c < N 1) : ∀ i, i ≤ N 0 → nfP N T tr now price money (nI c) h w a i = nxR N U now c (ix h) w a i ∧ 0 ≤ (nfP N T tr now price money (nI c) h w a i).2.toInt
  | 0, _ => ⟨rfl, by show 0 ≤ (0 : Int32).toInt; decide⟩
  | i + 1, hi => by
    obtain ⟨z1, z2⟩ := Sm.next (tr := tr) (now := now) (price := price) (money := money) (h := h) (w := w) (a := a) hN hs hc i (by omega)
    have n1 := hN.2.1
    have ec : ix (nI c) = c := ix_n (by omega)
    have hf := (hs.1 i (by omega)).1
    have hif := (hs.1 i (by omega)).2
    have hul : t_X2_uncut_0 (T 0 i 2) (T 0 i 5) ≤ 0 ↔ U 0 i 2 = U 0 i 3 := by rw [hf.2.2.1, hf.2.2.2.1]; exact unc_le hif
    have hb : bsP N T tr now price money (nI c) (nI i) h w a = bsR N U now c (nI i) (ix h) w a := by
      unfold bsP bsR
      rw [if_neg (by rw [ixR_of (by omega) hc]; simp), ec]
      have y := (Sm.trial (n := 0) (nr := 0) (m := money) hN ((hs.trl tr).sent hc (i := i) (by omega)) (now := now) (price := price) (w := w) (a := a) (ix h)).1.1
      have y1 := (y.2.1 c hc).1.2.2.2.2.2.2.2.2.2.2.2
      have y2 := (hs.2.1 c hc).1.2.2.2.2.2.2.2.2.2.2.2
      rw [y1, y2]
    have hg : T 1 c 9 = U 1 c 7 := (hs.2.1 c hc).1.2.2.2.2.2.2.2.2.1.symm
    show (if _ then _ else _) = (if _ then _ else _) ∧ _
    by_cases q : t_X2_uncut_0 (T 0 i 2) (T 0 i 5) ≤ 0
    · refine ⟨?_, ?_⟩
      · rw [if_pos q, if_pos (hul.mp q)]
        exact z1
      · unfold nfP
        rw [if_pos q]
        exact z2
    · have w1 := nfV_eq (s := bsP N T tr now price money (nI c) (nI i) h w a) (i := nI i) (g := T 1 (ix (nI c)) 9) (b := (nfP N T tr now price money (nI c) h w a i).1) z2
      refine ⟨?_, ?_⟩
      · rw [if_neg q, if_neg (fun z => q (hul.mpr z)), w1.1, hb, ec, hg, z1]
      · unfold nfP
        rw [if_neg q]
        exact w1.2

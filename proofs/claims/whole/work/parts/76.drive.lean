theorem tu_comm {U : Tb} {k i k' i' : Nat} {a b : Row} (h : k ≠ k') : tu (tu U k i a) k' i' b = tu (tu U k' i' b) k i a := funext fun x => funext fun y => by
  by_cases e : x = k' ∧ y = i'
  · obtain ⟨rfl, rfl⟩ := e
    rw [tu_s, tu_k (Ne.symm h), tu_s]
  · by_cases e2 : x = k ∧ y = i
    · obtain ⟨rfl, rfl⟩ := e2
      rw [tu_k h, tu_s, tu_s]
    · rw [show tu (tu U k i a) k' i' b x y = tu U k i a x y from if_neg e, show tu U k i a x y = U x y from if_neg e2, show tu (tu U k' i' b) k i a x y = tu U k' i' b x y from if_neg e2, show tu U k' i' b x y = U x y from if_neg e]
theorem Sm.drive {N : Nat → Nat} {tr : Int32} {T U : Tb} {i : Nat} (h : Sm N tr T U) (hN : NB N) (hi : i < N 2) (now price : Int32) (n nr : Nat) (m : Int32) : DrOK N U i ∧ DvC N tr price n nr T U m (trP (N 0) (N 1) (N 3) tr now price i (T, n, m)) (u_X7_drive (nu N 4 nr) U now i) (n_X7_drive (nu N 4 nr) U now i) := by
  obtain ⟨hN0, hN1, hN2, hN3⟩ := hN
  have hrt := h.2.2.1 i hi
  obtain ⟨⟨r1, r2, r3, r4, r5, r6, r8, r9, hk⟩, ⟨b2, b3, b5, b7, b8⟩⟩ := hrt
  have en : (nu N 4 nr) 4 = nr := nu_s
  have l0 := i_le0 (a := T 2 i 2)
  constructor
  · refine ⟨fun k => ?_, fun k k1 => ?_, fun k => ?_⟩
    · rcases hk with ⟨k0, k7, k8⟩ | ⟨k0, k7, k7n, k8⟩ | ⟨k0, k7, k8, k8n⟩
      · rw [k0] at k; exact absurd k (by decide)
      · obtain ⟨j, hj, e⟩ := pl b7 k7n
        rw [← k7, e]
        exact ixn_ok hj (by omega)
      · rw [k0] at k; exact absurd k (by decide)
    · rcases hk with ⟨k0, k7, k8⟩ | ⟨k0, k7, k7n, k8⟩ | ⟨k0, k7, k8, k8n⟩
      · exact absurd k0 k
      · exact absurd k0 k1
      · obtain ⟨j, hj, e⟩ := pl b8 k8n
        rw [← k8, e]
        exact ixn_ok hj (by omega)
    · rw [r2] at k
      obtain ⟨j, hj, e⟩ := b3 (i_lt0.mp k)
      rw [r3, e]
      exact ixn_ok hj (by omega)
  · by_cases h1 : (10 : Int32) ≤ T 2 i 1
    · have z := ud_r (N := nu N 4 nr) (U := U) (now := now) (i := i) (by rw [r5]; exact h1)
      rw [z.1, z.2, en]
      exact DvC.quiet (trP_r (fun q => (mr_0.mp q).1 h1)) rfl (h.slp hi) rfl rfl
    · have h1' : ¬ (10 : Int32) ≤ U 2 i 5 := by rw [r5]; exact h1
      rcases hk with ⟨k0, k7, k8⟩ | ⟨k0, k7, k7n, k8⟩ | ⟨k0, k7, k8, k8n⟩
      · by_cases h3 : T 2 i 1 ≤ 0
        · have z := ud_0 (N := nu N 4 nr) (U := U) (now := now) (i := i) h1' k0 (by rw [r5]; exact h3)
          rw [z.1, z.2, en]
          exact DvC.quiet (trP_0 (mr_0.mpr ⟨h1, fun _ _ => h3⟩) (by rw [k7]; exact ixR_m1) (by rw [k8]; exact ixR_m1)) rfl ⟨h, Nat.le_refl _, rfl⟩ rfl rfl
        · have z := ud_0r (N := nu N 4 nr) (U := U) (now := now) (i := i) h1' k0 (by rw [r5]; exact h3)
          rw [z.1, z.2, en]
          exact DvC.quiet (trP_r (fun q => h3 ((mr_0.mp q).2 k7 k8))) rfl (h.slp hi) rfl rfl
      · obtain ⟨j, hj, e⟩ := pl b7 k7n
        have hmr : t_X5_mustRest_0 (T 2 i 1) (T 2 i 7) (T 2 i 8) = 0 := mr_0.mpr ⟨h1, fun q => absurd q k7n⟩
        have hx : ixR (N 1) (T 2 i 7) = some j := by rw [e]; exact ixR_of (by omega) hj
        have ej : ix (U 2 i 7) = j := by rw [← k7, e]; exact ix_n (by omega)
        have hc := (h.2.1 j hj).1
        have hc1 : U 1 j 1 = T 1 j 1 := hc.2.2.1
        by_cases h3 : T 2 i 0 = T 1 j 1
        · have z := ud_1l (N := nu N 4 nr) (U := U) (now := now) (i := i) h1' k0 (by rw [ej, r1, hc1]; exact h3)
          rw [z.1, z.2, en]
          exact DvC.quiet (trP_ct hmr hx h3) rfl (h.lod hi hj ej k0) rfl rfl
        · have z := ud_1d (N := nu N 4 nr) (U := U) (now := now) (i := i) h1' k0 (by rw [ej, r1, hc1]; exact h3)
          rw [z.1, z.2, en, ej, hc1]
          exact DvC.quiet (trP_cd hmr hx h3) rfl (h.drv hi _) rfl rfl
      · obtain ⟨v, hv, e⟩ := pl b8 k8n
        have hmr : t_X5_mustRest_0 (T 2 i 1) (T 2 i 7) (T 2 i 8) = 0 := mr_0.mpr ⟨h1, fun _ q => absurd q k8n⟩
        have hx : ixR (N 1) (T 2 i 7) = none := by rw [k7]; exact ixR_m1
        have hy : ixR (N 3) (T 2 i 8) = some v := by rw [e]; exact ixR_of (by omega) hv
        have ej : ix (U 2 i 7) = v := by rw [← k8, e]; exact ix_n (by omega)
        have he := h.2.2.2 v hv
        have he' := he
        obtain ⟨e0, e1, e2, e3, e4, e5⟩ := he
        by_cases h3 : T 2 i 0 = T 3 v 0
        · have h3' : U 2 i 1 = U 3 (ix (U 2 i 7)) 1 := by rw [ej, r1, e1]; exact h3
          by_cases h4 : T 2 i 2 ≤ 0
          · have z := ud_2e (N := nu N 4 nr) (U := U) (now := now) (i := i) h1' k0 h3' (by rw [r2]; exact h4)
            rw [z.1, z.2, en]
            exact DvC.quiet (trP_e0 hmr hx hy h3 h4) rfl ⟨h, Nat.le_refl _, rfl⟩ rfl rfl
          · have h4' : ¬ U 2 i 2 ≤ 0 := by rw [r2]; exact h4
            have lp : 0 < (T 2 i 2).toInt := by have := mt l0.mpr h4; omega
            have z := ud_2s (N := nu N 4 nr) (U := U) (now := now) (i := i) h1' k0 h3' h4'
            rw [z.1, z.2, ej, trP_eu hmr hx hy h3 h4]
            have eo := opn_eq (N := nu N 4 nr) (now := now) he'
            by_cases hq : t_X1_takes_0 (T 3 v 1) (T 3 v 2) (T 3 v 3) (T 3 v 5) (T 2 i 2) (T 2 i 4) (clk now) = 0
            · have y := us_q (N := nu N 4 nr) (U := U) (now := now) (i := i) (v := v) (by
                rcases tak_0.mp hq with q | q | q
                · exact Or.inl (by rw [eo]; exact q)
                · exact Or.inr (Or.inl (by rw [e5, r4]; exact q))
                · exact Or.inr (Or.inr (by rw [e3, r2]; exact Int32.not_le.mpr q)))
              rw [y.1, y.2, en]
              refine DvC.quiet (ulP_q hq) rfl ⟨h.set2 ⟨r1, r2, r3, r4, r5, r6, ?_, r9, Or.inr (Or.inr ⟨k0, k7, k8, k8n⟩)⟩ ⟨b2, b3, b5, b7, b8⟩, ph_tu (fun z => z), rfl⟩ rfl rfl
              show U 2 i 8 + 1 = T 2 i 6 + 1
              rw [r8]
            · have hq3 := mt tak_0.mpr hq
              have y := us_s (N := nu N 4 nr) (U := U) (now := now) (i := i) (v := v) (by rw [eo]; exact fun q => hq3 (Or.inl q)) (by rw [e5, r4]; exact fun q => hq3 (Or.inr (Or.inl q))) (by rw [e3, r2]; exact Int32.not_lt.mp (fun q => hq3 (Or.inr (Or.inr q))))
              rw [y.1, y.2, en]
              obtain ⟨f, hf, ef⟩ := b3 lp
              have eff : ix (U 2 i 3) = f := by rw [r3, ef]; exact ix_n (by omega)
              have hff := (h.1 f hf).1
              have hfi := (h.1 f hf).2
              obtain ⟨f0, f1, f2, f3, f4, f5, f6, f7, f9, f10, f8⟩ := hff
              unfold slS
              rw [en, eff, tu_comm (k := 0) (k' := 3) (by decide)]
              have nk : ∀ {r : Row}, (r 2 = 0) → ¬ hl2 r := fun {r} q w => by
                have := w.2
                rw [q] at this
                exact absurd this (by decide)
              have hru : hl2 (U 2 i) := ⟨k0, by rw [r2]; exact i_lt0.mpr lp⟩
              have hph : nr + 1 + ph (tu (tu (tu (tu U 4 nr (rw7 (U 2 i 3) (U 2 i 2) (U 2 i 4) (2 * mx 0 (U 2 i 4 - U 3 v 4)) (U 2 i 7) now 0)) 3 v (rw6 (U 3 v 0) (U 3 v 1) (U 3 v 2) (U 3 v 3 - U 2 i 2) (U 3 v 4) (U 3 v 5))) 0 f (rw11 (U 0 f 0) (U 0 f 1) (U 0 f 2) (U 0 f 3) (U 0 f 4) (U 0 f 5) (U 0 f 6) (U 0 f 7) (U 0 f 8 + U 2 i 2) (U 0 f 9) (U 0 f 10))) 2 i (rw10 (U 2 i 0) (U 2 i 1) 0 (U 2 i 3) (U 2 i 4) (U 2 i 5) (U 2 i 6) (U 2 i 7) (U 2 i 8) (U 2 i 9))) (N 2) ≤ nr + ph U (N 2) := by
                have q := ph_lt (V := tu (tu (tu (tu U 4 nr (rw7 (U 2 i 3) (U 2 i 2) (U 2 i 4) (2 * mx 0 (U 2 i 4 - U 3 v 4)) (U 2 i 7) now 0)) 3 v (rw6 (U 3 v 0) (U 3 v 1) (U 3 v 2) (U 3 v 3 - U 2 i 2) (U 3 v 4) (U 3 v 5))) 0 f (rw11 (U 0 f 0) (U 0 f 1) (U 0 f 2) (U 0 f 3) (U 0 f 4) (U 0 f 5) (U 0 f 6) (U 0 f 7) (U 0 f 8 + U 2 i 2) (U 0 f 9) (U 0 f 10))) 2 i (rw10 (U 2 i 0) (U 2 i 1) 0 (U 2 i 3) (U 2 i 4) (U 2 i 5) (U 2 i 6) (U 2 i 7) (U 2 i 8) (U 2 i 9))) (i := i) (by rw [tu_s]; exact nk rfl) hru (N 2) hi (fun j _ w => by
                  by_cases ee : j = i
                  · subst ee
                    exact hru
                  · rw [tu_i ee] at w
                    exact w)
                omega
              have hsU : Sm N tr T (tu U 4 nr (rw7 (U 2 i 3) (U 2 i 2) (U 2 i 4) (2 * mx 0 (U 2 i 4 - U 3 v 4)) (U 2 i 7) now 0)) := h
              have hs3 : Sm N tr (tu T 3 v (upd (T 3 v) 1 (T 3 v 1 - T 2 i 2))) (tu (tu U 4 nr (rw7 (U 2 i 3) (U 2 i 2) (U 2 i 4) (2 * mx 0 (U 2 i 4 - U 3 v 4)) (U 2 i 7) now 0)) 3 v (rw6 (U 3 v 0) (U 3 v 1) (U 3 v 2) (U 3 v 3 - U 2 i 2) (U 3 v 4) (U 3 v 5))) := hsU.set3 ⟨e0, e1, e2, by show U 3 v 3 - U 2 i 2 = T 3 v 1 - T 2 i 2; rw [e3, r2], e4, e5⟩
              by_cases ht : tr = 0
              · obtain ⟨tk, etk⟩ : ∃ tk, tk = tkP now price i v (tu T 3 v (upd (T 3 v) 1 (T 3 v 1 - T 2 i 2))) := ⟨_, rfl⟩
                have t0 : tk 0 = T 2 i 3 := by rw [etk]; rfl
                have t1 : tk 1 = T 2 i 2 := by rw [etk]; rfl
                have t2 : tk 2 = T 2 i 4 := by rw [etk]; rfl
                have t3 : tk 3 = t_X1_discount_0 (T 3 v 4) (T 2 i 4) := by
                  rw [etk]
                  show t_X1_discount_0 (tu T 3 v (upd (T 3 v) 1 (T 3 v 1 - T 2 i 2)) 3 v 4) (T 2 i 4) = _
                  rw [tu_s]
                  rfl
                have t4 : tk 4 = T 2 i 8 := by rw [etk]; rfl
                have t5 : tk 5 = now := by rw [etk]; rfl
                have t6 : tk 6 = ((tk 1 * price) * ((100 : Int32) - tk 3)) / (10000 : Int32) := by rw [t3, etk]; show ((T 2 i 2 * price) * ((100 : Int32) - t_X1_discount_0 (tu T 3 v (upd (T 3 v) 1 (T 3 v 1 - T 2 i 2)) 3 v 4) (T 2 i 4))) / (10000 : Int32) = _; rw [tu_s]; rfl
                have hwt := wtP_s (n0 := N 0) (now := now) (price := price) (i := i) (e := v) (n := n) (f := f) (T := tu T 3 v (upd (T 3 v) 1 (T 3 v 1 - T 2 i 2))) (money := m) (tk := tk) (by rw [← etk, t0, ef]; exact ixR_of (by omega) hf) etk
                rw [ulP_r hq ht, hwt]
                have hs0 := (hs3.setT4 (i := n) (f := tk)).set0 (i := f) (f := R_X2_credit_0 (tu T 3 v (upd (T 3 v) 1 (T 3 v 1 - T 2 i 2)) 0 f) (tk 1) (tk 6)) (u := rw11 (U 0 f 0) (U 0 f 1) (U 0 f 2) (U 0 f 3) (U 0 f 4) (U 0 f 5) (U 0 f 6) (U 0 f 7) (U 0 f 8 + U 2 i 2) (U 0 f 9) (U 0 f 10)) ⟨f0, f1, f2, f3, f4, f5, f6, f7, f9, f10, fun q => by show U 0 f 8 + U 2 i 2 = T 0 f 10 + tk 1; rw [f8 q, t1, r2]⟩ hfi
                have hs2 := hs0.set2 (i := i) (f := upd (T 2 i) 2 0) (u := rw10 (U 2 i 0) (U 2 i 1) 0 (U 2 i 3) (U 2 i 4) (U 2 i 5) (U 2 i 6) (U 2 i 7) (U 2 i 8) (U 2 i 9)) ⟨r1, rfl, r3, r4, r5, r6, r8, r9, Or.inr (Or.inr ⟨k0, k7, k8, k8n⟩)⟩ ⟨(by show 0 ≤ (0 : Int32).toInt ∧ (0 : Int32).toInt ≤ 800; decide), (fun q => absurd (show 0 < (0 : Int32).toInt from q) (by decide)), b5, b7, b8⟩
                refine ⟨hs2, hph, fun _ enr => ⟨by rw [enr], fun mo0 F0 L0 n0 htk => ?_⟩⟩
                subst enr
                have hT4 : (tu (tu (tu (tu T 3 v (upd (T 3 v) 1 (T 3 v 1 - T 2 i 2))) 4 nr tk) 0 f (R_X2_credit_0 (T 0 f) (tk 1) (tk 6))) 2 i (upd (T 2 i) 2 0)) 4 nr = tk := by rw [tu_k (by decide), tu_k (by decide), tu_s]
                have hU4 : (tu (tu (tu (tu U 4 nr (rw7 (U 2 i 3) (U 2 i 2) (U 2 i 4) (2 * mx 0 (U 2 i 4 - U 3 v 4)) (U 2 i 7) now 0)) 3 v (rw6 (U 3 v 0) (U 3 v 1) (U 3 v 2) (U 3 v 3 - U 2 i 2) (U 3 v 4) (U 3 v 5))) 0 f (rw11 (U 0 f 0) (U 0 f 1) (U 0 f 2) (U 0 f 3) (U 0 f 4) (U 0 f 5) (U 0 f 6) (U 0 f 7) (U 0 f 8 + U 2 i 2) (U 0 f 9) (U 0 f 10))) 2 i (rw10 (U 2 i 0) (U 2 i 1) 0 (U 2 i 3) (U 2 i 4) (U 2 i 5) (U 2 i 6) (U 2 i 7) (U 2 i 8) (U 2 i 9))) 4 nr = rw7 (U 2 i 3) (U 2 i 2) (U 2 i 4) (2 * mx 0 (U 2 i 4 - U 3 v 4)) (U 2 i 7) now 0 := by rw [tu_k (by decide), tu_k (by decide), tu_k (by decide), tu_s]
                have key := htk.sale (f := f) (T4' := (tu (tu (tu (tu T 3 v (upd (T 3 v) 1 (T 3 v 1 - T 2 i 2))) 4 nr tk) 0 f (R_X2_credit_0 (T 0 f) (tk 1) (tk 6))) 2 i (upd (T 2 i) 2 0)) 4) (T0' := (tu (tu (tu (tu T 3 v (upd (T 3 v) 1 (T 3 v 1 - T 2 i 2))) 4 nr tk) 0 f (R_X2_credit_0 (T 0 f) (tk 1) (tk 6))) 2 i (upd (T 2 i) 2 0)) 0) (U4' := (tu (tu (tu (tu U 4 nr (rw7 (U 2 i 3) (U 2 i 2) (U 2 i 4) (2 * mx 0 (U 2 i 4 - U 3 v 4)) (U 2 i 7) now 0)) 3 v (rw6 (U 3 v 0) (U 3 v 1) (U 3 v 2) (U 3 v 3 - U 2 i 2) (U 3 v 4) (U 3 v 5))) 0 f (rw11 (U 0 f 0) (U 0 f 1) (U 0 f 2) (U 0 f 3) (U 0 f 4) (U 0 f 5) (U 0 f 6) (U 0 f 7) (U 0 f 8 + U 2 i 2) (U 0 f 9) (U 0 f 10))) 2 i (rw10 (U 2 i 0) (U 2 i 1) 0 (U 2 i 3) (U 2 i 4) (U 2 i 5) (U 2 i 6) (U 2 i 7) (U 2 i 8) (U 2 i 9))) 4) hf (by omega) (by rw [hT4]; exact t6) (by rw [hT4, t0]; exact ef) (fun j q => by rw [tu_k (by decide), tu_k (by decide), tu_i q, tu_k (by decide)]) (fun k hk => by
                  rw [hT4, hU4]
                  match k, hk with
                  | 0, _ => exact r3.trans t0.symm
                  | 1, _ => exact r2.trans t1.symm
                  | 2, _ => exact r4.trans t2.symm
                  | 3, _ =>
                    rw [t3]
                    show 2 * mx 0 (U 2 i 4 - U 3 v 4) = 2 * mx (T 2 i 4 - T 3 v 4) 0
                    rw [mx_comm, r4, e4]
                  | 4, _ => exact (k8.symm).trans t4.symm
                  | 5, _ => exact t5.symm) (fun j q => by rw [tu_k (by decide), tu_k (by decide), tu_k (by decide), tu_i q]) (by rw [hT4, tu_k (by decide), tu_s]) (fun j q => by rw [tu_k (by decide), tu_i q, tu_k (by decide), tu_k (by decide)])
                rw [hT4] at key
                exact key
              · rw [ulP_t hq ht]
                have hs0 := hs3.setU (k := 0) (i := f) (u := rw11 (U 0 f 0) (U 0 f 1) (U 0 f 2) (U 0 f 3) (U 0 f 4) (U 0 f 5) (U 0 f 6) (U 0 f 7) (U 0 f 8 + U 2 i 2) (U 0 f 9) (U 0 f 10)) (fun _ => ⟨f0, f1, f2, f3, f4, f5, f6, f7, f9, f10, fun q => absurd q ht⟩) (by decide) (by decide) (by decide)
                have hs2 := hs0.set2 (i := i) (f := upd (T 2 i) 2 0) (u := rw10 (U 2 i 0) (U 2 i 1) 0 (U 2 i 3) (U 2 i 4) (U 2 i 5) (U 2 i 6) (U 2 i 7) (U 2 i 8) (U 2 i 9)) ⟨r1, rfl, r3, r4, r5, r6, r8, r9, Or.inr (Or.inr ⟨k0, k7, k8, k8n⟩)⟩ ⟨(by show 0 ≤ (0 : Int32).toInt ∧ (0 : Int32).toInt ≤ 800; decide), (fun q => absurd (show 0 < (0 : Int32).toInt from q) (by decide)), b5, b7, b8⟩
                exact ⟨hs2, hph, fun q => absurd q ht⟩
        · have z := ud_2d (N := nu N 4 nr) (U := U) (now := now) (i := i) h1' k0 (by rw [ej, r1, e1]; exact h3)
          rw [z.1, z.2, en, ej, e1]
          exact DvC.quiet (trP_ed hmr hx hy h3) rfl (h.drv hi _) rfl rfl

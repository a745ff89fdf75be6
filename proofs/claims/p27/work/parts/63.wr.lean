/-! a WheatRun at xa, in the regions ρ + 1 to ρ + 4, by its pure state -/
def WR (G : GG) (M : HM) (ρ xa : Nat) (N : Nat → Nat) (T : Tb) (now money : Int32) : Prop := ∃ (h0 h2 h3 : Nat) (Y Yt : LY) (Nt : Nat → Nat) (Tt : Tb) (a1 a2 a3 : Int32) (ft : Row), M xa = some (ρ + 1, .inr (7, [.ref h0, .ref h2, .ref h3])) ∧ LdR G M (ρ + 2) h0 Y N T 0 now 400 money ∧ LdR G M (ρ + 3) h2 Yt Nt Tt 1 a1 a2 a3 ∧ M h3 = some (ρ + 4, eC 0 ft) ∧ Nt 0 ≤ N 0 ∧ Nt 1 ≤ N 1 ∧ Nt 2 ≤ N 2 ∧ Nt 3 ≤ N 3 ∧ Nt 4 = 0
/-- what isn't of the regions ρ + 2 to ρ + 4 stays -/
def Sx (ρ : Nat) (M M' : HM) : Prop := ∀ q r e, (r < ρ + 2 ∨ ρ + 4 < r) → M q = some (r, e) → M' q = some (r, e)
theorem Sx.rf {ρ : Nat} {M : HM} : Sx ρ M M := fun _ _ _ _ h => h
theorem Sx.tr {ρ : Nat} {M M1 M2 : HM} (h1 : Sx ρ M M1) (h2 : Sx ρ M1 M2) : Sx ρ M M2 := fun q r e hr hq => h2 q r e hr (h1 q r e hr hq)
theorem Sx.fr {ρ t : Nat} {M M' : HM} (h : Fr t M M') (h1 : ρ + 2 ≤ t) (h2 : t ≤ ρ + 4) : Sx ρ M M' := fun q r e hr hq => h q r e (by omega) hq
theorem rgne {r r' : Nat} {e e' : va_E} (h : r ≠ r') : (some (r, e) : Option (Nat × va_E)) ≠ some (r', e') := fun z => h (by injection z with z; injection z)
section WRS
variable {G : GG} {M M' : HM} {ρ xa : Nat} {N : Nat → Nat} {T : Tb} {now money : Int32}
theorem WR.sv (h : WR G M ρ xa N T now money) (hs : ∀ q r e, ρ + 1 ≤ r → r ≤ ρ + 4 → M q = some (r, e) → M' q = some (r, e)) : WR G M' ρ xa N T now money := by
  obtain ⟨h0, h2, h3, Y, Yt, Nt, Tt, a1, a2, a3, ft, w1, w2, w3, w4, k⟩ := h
  exact ⟨h0, h2, h3, Y, Yt, Nt, Tt, a1, a2, a3, ft, hs _ _ _ (by omega) (by omega) w1, w2.same (fun q e z => hs q _ e (by omega) (by omega) z), w3.same (fun q e z => hs q _ e (by omega) (by omega) z), hs _ _ _ (by omega) (by omega) w4, k⟩
theorem WR.keep {ρ' : Nat} (h : WR G M ρ xa N T now money) (hs : Sx ρ' M M') (hd : ρ + 4 < ρ' + 2 ∨ ρ' + 4 < ρ + 1) : WR G M' ρ xa N T now money := h.sv (fun q r e h1 h2 hq => hs q r e (by omega) hq)
theorem WR.up {a r0 : Nat} {e0 e : va_E} (h : WR G M ρ xa N T now money) (ha : M a = some (r0, e0)) (hr : r0 < ρ + 1 ∨ ρ + 4 < r0) : WR G (hu M a r0 e) ρ xa N T now money := h.sv (fun q r e' h1 h2 hq => hu_n (hu_ne hq ha (rgne (by omega))) hq)
theorem WR.nw {a r0 : Nat} {e : va_E} (h : WR G M ρ xa N T now money) (ha : M a = none) : WR G (hu M a r0 e) ρ xa N T now money := h.sv (fun q r e' h1 h2 hq => hu_n (hu_ne hq ha (by simp)) hq)
theorem WR.cell (h : WR G M ρ xa N T now money) : ∃ h0 h2 h3, M xa = some (ρ + 1, .inr (7, [.ref h0, .ref h2, .ref h3])) := by
  obtain ⟨h0, h2, h3, Y, Yt, Nt, Tt, a1, a2, a3, ft, w1, -⟩ := h
  exact ⟨h0, h2, h3, w1⟩
end WRS
theorem EXz {k : Nat} {E0 : String} (hk : k = 0) (h : EX k E0) : False := by
  rw [hk] at h
  exact EX_0 h

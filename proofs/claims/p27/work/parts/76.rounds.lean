/-! the rounds of the law -/
section L7
variable {p : Program} {l : Launch} {e : Env} {s : State} {m : MethodId} {args : Array Value} {below : List Frame} {meth : Method} {c : Code} {H : Heap} {locs : List Loc} {cells slots : Nat} {Q : State → Prop}
variable {ls : Array Slot} {G : GG} {M : HM} {b L tt oo xa xo time k D Do n4 nw f wm ai hr : Nat} {xs : Nat → Int32} {B : Nat → Int32} {z z2 : Int32} {T : Tb} {now money : Int32}
variable {D0 c0 s0 : Nat}
set_option maxHeartbeats 4000000 in
set_option maxRecDepth 100000 in
theorem rnds (C : LH p l s m args c G b L xs) (hD0 : D0 ≤ 1000) (hc0 : c0 + 2800 ≤ 1000000) (hs0 : s0 + 420000 ≤ 5900000) (ht : time < 3)
    (kk : ∀ (M : HM) (H : Heap) (locs : List Loc) (ls : Array Slot), Wd G M s H locs → lv_has ls 24 [(0, .ref b), (1, .int (nI time))] → W p l e room_1 s m args below meth c H locs (c0 + 2800) (s0 + 420000) Q (F0 m 651 ls [])) : ∀ (n k : Nat), k ≤ 7 → 7 - k < n → ∀ (M : HM) (H : Heap) (locs : List Loc) (ls : Array Slot) (T : Tb) (n4 nw : Nat) (money : Int32), TO G M 0 tt xa b (D0 + 6 * k) 4 2 2 2 B z (Nq n4) T (nI nw) money → TO G M 10 oo xo b Do 4 2 2 2 B z2 (Nq n4) T (nI nw) money → Iv 4 2 2 T → (∀ i, i < 4 → T 0 i 3 = B i) → n4 ≤ 24 * k → nw ≤ 12 * k → Wd G M s H locs → lv_has ls 24 [(5, .int (nI k)), (0, .ref b), (1, .int (nI time)), (2, .ref tt), (3, .ref oo), (4, .ref xa)] → W p l e room_1 s m args below meth c H locs (c0 + 400 * k) (s0 + 60000 * k) Q (F0 m 66 ls []) := by
  have C0 := C
  obtain ⟨hx, hb, hml, hown, hts, hS, hK, hX, hst, hL⟩ := C
  intro n
  induction n with
  | zero => intro k h1 h2; omega
  | succ n ih =>
    intro k h1 h2 M H locs ls T n4 nw money hT hO hI hB hn4 hnw hM hl
    refine lv_iload hx hb dL_law_66 (lv_at hl 0 rfl) ?_
    refine lv_bipush (v := nI 7) hx hb dL_law_68 (by decide) ?_
    refine lv_icmp_ge (tgt := 651) hx hb dL_law_70 (by decide) (fun c1 => ?_) (fun c1 => ?_)
    · have hk : k = 7 := by
        have := (nI_leI (a := 7) (b := k) (by omega) (by omega)).mp c1
        omega
      subst hk
      exact kk M H locs ls hM (lv_sub hl [1, 2] rfl)
    · have hk : k < 7 := by
        rcases Nat.lt_or_ge k 7 with q | q
        · exact q
        · exact absurd (nI_le q (by omega)) c1
      refine sg1 C0 hM hT hO hI (by omega) ⟨by omega, by omega⟩ hl (fun M1 H locs ls f wm ai hr nx wt rd hf hwm hai hh1 hh2 enx ewt erd hT hO hM hl => ?_)
      refine sg2 C0 hM hT hO hI hf hwm hai hh1 hh2 (by omega) enx ⟨by omega, by omega⟩ hl (fun M1 H locs ls al T' hal hse hT hO hM hl => ?_)
      have t0 : ∀ i, T' 0 i = T 0 i := fun i => by
        rcases hse with ⟨q, -⟩ | ⟨-, j, -, -, -, q⟩
        · rw [q]
        · rw [q, tu_k (by decide)]
      have hI' : Iv 4 2 2 T' := by
        rcases hse with ⟨q, -⟩ | ⟨-, j, -, -, -, q⟩
        · rw [q]; exact hI
        · rw [q]
          exact hI.put (fun z9 => absurd z9 (by decide)) (fun _ _ => ⟨by rw [upd_o (by decide)]; exact (hI.2.1 0 (by decide)).1, by rw [upd_o (by decide)]; exact (hI.2.1 0 (by decide)).2.1, by rw [upd_o (by decide)]; exact (hI.2.1 0 (by decide)).2.2⟩) (fun z9 => absurd z9 (by decide))
      obtain ⟨r1, -, r3, -, r5⟩ := hI'.hrs (n3 := 2) (tr := 0) (now := nI nw) (price := 400) (w := nI wm) (a := nI ai) (r := 0) (money := money) (n := n4) (by decide) (by decide) hr
      refine sg3 C0 hM hT hO hI' hf hwm hai hh1 hh2 (by omega) (by omega) (by rw [t0]; exact erd) ⟨by omega, by omega⟩ hl (fun M1 H locs ls hT hO hM hl => ?_)
      refine sg4 C0 hM hT hO hI hI' hf hwm hai hh1 hh2 (by omega) (by omega) (by omega) hse ⟨by omega, by omega⟩ hl (fun M1 H locs ls hT hO hM hl => ?_)
      refine sg5 C0 hM hT hO hI hI' hf hwm hai hh1 hh2 (by omega) (by omega) (by omega) hse hal (hB f hf) ewt ⟨by omega, by omega⟩ hl (fun M1 H locs ls hT hO hM hl => ?_)
      rw [nI_add] at hT hO
      refine sg6 C0 hM hT hO r1 (by omega) ⟨by omega, by omega⟩ hl (fun M1 H locs ls T9 hI9 t9 hT hO hM hl => ?_)
      rw [show D0 + 6 * k + 4 + 2 = D0 + 6 * (k + 1) by omega] at hT
      refine W.widen (k := c0 + 400 * (k + 1)) (n := s0 + 60000 * (k + 1)) (by omega) (by omega) ?_
      refine ih (k + 1) (by omega) (by omega) _ _ _ _ _ _ _ _ hT hO hI9 (fun i hi => ?_) (by omega) (by omega) hM hl
      rw [t9, r3 i hi 3 (by decide) (by decide) (by decide) (by decide) (by decide), fhP_3, t0]
      exact hB i hi
end L7

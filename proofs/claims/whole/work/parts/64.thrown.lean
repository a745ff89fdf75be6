set_option maxHeartbeats 4000000 in
set_option maxRecDepth 100000 in
theorem c_X8_thrown (l : Launch) (G : GG) (M : HM) (tx ma h0 fa lb : Nat) (th pr mo : Int32) (F Lx : Row) (hO : XdR G M tx ma h0 fa lb th pr mo F Lx) : Mi l yX8_thrown (.code yX8_thrown cX8_thrown 1 (some .int) :: AL) 0 0 0 0 [.ref ma] G M (fun r M' => r = th ∧ M' = M) := by
  refine Mi.go (by decide) (Nat.le_of_ble_eq_true rfl) ?_
  intro p e s m below meth c ls hx hb hr hml hown hlocks hname hts hK hM hl
  have hown : s.vm.findClass RX8 = some m.cls := hown
  have hl : lv_has ls 1 [(0, .ref ma)] := hl
  refine lv_aload_n hx hb dX8_thrown_0 rfl (lv_at hl 0 rfl) ?_
  refine fg_X8_30 hx hb hts hown hK hM hO.1 dX8_thrown_1 ?_
  exact g_iret hx hb hr hlocks hM (Nat.zero_le _) (Nat.zero_le _) ⟨rfl, rfl⟩ dX8_thrown_4

def rmX2_initN : Room := { frames := 1, cells := 0, slots := 0, locals := 20 }
theorem hiX2_initN_X2 : ∀ w ∈ u_ws RX2 TX2 8, w ∈ wsX2_init := by decide +kernel
theorem lkX2_initN_7 : Cond.fieldLink yX2_init.cls 7 (TX2 0).1 (TX2 0).2.1 (TX2 0).2.2.1 ∈ wsX2_init := by decide +kernel
set_option maxHeartbeats 4000000 in
set_option maxRecDepth 100000 in
theorem mX2_initN {l : Launch} {D : va_G} {cI cJ cZ cO : ClassId} {q : Nat} : jMv l D (jT cI cJ cZ cO) gk yX2_init wsX2_init rmX2_initN [.ref q, .null] [(q, .inr (2, [.null, .int 0, .int 0, .int 0, .int 0, .int 0, .int 0, .int 0]))] (fun _ : Unit => True) (fun _ : Unit => [(q, .inr (2, [.null, .int 0, .int 0, .int 0, .int 0, .int 0, .int 0, .int 0]))]) 0 0 := by
  refine j_ofv (cc := cX2_init) (maxL := 2) (ret := none) (by decide) rfl (Nat.le_of_ble_eq_true rfl) ?_
  intro p e s m args below meth c A C hr hnm hG
  refine j_sub (lv' := [(0, .ref q), (1, .null)]) [0, 1] rfl ?_
  refine j_aload_n (pc := 0) C dX2_init_0 0 rfl rfl ?_
  refine j_objInit (pc := 1) C (by decide +kernel) (by decide +kernel) (by decide +kernel) dX2_init_1 ⟨(Nat.le_of_ble_eq_true rfl), (Nat.le_of_ble_eq_true rfl)⟩ ?_
  refine j_aload_n (pc := 4) C dX2_init_4 0 rfl rfl ?_
  refine j_aload_nN (pc := 5) C dX2_init_5 1 rfl rfl ?_
  refine j_putF (v := .null) (pc := 6) C hiX2_initN_X2 tyX2 tyX2_ok nmX2 hnm 0 rfl rfl 0 (by decide) lkX2_initN_7 rfl rfl rfl rfl (Nat.le_of_ble_eq_true rfl) dX2_init_6 ?_
  refine j_ws (ws' := [(q, .inr (2, [.null, .int 0, .int 0, .int 0, .int 0, .int 0, .int 0, .int 0]))]) rfl ?_
  exact j_vret (pc := 9) C hr () rfl trivial dX2_init_9
def rmX3_init : Room := { frames := 1, cells := 1, slots := 262, locals := 20 }
theorem hiX3_init_X3 : ∀ w ∈ u_ws RX3 TX3 2, w ∈ wsX3_init := by decide +kernel
theorem lkX3_init_11 : Cond.fieldLink yX3_init.cls 11 (TX3 0).1 (TX3 0).2.1 (TX3 0).2.2.1 ∈ wsX3_init := by decide +kernel
set_option maxHeartbeats 4000000 in
set_option maxRecDepth 100000 in
theorem mX3_init {l : Launch} {D : va_G} {cI cJ cZ cO : ClassId} {q : Nat} : jMv l D (jT cI cJ cZ cO) gk yX3_init wsX3_init rmX3_init [.ref q] [(q, .inr (3, [.null, .int 0]))] (fun _ : Nat => True) (fun z : Nat => [(q, .inr (3, [.ref z, .int 0])), (z, .inl (cO, 262, .inr (.inr (.inr (.inr (fun _ => none))))))]) 1 262 := by
  refine j_ofv (cc := cX3_init) (maxL := 1) (ret := none) (by decide) rfl (Nat.le_of_ble_eq_true rfl) ?_
  intro p e s m args below meth c A C hr hnm hG
  refine j_sub (lv' := [(0, .ref q)]) [0] rfl ?_
  refine j_aload_n (pc := 0) C dX3_init_0 0 rfl rfl ?_
  refine j_objInit (pc := 1) C (by decide +kernel) (by decide +kernel) (by decide +kernel) dX3_init_1 ⟨(Nat.le_of_ble_eq_true rfl), (Nat.le_of_ble_eq_true rfl)⟩ ?_
  refine j_aload_n (pc := 4) C dX3_init_4 0 rfl rfl ?_
  refine j_sipush (pc := 5) (v := 262) C dX3_init_5 (by decide) ?_
  refine j_newq (pc := 8) C (K := RX2) (by decide +kernel) hG.1 3 rfl (by decide) rfl (Nat.le_of_ble_eq_true rfl) (Nat.le_of_ble_eq_true rfl) (Nat.le_of_ble_eq_true rfl) dX3_init_8 (fun z0 => ?_)
  refine j_eqc (k := 1) (n := 262) rfl rfl ?_
  refine j_ws (ws' := [(q, .inr (3, [.null, .int 0])), (z0, .inl (cO, 262, .inr (.inr (.inr (.inr (fun _ => none))))))]) rfl ?_
  refine j_putF (v := .ref z0) (pc := 11) C hiX3_init_X3 tyX3 tyX3_ok nmX3 hnm 0 rfl rfl 0 (by decide) lkX3_init_11 rfl rfl rfl rfl (Nat.le_of_ble_eq_true rfl) dX3_init_11 ?_
  refine j_ws (ws' := [(q, .inr (3, [.ref z0, .int 0])), (z0, .inl (cO, 262, .inr (.inr (.inr (.inr (fun _ => none))))))]) rfl ?_
  exact j_vret (pc := 14) C hr z0 rfl trivial dX3_init_14
def rmX4_init : Room := { frames := 1, cells := 3, slots := 2630, locals := 20 }
theorem hiX4_init_X4 : ∀ w ∈ u_ws RX4 TX4 5, w ∈ wsX4_init := by decide +kernel
theorem lkX4_init_9 : Cond.fieldLink yX4_init.cls 9 (TX4 0).1 (TX4 0).2.1 (TX4 0).2.2.1 ∈ wsX4_init := by decide +kernel
theorem lkX4_init_15 : Cond.fieldLink yX4_init.cls 15 (TX4 1).1 (TX4 1).2.1 (TX4 1).2.2.1 ∈ wsX4_init := by decide +kernel
theorem lkX4_init_18 : Cond.fieldLink yX4_init.cls 18 (TX4 2).1 (TX4 2).2.1 (TX4 2).2.2.1 ∈ wsX4_init := by decide +kernel
set_option maxHeartbeats 4000000 in
set_option maxRecDepth 100000 in
theorem mX4_init {l : Launch} {D : va_G} {cI cJ cZ cO : ClassId} {q : Nat} : jMv l D (jT cI cJ cZ cO) gk yX4_init wsX4_init rmX4_init [.ref q] [(q, .inr (4, [.null, .null, .null, .int 0, .int 0]))] (fun _ : Nat × Nat × Nat => True) (fun z : Nat × Nat × Nat => [(q, .inr (4, [.ref z.1, .ref z.2.1, .ref z.2.2, .int 0, .int 0])), (z.1, .inl (cI, 2610, .inl (fun _ => 0))), (z.2.1, .inl (cI, 10, .inl (fun _ => 0))), (z.2.2, .inl (cI, 10, .inl (fun _ => 0)))]) 3 2630 := by
  refine j_ofv (cc := cX4_init) (maxL := 1) (ret := none) (by decide) rfl (Nat.le_of_ble_eq_true rfl) ?_
  intro p e s m args below meth c A C hr hnm hG
  refine j_sub (lv' := [(0, .ref q)]) [0] rfl ?_
  refine j_aload_n (pc := 0) C dX4_init_0 0 rfl rfl ?_
  refine j_objInit (pc := 1) C (by decide +kernel) (by decide +kernel) (by decide +kernel) dX4_init_1 ⟨(Nat.le_of_ble_eq_true rfl), (Nat.le_of_ble_eq_true rfl)⟩ ?_
  refine j_aload_n (pc := 4) C dX4_init_4 0 rfl rfl ?_
  refine j_sipush (pc := 5) (v := 2610) C dX4_init_5 (by decide) ?_
  refine j_newa (ty := .int) (a0 := (2610, .inl (fun _ => 0))) (pc := 8) C rfl (by decide +kernel) 0 rfl (fun _ _ => ra_int) (fun _ => rfl) (by decide) rfl (Nat.le_of_ble_eq_true rfl) (Nat.le_of_ble_eq_true rfl) (Nat.le_of_ble_eq_true rfl) dX4_init_8 (fun z0 => ?_)
  refine j_eqc (k := 1) (n := 2610) rfl rfl ?_
  refine j_ws (ws' := [(q, .inr (4, [.null, .null, .null, .int 0, .int 0])), (z0, .inl (cI, 2610, .inl (fun _ => 0)))]) rfl ?_
  refine j_putF (v := .ref z0) (pc := 10) C hiX4_init_X4 tyX4 tyX4_ok nmX4 hnm 0 rfl rfl 0 (by decide) lkX4_init_9 rfl rfl rfl rfl (Nat.le_of_ble_eq_true rfl) dX4_init_10 ?_
  refine j_ws (ws' := [(q, .inr (4, [.ref z0, .null, .null, .int 0, .int 0])), (z0, .inl (cI, 2610, .inl (fun _ => 0)))]) rfl ?_
  refine j_aload_n (pc := 13) C dX4_init_13 0 rfl rfl ?_
  refine j_bipush (pc := 14) (v := 10) C dX4_init_14 (by decide) ?_
  refine j_newa (ty := .int) (a0 := (10, .inl (fun _ => 0))) (pc := 16) C rfl (by decide +kernel) 0 rfl (fun _ _ => ra_int) (fun _ => rfl) (by decide) rfl (Nat.le_of_ble_eq_true rfl) (Nat.le_of_ble_eq_true rfl) (Nat.le_of_ble_eq_true rfl) dX4_init_16 (fun z1 => ?_)
  refine j_eqc (k := 2) (n := 2620) rfl rfl ?_
  refine j_ws (ws' := [(q, .inr (4, [.ref z0, .null, .null, .int 0, .int 0])), (z0, .inl (cI, 2610, .inl (fun _ => 0))), (z1, .inl (cI, 10, .inl (fun _ => 0)))]) rfl ?_
  refine j_putF (v := .ref z1) (pc := 18) C hiX4_init_X4 tyX4 tyX4_ok nmX4 hnm 0 rfl rfl 1 (by decide) lkX4_init_15 rfl rfl rfl rfl (Nat.le_of_ble_eq_true rfl) dX4_init_18 ?_
  refine j_ws (ws' := [(q, .inr (4, [.ref z0, .ref z1, .null, .int 0, .int 0])), (z0, .inl (cI, 2610, .inl (fun _ => 0))), (z1, .inl (cI, 10, .inl (fun _ => 0)))]) rfl ?_
  refine j_aload_n (pc := 21) C dX4_init_21 0 rfl rfl ?_
  refine j_bipush (pc := 22) (v := 10) C dX4_init_22 (by decide) ?_
  refine j_newa (ty := .int) (a0 := (10, .inl (fun _ => 0))) (pc := 24) C rfl (by decide +kernel) 0 rfl (fun _ _ => ra_int) (fun _ => rfl) (by decide) rfl (Nat.le_of_ble_eq_true rfl) (Nat.le_of_ble_eq_true rfl) (Nat.le_of_ble_eq_true rfl) dX4_init_24 (fun z2 => ?_)
  refine j_eqc (k := 3) (n := 2630) rfl rfl ?_
  refine j_ws (ws' := [(q, .inr (4, [.ref z0, .ref z1, .null, .int 0, .int 0])), (z0, .inl (cI, 2610, .inl (fun _ => 0))), (z1, .inl (cI, 10, .inl (fun _ => 0))), (z2, .inl (cI, 10, .inl (fun _ => 0)))]) rfl ?_
  refine j_putF (v := .ref z2) (pc := 26) C hiX4_init_X4 tyX4 tyX4_ok nmX4 hnm 0 rfl rfl 2 (by decide) lkX4_init_18 rfl rfl rfl rfl (Nat.le_of_ble_eq_true rfl) dX4_init_26 ?_
  refine j_ws (ws' := [(q, .inr (4, [.ref z0, .ref z1, .ref z2, .int 0, .int 0])), (z0, .inl (cI, 2610, .inl (fun _ => 0))), (z1, .inl (cI, 10, .inl (fun _ => 0))), (z2, .inl (cI, 10, .inl (fun _ => 0)))]) rfl ?_
  exact j_vret (pc := 29) C hr (z0, z1, z2) rfl trivial dX4_init_29
def rmX0_init : Room := { frames := 1, cells := 2, slots := 24, locals := 20 }
theorem hiX0_init_X0 : ∀ w ∈ u_ws RX0 TX0 12, w ∈ wsX0_init := by decide +kernel
theorem lkX0_init_9 : Cond.fieldLink yX0_init.cls 9 (TX0 0).1 (TX0 0).2.1 (TX0 0).2.2.1 ∈ wsX0_init := by decide +kernel
theorem lkX0_init_15 : Cond.fieldLink yX0_init.cls 15 (TX0 4).1 (TX0 4).2.1 (TX0 4).2.2.1 ∈ wsX0_init := by decide +kernel
theorem lkX0_init_18 : Cond.fieldLink yX0_init.cls 18 (TX0 10).1 (TX0 10).2.1 (TX0 10).2.2.1 ∈ wsX0_init := by decide +kernel
theorem lkX0_init_22 : Cond.fieldLink yX0_init.cls 22 (TX0 11).1 (TX0 11).2.1 (TX0 11).2.2.1 ∈ wsX0_init := by decide +kernel
set_option maxHeartbeats 4000000 in
set_option maxRecDepth 100000 in
theorem mX0_init {l : Launch} {D : va_G} {cI cJ cZ cO : ClassId} {q : Nat} : jMv l D (jT cI cJ cZ cO) gk yX0_init wsX0_init rmX0_init [.ref q] [(q, .inr (0, [.int 0, .int 0, .int 0, .int 0, .int 0, .int 0, .int 0, .int 0, .int 0, .int 0, .null, .null]))] (fun _ : Nat × Nat => True) (fun z : Nat × Nat => [(q, .inr (0, [.int 0, .int 0, .int 0, .int 0, .int (-1), .int 0, .int 0, .int 0, .int 0, .int 0, .ref z.1, .ref z.2])), (z.1, .inl (cI, 12, .inl (fun _ => 0))), (z.2, .inl (cI, 12, .inl (fun _ => 0)))]) 2 24 := by
  refine j_ofv (cc := cX0_init) (maxL := 1) (ret := none) (by decide) rfl (Nat.le_of_ble_eq_true rfl) ?_
  intro p e s m args below meth c A C hr hnm hG
  refine j_sub (lv' := [(0, .ref q)]) [0] rfl ?_
  refine j_aload_n (pc := 0) C dX0_init_0 0 rfl rfl ?_
  refine j_objInit (pc := 1) C (by decide +kernel) (by decide +kernel) (by decide +kernel) dX0_init_1 ⟨(Nat.le_of_ble_eq_true rfl), (Nat.le_of_ble_eq_true rfl)⟩ ?_
  refine j_aload_n (pc := 4) C dX0_init_4 0 rfl rfl ?_
  refine j_iconst (pc := 5) (v := 0) C dX0_init_5 (by decide) ?_
  refine j_put (v := .int 0) (pc := 6) C hiX0_init_X0 tyX0 tyX0_ok nmX0 0 rfl rfl 0 (by decide) lkX0_init_9 rfl rfl rfl (Nat.le_of_ble_eq_true rfl) dX0_init_6 ?_
  refine j_ws (ws' := [(q, .inr (0, [.int 0, .int 0, .int 0, .int 0, .int 0, .int 0, .int 0, .int 0, .int 0, .int 0, .null, .null]))]) rfl ?_
  refine j_aload_n (pc := 9) C dX0_init_9 0 rfl rfl ?_
  refine j_iconst (pc := 10) (v := (-1)) C dX0_init_10 (by decide) ?_
  refine j_put (v := .int (-1)) (pc := 11) C hiX0_init_X0 tyX0 tyX0_ok nmX0 0 rfl rfl 4 (by decide) lkX0_init_15 rfl rfl rfl (Nat.le_of_ble_eq_true rfl) dX0_init_11 ?_
  refine j_ws (ws' := [(q, .inr (0, [.int 0, .int 0, .int 0, .int 0, .int (-1), .int 0, .int 0, .int 0, .int 0, .int 0, .null, .null]))]) rfl ?_
  refine j_aload_n (pc := 14) C dX0_init_14 0 rfl rfl ?_
  refine j_bipush (pc := 15) (v := 12) C dX0_init_15 (by decide) ?_
  refine j_newa (ty := .int) (a0 := (12, .inl (fun _ => 0))) (pc := 17) C rfl (by decide +kernel) 0 rfl (fun _ _ => ra_int) (fun _ => rfl) (by decide) rfl (Nat.le_of_ble_eq_true rfl) (Nat.le_of_ble_eq_true rfl) (Nat.le_of_ble_eq_true rfl) dX0_init_17 (fun z0 => ?_)
  refine j_eqc (k := 1) (n := 12) rfl rfl ?_
  refine j_ws (ws' := [(q, .inr (0, [.int 0, .int 0, .int 0, .int 0, .int (-1), .int 0, .int 0, .int 0, .int 0, .int 0, .null, .null])), (z0, .inl (cI, 12, .inl (fun _ => 0)))]) rfl ?_
  refine j_putF (v := .ref z0) (pc := 19) C hiX0_init_X0 tyX0 tyX0_ok nmX0 hnm 0 rfl rfl 10 (by decide) lkX0_init_18 rfl rfl rfl rfl (Nat.le_of_ble_eq_true rfl) dX0_init_19 ?_
  refine j_ws (ws' := [(q, .inr (0, [.int 0, .int 0, .int 0, .int 0, .int (-1), .int 0, .int 0, .int 0, .int 0, .int 0, .ref z0, .null])), (z0, .inl (cI, 12, .inl (fun _ => 0)))]) rfl ?_
  refine j_aload_n (pc := 22) C dX0_init_22 0 rfl rfl ?_
  refine j_bipush (pc := 23) (v := 12) C dX0_init_23 (by decide) ?_
  refine j_newa (ty := .int) (a0 := (12, .inl (fun _ => 0))) (pc := 25) C rfl (by decide +kernel) 0 rfl (fun _ _ => ra_int) (fun _ => rfl) (by decide) rfl (Nat.le_of_ble_eq_true rfl) (Nat.le_of_ble_eq_true rfl) (Nat.le_of_ble_eq_true rfl) dX0_init_25 (fun z1 => ?_)
  refine j_eqc (k := 2) (n := 24) rfl rfl ?_
  refine j_ws (ws' := [(q, .inr (0, [.int 0, .int 0, .int 0, .int 0, .int (-1), .int 0, .int 0, .int 0, .int 0, .int 0, .ref z0, .null])), (z0, .inl (cI, 12, .inl (fun _ => 0))), (z1, .inl (cI, 12, .inl (fun _ => 0)))]) rfl ?_
  refine j_putF (v := .ref z1) (pc := 27) C hiX0_init_X0 tyX0 tyX0_ok nmX0 hnm 0 rfl rfl 11 (by decide) lkX0_init_22 rfl rfl rfl rfl (Nat.le_of_ble_eq_true rfl) dX0_init_27 ?_
  refine j_ws (ws' := [(q, .inr (0, [.int 0, .int 0, .int 0, .int 0, .int (-1), .int 0, .int 0, .int 0, .int 0, .int 0, .ref z0, .ref z1])), (z0, .inl (cI, 12, .inl (fun _ => 0))), (z1, .inl (cI, 12, .inl (fun _ => 0)))]) rfl ?_
  exact j_vret (pc := 30) C hr (z0, z1) rfl trivial dX0_init_30
def rmX1_init : Room := { frames := 2, cells := 2, slots := 68, locals := 41 }
theorem hiX1_init_X1 : ∀ w ∈ u_ws RX1 TX1 12, w ∈ wsX1_init := by decide +kernel
theorem hiX1_init_X2 : ∀ w ∈ u_ws RX2 TX2 8, w ∈ wsX1_init := by decide +kernel
theorem lkX1_init_9 : Cond.fieldLink yX1_init.cls 9 (TX1 0).1 (TX1 0).2.1 (TX1 0).2.2.1 ∈ wsX1_init := by decide +kernel
theorem lkX1_init_15 : Cond.fieldLink yX1_init.cls 15 (TX1 1).1 (TX1 1).2.1 (TX1 1).2.2.1 ∈ wsX1_init := by decide +kernel
theorem lkX1_init_18 : Cond.fieldLink yX1_init.cls 18 (TX1 2).1 (TX1 2).2.1 (TX1 2).2.2.1 ∈ wsX1_init := by decide +kernel
theorem lkX1_init_23 : Cond.fieldLink yX1_init.cls 23 (TX1 5).1 (TX1 5).2.1 (TX1 5).2.2.1 ∈ wsX1_init := by decide +kernel
theorem lkX1_init_30 : Cond.fieldLink yX1_init.cls 30 (TX1 11).1 (TX1 11).2.1 (TX1 11).2.2.1 ∈ wsX1_init := by decide +kernel
set_option maxHeartbeats 4000000 in
set_option maxRecDepth 100000 in
theorem mX1_init {l : Launch} {D : va_G} {cI cJ cZ cO : ClassId} {q : Nat} : jMv l D (jT cI cJ cZ cO) gk yX1_init wsX1_init rmX1_init [.ref q] [(q, .inr (1, [.int 0, .int 0, .int 0, .null, .int 0, .null, .int 0, .int 0, .int 0, .int 0, .int 0, .null]))] (fun _ : Nat × Nat => True) (fun z : Nat × Nat => [(q, .inr (1, [.int 5, .int 20, .int 30, .null, .int 0, .ref z.1, .int 0, .int 0, .int 0, .int 0, .int 0, .ref z.2])), (z.1, .inl (cO, 60, .inr (.inr (.inr (.inr (fun _ => none)))))), (z.2, .inr (2, [.null, .int 0, .int 0, .int 0, .int 0, .int 0, .int 0, .int 0]))]) 2 68 := by
  refine j_ofv (cc := cX1_init) (maxL := 1) (ret := none) (by decide) rfl (Nat.le_of_ble_eq_true rfl) ?_
  intro p e s m args below meth c A C hr hnm hG
  refine j_sub (lv' := [(0, .ref q)]) [0] rfl ?_
  refine j_aload_n (pc := 0) C dX1_init_0 0 rfl rfl ?_
  refine j_objInit (pc := 1) C (by decide +kernel) (by decide +kernel) (by decide +kernel) dX1_init_1 ⟨(Nat.le_of_ble_eq_true rfl), (Nat.le_of_ble_eq_true rfl)⟩ ?_
  refine j_aload_n (pc := 4) C dX1_init_4 0 rfl rfl ?_
  refine j_iconst (pc := 5) (v := 5) C dX1_init_5 (by decide) ?_
  refine j_put (v := .int 5) (pc := 6) C hiX1_init_X1 tyX1 tyX1_ok nmX1 0 rfl rfl 0 (by decide) lkX1_init_9 rfl rfl rfl (Nat.le_of_ble_eq_true rfl) dX1_init_6 ?_
  refine j_ws (ws' := [(q, .inr (1, [.int 5, .int 0, .int 0, .null, .int 0, .null, .int 0, .int 0, .int 0, .int 0, .int 0, .null]))]) rfl ?_
  refine j_aload_n (pc := 9) C dX1_init_9 0 rfl rfl ?_
  refine j_bipush (pc := 10) (v := 20) C dX1_init_10 (by decide) ?_
  refine j_put (v := .int 20) (pc := 12) C hiX1_init_X1 tyX1 tyX1_ok nmX1 0 rfl rfl 1 (by decide) lkX1_init_15 rfl rfl rfl (Nat.le_of_ble_eq_true rfl) dX1_init_12 ?_
  refine j_ws (ws' := [(q, .inr (1, [.int 5, .int 20, .int 0, .null, .int 0, .null, .int 0, .int 0, .int 0, .int 0, .int 0, .null]))]) rfl ?_
  refine j_aload_n (pc := 15) C dX1_init_15 0 rfl rfl ?_
  refine j_bipush (pc := 16) (v := 30) C dX1_init_16 (by decide) ?_
  refine j_put (v := .int 30) (pc := 18) C hiX1_init_X1 tyX1 tyX1_ok nmX1 0 rfl rfl 2 (by decide) lkX1_init_18 rfl rfl rfl (Nat.le_of_ble_eq_true rfl) dX1_init_18 ?_
  refine j_ws (ws' := [(q, .inr (1, [.int 5, .int 20, .int 30, .null, .int 0, .null, .int 0, .int 0, .int 0, .int 0, .int 0, .null]))]) rfl ?_
  refine j_aload_n (pc := 21) C dX1_init_21 0 rfl rfl ?_
  refine j_bipush (pc := 22) (v := 60) C dX1_init_22 (by decide) ?_
  refine j_newq (pc := 24) C (K := RX2) (by decide +kernel) hG.1 3 rfl (by decide) rfl (Nat.le_of_ble_eq_true rfl) (Nat.le_of_ble_eq_true rfl) (Nat.le_of_ble_eq_true rfl) dX1_init_24 (fun z0 => ?_)
  refine j_eqc (k := 1) (n := 60) rfl rfl ?_
  refine j_ws (ws' := [(q, .inr (1, [.int 5, .int 20, .int 30, .null, .int 0, .null, .int 0, .int 0, .int 0, .int 0, .int 0, .null])), (z0, .inl (cO, 60, .inr (.inr (.inr (.inr (fun _ => none))))))]) rfl ?_
  refine j_putF (v := .ref z0) (pc := 27) C hiX1_init_X1 tyX1 tyX1_ok nmX1 hnm 0 rfl rfl 5 (by decide) lkX1_init_23 rfl rfl rfl rfl (Nat.le_of_ble_eq_true rfl) dX1_init_27 ?_
  refine j_ws (ws' := [(q, .inr (1, [.int 5, .int 20, .int 30, .null, .int 0, .ref z0, .int 0, .int 0, .int 0, .int 0, .int 0, .null])), (z0, .inl (cO, 60, .inr (.inr (.inr (.inr (fun _ => none))))))]) rfl ?_
  refine j_aload_n (pc := 30) C dX1_init_30 0 rfl rfl ?_
  refine j_new (ci := 2) (fs := [.null, .int 0, .int 0, .int 0, .int 0, .int 0, .int 0, .int 0]) (pc := 31) C hiX1_init_X2 tyX2 tyX2_ok (by decide +kernel) (by decide +kernel) (by decide +kernel) rfl (fun j hj => by rcases (show j = 0 ∨ j = 1 ∨ j = 2 ∨ j = 3 ∨ j = 4 ∨ j = 5 ∨ j = 6 ∨ j = 7 by omega) with rfl | rfl | rfl | rfl | rfl | rfl | rfl | rfl <;> rfl) (Nat.le_of_ble_eq_true rfl) (Nat.le_of_ble_eq_true rfl) dX1_init_31 (fun z1 => ?_)
  refine j_eqc (k := 2) (n := 68) rfl rfl ?_
  refine j_ws (ws' := [(q, .inr (1, [.int 5, .int 20, .int 30, .null, .int 0, .ref z0, .int 0, .int 0, .int 0, .int 0, .int 0, .null])), (z0, .inl (cO, 60, .inr (.inr (.inr (.inr (fun _ => none)))))), (z1, .inr (2, [.null, .int 0, .int 0, .int 0, .int 0, .int 0, .int 0, .int 0]))]) rfl ?_
  refine j_dup (pc := 34) C dX1_init_34 rfl ?_
  refine j_aconst_null (pc := 35) C dX1_init_35 ?_
  refine j_ws (ws' := [(q, .inr (1, [.int 5, .int 20, .int 30, .null, .int 0, .ref z0, .int 0, .int 0, .int 0, .int 0, .int 0, .null])), (z0, .inl (cO, 60, .inr (.inr (.inr (.inr (fun _ => none))))))] ++ [(z1, .inr (2, [.null, .int 0, .int 0, .int 0, .int 0, .int 0, .int 0, .int 0]))]) rfl ?_
  refine j_ctor (pc := 36) C gk_ok hG 1 (mX2_initN (q := z1)) gX1_init_X2_init rfl rfl rfl (by decide +kernel) (by decide +kernel) (by decide +kernel) rfl (by decide +kernel) ⟨(Nat.le_of_ble_eq_true rfl), (Nat.le_of_ble_eq_true rfl)⟩ rfl rfl (Nat.le_of_ble_eq_true rfl) dX1_init_36 ⟨(Nat.le_of_ble_eq_true rfl), (Nat.le_of_ble_eq_true rfl)⟩ (fun u2 hu2 => ?_)
  refine j_eqc (k := 2) (n := 68) rfl rfl ?_
  refine j_ws (ws' := [(q, .inr (1, [.int 5, .int 20, .int 30, .null, .int 0, .ref z0, .int 0, .int 0, .int 0, .int 0, .int 0, .null])), (z0, .inl (cO, 60, .inr (.inr (.inr (.inr (fun _ => none)))))), (z1, .inr (2, [.null, .int 0, .int 0, .int 0, .int 0, .int 0, .int 0, .int 0]))]) rfl ?_
  refine j_putF (v := .ref z1) (pc := 39) C hiX1_init_X1 tyX1 tyX1_ok nmX1 hnm 0 rfl rfl 11 (by decide) lkX1_init_30 rfl rfl rfl rfl (Nat.le_of_ble_eq_true rfl) dX1_init_39 ?_
  refine j_ws (ws' := [(q, .inr (1, [.int 5, .int 20, .int 30, .null, .int 0, .ref z0, .int 0, .int 0, .int 0, .int 0, .int 0, .ref z1])), (z0, .inl (cO, 60, .inr (.inr (.inr (.inr (fun _ => none)))))), (z1, .inr (2, [.null, .int 0, .int 0, .int 0, .int 0, .int 0, .int 0, .int 0]))]) rfl ?_
  exact j_vret (pc := 42) C hr (z0, z1) rfl trivial dX1_init_42
def aInit : jSS := (fun k j => if k = 0 then (if j = 13 then -9 else 0) else if k = 3 then (if j = 4 then -1 else 0) else 0, 0, fun _ => none)
def bInit (g : Nat) : jGS := (fun j => if j = 0 then 5 else if j = 1 then 20 else if j = 2 then 30 else 0, none, fun _ => none, [g], fun _ _ => 0, fun _ => none)
def xInit : jXS := fun _ => 0
def rInit : jRS := (fun k => if k = 0 then (fun j => if j = 1 then 5 else if j = 2 then 20 else if j = 3 then 30 else if j = 5 then 3 else 0) else if k = 31 then upd (upd (fun _ => 0) 0 (-9)) 1 (-9) else if k = 43 then upd (upd (fun _ => 0) 0 (-9)) 1 (-9) else fun _ => 0, fun _ => 0)
def rmX5_init : Room := { frames := 2, cells := 9, slots := 2935, locals := 40 }
theorem hiX5_init_X3 : ∀ w ∈ u_ws RX3 TX3 2, w ∈ wsX5_init := by decide +kernel
theorem hiX5_init_X5 : ∀ w ∈ u_ws RX5 TX5 16, w ∈ wsX5_init := by decide +kernel
theorem hiX5_init_X4 : ∀ w ∈ u_ws RX4 TX4 5, w ∈ wsX5_init := by decide +kernel
theorem hiX5_init_X0 : ∀ w ∈ u_ws RX0 TX0 12, w ∈ wsX5_init := by decide +kernel
theorem lkX5_init_12 : Cond.fieldLink yX5_init.cls 12 (TX5 0).1 (TX5 0).2.1 (TX5 0).2.2.1 ∈ wsX5_init := by decide +kernel
theorem lkX5_init_21 : Cond.fieldLink yX5_init.cls 21 (TX5 1).1 (TX5 1).2.1 (TX5 1).2.2.1 ∈ wsX5_init := by decide +kernel
theorem lkX5_init_28 : Cond.fieldLink yX5_init.cls 28 (TX5 2).1 (TX5 2).2.1 (TX5 2).2.2.1 ∈ wsX5_init := by decide +kernel
theorem lkX5_init_32 : Cond.fieldLink yX5_init.cls 32 (TX5 13).1 (TX5 13).2.1 (TX5 13).2.2.1 ∈ wsX5_init := by decide +kernel
set_option maxHeartbeats 4000000 in
set_option maxRecDepth 100000 in
theorem mX5_init {l : Launch} {D : va_G} {cI cJ cZ cO : ClassId} {q : Nat} : jMv l D (jT cI cJ cZ cO) gk yX5_init wsX5_init rmX5_init [.ref q] [(q, .inr (5, [.null, .null, .null, .int 0, .int 0, .int 0, .int 0, .int 0, .int 0, .int 0, .int 0, .int 0, .int 0, .int 0, .int 0, .long 0]))] (fun f : Nat → Nat => f 0 = q) (fun f : Nat → Nat => scells f cI cO aInit) 9 2935 := by
  refine j_ofv (cc := cX5_init) (maxL := 1) (ret := none) (by decide) rfl (Nat.le_of_ble_eq_true rfl) ?_
  intro p e s m args below meth c A C hr hnm hG
  refine j_sub (lv' := [(0, .ref q)]) [0] rfl ?_
  refine j_aload_n (pc := 0) C dX5_init_0 0 rfl rfl ?_
  refine j_objInit (pc := 1) C (by decide +kernel) (by decide +kernel) (by decide +kernel) dX5_init_1 ⟨(Nat.le_of_ble_eq_true rfl), (Nat.le_of_ble_eq_true rfl)⟩ ?_
  refine j_aload_n (pc := 4) C dX5_init_4 0 rfl rfl ?_
  refine j_new (ci := 3) (fs := [.null, .int 0]) (pc := 5) C hiX5_init_X3 tyX3 tyX3_ok (by decide +kernel) (by decide +kernel) (by decide +kernel) rfl (fun j hj => by rcases (show j = 0 ∨ j = 1 by omega) with rfl | rfl <;> rfl) (Nat.le_of_ble_eq_true rfl) (Nat.le_of_ble_eq_true rfl) dX5_init_5 (fun z0 => ?_)
  refine j_eqc (k := 1) (n := 2) rfl rfl ?_
  refine j_ws (ws' := [(q, .inr (5, [.null, .null, .null, .int 0, .int 0, .int 0, .int 0, .int 0, .int 0, .int 0, .int 0, .int 0, .int 0, .int 0, .int 0, .long 0])), (z0, .inr (3, [.null, .int 0]))]) rfl ?_
  refine j_dup (pc := 8) C dX5_init_8 rfl ?_
  refine j_ws (ws' := [(q, .inr (5, [.null, .null, .null, .int 0, .int 0, .int 0, .int 0, .int 0, .int 0, .int 0, .int 0, .int 0, .int 0, .int 0, .int 0, .long 0]))] ++ [(z0, .inr (3, [.null, .int 0]))]) rfl ?_
  refine j_ctorN (pc := 9) C gk_ok hG 0 (mX3_init (q := z0)) gX5_init_X3_init_n11 rfl rfl rfl hG.2.2.2.1 (by decide +kernel) (by decide +kernel) rfl (by decide +kernel) ⟨(Nat.le_of_ble_eq_true rfl), (Nat.le_of_ble_eq_true rfl)⟩ rfl rfl (Nat.le_of_ble_eq_true rfl) dX5_init_9 ⟨(Nat.le_of_ble_eq_true rfl), (Nat.le_of_ble_eq_true rfl)⟩ (fun u1 hu1 => ?_)
  refine j_eqc (k := 2) (n := 264) rfl rfl ?_
  refine j_ws (ws' := [(q, .inr (5, [.null, .null, .null, .int 0, .int 0, .int 0, .int 0, .int 0, .int 0, .int 0, .int 0, .int 0, .int 0, .int 0, .int 0, .long 0])), (z0, .inr (3, [.ref u1, .int 0])), (u1, .inl (cO, 262, .inr (.inr (.inr (.inr (fun _ => none))))))]) rfl ?_
  refine j_putF (v := .ref z0) (pc := 12) C hiX5_init_X5 tyX5 tyX5_ok nmX5 hnm 0 rfl rfl 0 (by decide) lkX5_init_12 rfl rfl rfl rfl (Nat.le_of_ble_eq_true rfl) dX5_init_12 ?_
  refine j_ws (ws' := [(q, .inr (5, [.ref z0, .null, .null, .int 0, .int 0, .int 0, .int 0, .int 0, .int 0, .int 0, .int 0, .int 0, .int 0, .int 0, .int 0, .long 0])), (z0, .inr (3, [.ref u1, .int 0])), (u1, .inl (cO, 262, .inr (.inr (.inr (.inr (fun _ => none))))))]) rfl ?_
  refine j_aload_n (pc := 15) C dX5_init_15 0 rfl rfl ?_
  refine j_new (ci := 4) (fs := [.null, .null, .null, .int 0, .int 0]) (pc := 16) C hiX5_init_X4 tyX4 tyX4_ok (by decide +kernel) (by decide +kernel) (by decide +kernel) rfl (fun j hj => by rcases (show j = 0 ∨ j = 1 ∨ j = 2 ∨ j = 3 ∨ j = 4 by omega) with rfl | rfl | rfl | rfl | rfl <;> rfl) (Nat.le_of_ble_eq_true rfl) (Nat.le_of_ble_eq_true rfl) dX5_init_16 (fun z2 => ?_)
  refine j_eqc (k := 3) (n := 269) rfl rfl ?_
  refine j_ws (ws' := [(q, .inr (5, [.ref z0, .null, .null, .int 0, .int 0, .int 0, .int 0, .int 0, .int 0, .int 0, .int 0, .int 0, .int 0, .int 0, .int 0, .long 0])), (z0, .inr (3, [.ref u1, .int 0])), (u1, .inl (cO, 262, .inr (.inr (.inr (.inr (fun _ => none)))))), (z2, .inr (4, [.null, .null, .null, .int 0, .int 0]))]) rfl ?_
  refine j_dup (pc := 19) C dX5_init_19 rfl ?_
  refine j_ws (ws' := [(q, .inr (5, [.ref z0, .null, .null, .int 0, .int 0, .int 0, .int 0, .int 0, .int 0, .int 0, .int 0, .int 0, .int 0, .int 0, .int 0, .long 0])), (z0, .inr (3, [.ref u1, .int 0])), (u1, .inl (cO, 262, .inr (.inr (.inr (.inr (fun _ => none))))))] ++ [(z2, .inr (4, [.null, .null, .null, .int 0, .int 0]))]) rfl ?_
  refine j_ctorN (pc := 20) C gk_ok hG 0 (mX4_init (q := z2)) gX5_init_X4_init_n20 rfl rfl rfl hG.2.2.2.2.1 (by decide +kernel) (by decide +kernel) rfl (by decide +kernel) ⟨(Nat.le_of_ble_eq_true rfl), (Nat.le_of_ble_eq_true rfl)⟩ rfl rfl (Nat.le_of_ble_eq_true rfl) dX5_init_20 ⟨(Nat.le_of_ble_eq_true rfl), (Nat.le_of_ble_eq_true rfl)⟩ (fun u3 hu3 => ?_)
  refine j_eqc (k := 6) (n := 2899) rfl rfl ?_
  refine j_ws (ws' := [(q, .inr (5, [.ref z0, .null, .null, .int 0, .int 0, .int 0, .int 0, .int 0, .int 0, .int 0, .int 0, .int 0, .int 0, .int 0, .int 0, .long 0])), (z0, .inr (3, [.ref u1, .int 0])), (u1, .inl (cO, 262, .inr (.inr (.inr (.inr (fun _ => none)))))), (z2, .inr (4, [.ref u3.1, .ref u3.2.1, .ref u3.2.2, .int 0, .int 0])), (u3.1, .inl (cI, 2610, .inl (fun _ => 0))), (u3.2.1, .inl (cI, 10, .inl (fun _ => 0))), (u3.2.2, .inl (cI, 10, .inl (fun _ => 0)))]) rfl ?_
  refine j_putF (v := .ref z2) (pc := 23) C hiX5_init_X5 tyX5 tyX5_ok nmX5 hnm 0 rfl rfl 1 (by decide) lkX5_init_21 rfl rfl rfl rfl (Nat.le_of_ble_eq_true rfl) dX5_init_23 ?_
  refine j_ws (ws' := [(q, .inr (5, [.ref z0, .ref z2, .null, .int 0, .int 0, .int 0, .int 0, .int 0, .int 0, .int 0, .int 0, .int 0, .int 0, .int 0, .int 0, .long 0])), (z0, .inr (3, [.ref u1, .int 0])), (u1, .inl (cO, 262, .inr (.inr (.inr (.inr (fun _ => none)))))), (z2, .inr (4, [.ref u3.1, .ref u3.2.1, .ref u3.2.2, .int 0, .int 0])), (u3.1, .inl (cI, 2610, .inl (fun _ => 0))), (u3.2.1, .inl (cI, 10, .inl (fun _ => 0))), (u3.2.2, .inl (cI, 10, .inl (fun _ => 0)))]) rfl ?_
  refine j_aload_n (pc := 26) C dX5_init_26 0 rfl rfl ?_
  refine j_new (ci := 0) (fs := [.int 0, .int 0, .int 0, .int 0, .int 0, .int 0, .int 0, .int 0, .int 0, .int 0, .null, .null]) (pc := 27) C hiX5_init_X0 tyX0 tyX0_ok (by decide +kernel) (by decide +kernel) (by decide +kernel) rfl (fun j hj => by rcases (show j = 0 ∨ j = 1 ∨ j = 2 ∨ j = 3 ∨ j = 4 ∨ j = 5 ∨ j = 6 ∨ j = 7 ∨ j = 8 ∨ j = 9 ∨ j = 10 ∨ j = 11 by omega) with rfl | rfl | rfl | rfl | rfl | rfl | rfl | rfl | rfl | rfl | rfl | rfl <;> rfl) (Nat.le_of_ble_eq_true rfl) (Nat.le_of_ble_eq_true rfl) dX5_init_27 (fun z4 => ?_)
  refine j_eqc (k := 7) (n := 2911) rfl rfl ?_
  refine j_ws (ws' := [(q, .inr (5, [.ref z0, .ref z2, .null, .int 0, .int 0, .int 0, .int 0, .int 0, .int 0, .int 0, .int 0, .int 0, .int 0, .int 0, .int 0, .long 0])), (z0, .inr (3, [.ref u1, .int 0])), (u1, .inl (cO, 262, .inr (.inr (.inr (.inr (fun _ => none)))))), (z2, .inr (4, [.ref u3.1, .ref u3.2.1, .ref u3.2.2, .int 0, .int 0])), (u3.1, .inl (cI, 2610, .inl (fun _ => 0))), (u3.2.1, .inl (cI, 10, .inl (fun _ => 0))), (u3.2.2, .inl (cI, 10, .inl (fun _ => 0))), (z4, .inr (0, [.int 0, .int 0, .int 0, .int 0, .int 0, .int 0, .int 0, .int 0, .int 0, .int 0, .null, .null]))]) rfl ?_
  refine j_dup (pc := 30) C dX5_init_30 rfl ?_
  refine j_ws (ws' := [(q, .inr (5, [.ref z0, .ref z2, .null, .int 0, .int 0, .int 0, .int 0, .int 0, .int 0, .int 0, .int 0, .int 0, .int 0, .int 0, .int 0, .long 0])), (z0, .inr (3, [.ref u1, .int 0])), (u1, .inl (cO, 262, .inr (.inr (.inr (.inr (fun _ => none)))))), (z2, .inr (4, [.ref u3.1, .ref u3.2.1, .ref u3.2.2, .int 0, .int 0])), (u3.1, .inl (cI, 2610, .inl (fun _ => 0))), (u3.2.1, .inl (cI, 10, .inl (fun _ => 0))), (u3.2.2, .inl (cI, 10, .inl (fun _ => 0)))] ++ [(z4, .inr (0, [.int 0, .int 0, .int 0, .int 0, .int 0, .int 0, .int 0, .int 0, .int 0, .int 0, .null, .null]))]) rfl ?_
  refine j_ctorN (pc := 31) C gk_ok hG 0 (mX0_init (q := z4)) gX5_init_X0_init_n27 rfl rfl rfl hG.2.2.2.2.2 (by decide +kernel) (by decide +kernel) rfl (by decide +kernel) ⟨(Nat.le_of_ble_eq_true rfl), (Nat.le_of_ble_eq_true rfl)⟩ rfl rfl (Nat.le_of_ble_eq_true rfl) dX5_init_31 ⟨(Nat.le_of_ble_eq_true rfl), (Nat.le_of_ble_eq_true rfl)⟩ (fun u5 hu5 => ?_)
  refine j_eqc (k := 9) (n := 2935) rfl rfl ?_
  refine j_ws (ws' := [(q, .inr (5, [.ref z0, .ref z2, .null, .int 0, .int 0, .int 0, .int 0, .int 0, .int 0, .int 0, .int 0, .int 0, .int 0, .int 0, .int 0, .long 0])), (z0, .inr (3, [.ref u1, .int 0])), (u1, .inl (cO, 262, .inr (.inr (.inr (.inr (fun _ => none)))))), (z2, .inr (4, [.ref u3.1, .ref u3.2.1, .ref u3.2.2, .int 0, .int 0])), (u3.1, .inl (cI, 2610, .inl (fun _ => 0))), (u3.2.1, .inl (cI, 10, .inl (fun _ => 0))), (u3.2.2, .inl (cI, 10, .inl (fun _ => 0))), (z4, .inr (0, [.int 0, .int 0, .int 0, .int 0, .int (-1), .int 0, .int 0, .int 0, .int 0, .int 0, .ref u5.1, .ref u5.2])), (u5.1, .inl (cI, 12, .inl (fun _ => 0))), (u5.2, .inl (cI, 12, .inl (fun _ => 0)))]) rfl ?_
  refine j_putF (v := .ref z4) (pc := 34) C hiX5_init_X5 tyX5 tyX5_ok nmX5 hnm 0 rfl rfl 2 (by decide) lkX5_init_28 rfl rfl rfl rfl (Nat.le_of_ble_eq_true rfl) dX5_init_34 ?_
  refine j_ws (ws' := [(q, .inr (5, [.ref z0, .ref z2, .ref z4, .int 0, .int 0, .int 0, .int 0, .int 0, .int 0, .int 0, .int 0, .int 0, .int 0, .int 0, .int 0, .long 0])), (z0, .inr (3, [.ref u1, .int 0])), (u1, .inl (cO, 262, .inr (.inr (.inr (.inr (fun _ => none)))))), (z2, .inr (4, [.ref u3.1, .ref u3.2.1, .ref u3.2.2, .int 0, .int 0])), (u3.1, .inl (cI, 2610, .inl (fun _ => 0))), (u3.2.1, .inl (cI, 10, .inl (fun _ => 0))), (u3.2.2, .inl (cI, 10, .inl (fun _ => 0))), (z4, .inr (0, [.int 0, .int 0, .int 0, .int 0, .int (-1), .int 0, .int 0, .int 0, .int 0, .int 0, .ref u5.1, .ref u5.2])), (u5.1, .inl (cI, 12, .inl (fun _ => 0))), (u5.2, .inl (cI, 12, .inl (fun _ => 0)))]) rfl ?_
  refine j_aload_n (pc := 37) C dX5_init_37 0 rfl rfl ?_
  refine j_bipush (pc := 38) (v := (-9)) C dX5_init_38 (by decide) ?_
  refine j_put (v := .int (-9)) (pc := 40) C hiX5_init_X5 tyX5 tyX5_ok nmX5 0 rfl rfl 13 (by decide) lkX5_init_32 rfl rfl rfl (Nat.le_of_ble_eq_true rfl) dX5_init_40 ?_
  refine j_ws (ws' := [(q, .inr (5, [.ref z0, .ref z2, .ref z4, .int 0, .int 0, .int 0, .int 0, .int 0, .int 0, .int 0, .int 0, .int 0, .int 0, .int (-9), .int 0, .long 0])), (z0, .inr (3, [.ref u1, .int 0])), (u1, .inl (cO, 262, .inr (.inr (.inr (.inr (fun _ => none)))))), (z2, .inr (4, [.ref u3.1, .ref u3.2.1, .ref u3.2.2, .int 0, .int 0])), (u3.1, .inl (cI, 2610, .inl (fun _ => 0))), (u3.2.1, .inl (cI, 10, .inl (fun _ => 0))), (u3.2.2, .inl (cI, 10, .inl (fun _ => 0))), (z4, .inr (0, [.int 0, .int 0, .int 0, .int 0, .int (-1), .int 0, .int 0, .int 0, .int 0, .int 0, .ref u5.1, .ref u5.2])), (u5.1, .inl (cI, 12, .inl (fun _ => 0))), (u5.2, .inl (cI, 12, .inl (fun _ => 0)))]) rfl ?_
  obtain ⟨f, hf⟩ : ∃ f : Nat → Nat, f = (fun k => if k = 0 then q else if k = 1 then z0 else if k = 2 then z2 else if k = 3 then z4 else if k = 4 then u3.1 else if k = 5 then u3.2.1 else if k = 6 then u3.2.2 else if k = 7 then u5.1 else if k = 8 then u5.2 else u1) := ⟨_, rfl⟩
  refine j_pick (ws' := scells f cI cO aInit) [0, 1, 3, 7, 4, 5, 6, 8, 9, 2] (by decide) (by subst hf; rfl) ?_
  exact j_vret (pc := 43) C hr f rfl (by subst hf; rfl) dX5_init_43

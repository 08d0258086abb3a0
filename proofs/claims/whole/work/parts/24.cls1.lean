def rmX4_ringPlace : Room := { frames := 0, cells := 0, slots := 0, locals := 0 }
theorem hiX4_ringPlace_X4 : ∀ w ∈ u_ws RX4 TX4 5, w ∈ wsX4_ringPlace := by decide +kernel
theorem lkX4_ringPlace_25 : Cond.fieldLink yX4_ringPlace.cls 25 (TX4 3).1 (TX4 3).2.1 (TX4 3).2.2.1 ∈ wsX4_ringPlace := by decide +kernel
theorem lkX4_ringPlace_9 : Cond.fieldLink yX4_ringPlace.cls 9 (TX4 0).1 (TX4 0).2.1 (TX4 0).2.2.1 ∈ wsX4_ringPlace := by decide +kernel
def wX4_ringPlace (N : Nat) (a : jSS) (x1 : Int32) (post : Int32 → jSS → Prop) : Prop := ∀ x2_3 : Int32, x2_3 = (a.1 2 3) + x1 → ((x2_3 < 2610) → (post x2_3 a)) ∧ ((¬ x2_3 < 2610) → (post (x2_3 - 2610) a))
set_option maxHeartbeats 4000000 in
set_option maxRecDepth 100000 in
theorem mX4_ringPlace {l : Launch} {D : va_G} {cI cJ cZ cO : ClassId} {f : Nat → Nat} {Y : va_W} {N : Nat} {a : jSS} {x1 : Int32} {post : Int32 → jSS → Prop} (hw : wX4_ringPlace N a x1 post) : jMi l D (jT cI cJ cZ cO) gz yX4_ringPlace wsX4_ringPlace rmX4_ringPlace [.ref (f 2), .int x1] (acells f cI cO Y a) post (acells f cI cO Y) 0 0 := by
  refine j_ofi (cc := cX4_ringPlace) (maxL := 3) (ret := (some .int)) (by decide) rfl (Nat.le_of_ble_eq_true rfl) ?_
  intro p e s m args below meth c A C hr hnm hG
  refine j_sub (lv' := [(0, .ref (f 2)), (1, .int x1)]) [0, 1] rfl ?_
  unfold wX4_ringPlace at hw
  refine j_aload_n (pc := 0) C dX4_ringPlace_0 0 rfl rfl ?_
  refine j_get (ref := RX4) (pc := 1) C hiX4_ringPlace_X4 2 (c_at2 f cI cO Y a) rfl 3 (by decide) lkX4_ringPlace_25 (c_fl2_3 f a) dX4_ringPlace_1 ?_
  refine j_iload_n (pc := 4) C dX4_ringPlace_4 1 rfl rfl ?_
  refine j_iadd (pc := 5) C dX4_ringPlace_5 ?_
  refine j_topi (fun x2_3 ex2_3 => ?_)
  have hw := hw x2_3 ex2_3
  refine j_istore_n (pc := 6) (lv' := [(0, .ref (f 2)), (1, .int x1), (2, .int x2_3)]) C [1, 2, 0] dX4_ringPlace_6 rfl (by decide) rfl ?_
  refine j_iload_n (pc := 7) C dX4_ringPlace_7 2 rfl rfl ?_
  refine j_aload_n (pc := 8) C dX4_ringPlace_8 0 rfl rfl ?_
  refine j_get (ref := RX4) (pc := 9) C hiX4_ringPlace_X4 2 (c_at2 f cI cO Y a) rfl 0 (by decide) lkX4_ringPlace_9 (c_fl2_0 f a) dX4_ringPlace_9 ?_
  refine j_alen (pc := 12) (v := 2610) C 4 0 (c_at4 f cI cO Y a) rfl rfl dX4_ringPlace_12 ?_
  refine j_icmp_lt (pc := 13) C 26 dX4_ringPlace_13 (by decide) (fun z_4 => ?_) (fun z_4 => ?_)
  · have hw := hw.1 z_4
    refine j_iload_n (pc := 26) C dX4_ringPlace_26 2 rfl rfl ?_
    exact j_iret (pc := 27) C hr a rfl hw dX4_ringPlace_27
  · have hw := hw.2 z_4
    refine j_iload_n (pc := 16) C dX4_ringPlace_16 2 rfl rfl ?_
    refine j_aload_n (pc := 17) C dX4_ringPlace_17 0 rfl rfl ?_
    refine j_get (ref := RX4) (pc := 18) C hiX4_ringPlace_X4 2 (c_at2 f cI cO Y a) rfl 0 (by decide) lkX4_ringPlace_9 (c_fl2_0 f a) dX4_ringPlace_18 ?_
    refine j_alen (pc := 21) (v := 2610) C 4 0 (c_at4 f cI cO Y a) rfl rfl dX4_ringPlace_21 ?_
    refine j_isub (pc := 22) C dX4_ringPlace_22 ?_
    refine j_goto (pc := 23) C 27 dX4_ringPlace_23 (by decide) ?_
    exact j_iret (pc := 27) C hr a rfl hw dX4_ringPlace_27

def rmX4_beginRound : Room := { frames := 1, cells := 0, slots := 0, locals := 22 }
theorem hiX4_beginRound_X4 : ∀ w ∈ u_ws RX4 TX4 5, w ∈ wsX4_beginRound := by decide +kernel
theorem lkX4_beginRound_15 : Cond.fieldLink yX4_beginRound.cls 15 (TX4 1).1 (TX4 1).2.1 (TX4 1).2.2.1 ∈ wsX4_beginRound := by decide +kernel
theorem lkX4_beginRound_25 : Cond.fieldLink yX4_beginRound.cls 25 (TX4 3).1 (TX4 3).2.1 (TX4 3).2.2.1 ∈ wsX4_beginRound := by decide +kernel
theorem lkX4_beginRound_29 : Cond.fieldLink yX4_beginRound.cls 29 (TX4 4).1 (TX4 4).2.1 (TX4 4).2.2.1 ∈ wsX4_beginRound := by decide +kernel
theorem lkX4_beginRound_18 : Cond.fieldLink yX4_beginRound.cls 18 (TX4 2).1 (TX4 2).2.1 (TX4 2).2.2.1 ∈ wsX4_beginRound := by decide +kernel
def wX4_beginRound_30 (N : Nat) : Nat → jSS → Int32 → (jSS → Prop) → Prop
  | 0, _, _, _ => False
  | n + 1, a, x2, post => ((x2 ≤ 0) → (∀ a_20 : jSS, a_20 = aP a 5 (0 : Int32).toNatClampNeg 0 → ∀ a_21 : jSS, a_21 = aP a_20 6 (0 : Int32).toNatClampNeg 0 → post a_21)) ∧ ((¬ x2 ≤ 0) → (vp_in (x2 - 1) 10 ∧ ∀ v_23 : Int32, v_23 = a.1 5 (x2 - 1).toNatClampNeg → vp_in x2 10 ∧ ∀ a_25 : jSS, a_25 = aP a 5 x2.toNatClampNeg v_23 → vp_in (x2 - 1) 10 ∧ ∀ v_27 : Int32, v_27 = a_25.1 6 (x2 - 1).toNatClampNeg → vp_in x2 10 ∧ ∀ a_29 : jSS, a_29 = aP a_25 6 x2.toNatClampNeg v_27 → ∀ x2_30 : Int32, x2_30 = x2 + (-1) → wX4_beginRound_30 N n a_29 x2_30 post))
set_option maxHeartbeats 4000000 in
set_option maxRecDepth 100000 in
theorem kX4_beginRound_30 {p : Program} {l : Launch} {e : Env} {s : State} {m : MethodId} {args : Array Value} {below : List Frame} {meth : Method} {c : Code} {D : va_G} {cI cJ cZ cO : ClassId} {f : Nat → Nat} {Y : va_W} {A : Nat → Prop} {N : Nat} {post : jSS → Prop} (C : jC p s m args meth c cX4_beginRound 3 yX4_beginRound.cls wsX4_beginRound D (jT cI cJ cZ cO) A) (hr : meth.sig.returnType = none) (hG : gz A s) : ∀ (n : Nat) (a : jSS) (x2 : Int32), wX4_beginRound_30 N n a x2 post → jJ p l e rmX4_beginRound s m args below meth c 0 0 (MQ below (va_Qv post (jE D (jT cI cJ cZ cO) A (acells f cI cO Y)) A) args s 0 0 A) D A 3 (acells f cI cO Y a) [(0, .ref (f 2)), (2, .int x2)] 30 [] := by
  intro n
  induction n with
  | zero =>
    intro a x2 hw
    exact False.elim hw
  | succ n ih =>
    intro a x2 hw
    unfold wX4_beginRound_30 at hw
    refine j_iload_n (pc := 30) C dX4_beginRound_30 1 rfl rfl ?_
    refine j_if_le (pc := 31) C 68 dX4_beginRound_31 (by decide) (fun z_19 => ?_) (fun z_19 => ?_)
    · have hw := hw.1 z_19
      refine j_aload_n (pc := 68) C dX4_beginRound_68 0 rfl rfl ?_
      refine j_get (ref := RX4) (pc := 69) C hiX4_beginRound_X4 2 (c_at2 f cI cO Y a) rfl 1 (by decide) lkX4_beginRound_15 (c_fl2_1 f a) dX4_beginRound_69 ?_
      refine j_iconst (pc := 72) (v := 0) C dX4_beginRound_72 (by decide) ?_
      refine j_iconst (pc := 73) (v := 0) C dX4_beginRound_73 (by decide) ?_
      refine j_iast (pc := 74) C 5 0 (c_at5 f cI cO Y a) rfl (by unfold vp_in; decide) dX4_beginRound_74 (j_ws (c_s5 f cI cO Y a (0 : Int32).toNatClampNeg 0) ?_)
      refine j_nmA (fun a_20 ea_20 => ?_)
      have hw := hw a_20 ea_20
      refine j_aload_n (pc := 75) C dX4_beginRound_75 0 rfl rfl ?_
      refine j_get (ref := RX4) (pc := 76) C hiX4_beginRound_X4 2 (c_at2 f cI cO Y a_20) rfl 2 (by decide) lkX4_beginRound_18 (c_fl2_2 f a_20) dX4_beginRound_76 ?_
      refine j_iconst (pc := 79) (v := 0) C dX4_beginRound_79 (by decide) ?_
      refine j_iconst (pc := 80) (v := 0) C dX4_beginRound_80 (by decide) ?_
      refine j_iast (pc := 81) C 6 0 (c_at6 f cI cO Y a_20) rfl (by unfold vp_in; decide) dX4_beginRound_81 (j_ws (c_s6 f cI cO Y a_20 (0 : Int32).toNatClampNeg 0) ?_)
      refine j_nmA (fun a_21 ea_21 => ?_)
      have hw := hw a_21 ea_21
      exact j_vret (pc := 82) C hr a_21 rfl hw dX4_beginRound_82
    · have hw := hw.2 z_19
      refine j_aload_n (pc := 34) C dX4_beginRound_34 0 rfl rfl ?_
      refine j_get (ref := RX4) (pc := 35) C hiX4_beginRound_X4 2 (c_at2 f cI cO Y a) rfl 1 (by decide) lkX4_beginRound_15 (c_fl2_1 f a) dX4_beginRound_35 ?_
      refine j_iload_n (pc := 38) C dX4_beginRound_38 1 rfl rfl ?_
      refine j_aload_n (pc := 39) C dX4_beginRound_39 0 rfl rfl ?_
      refine j_get (ref := RX4) (pc := 40) C hiX4_beginRound_X4 2 (c_at2 f cI cO Y a) rfl 1 (by decide) lkX4_beginRound_15 (c_fl2_1 f a) dX4_beginRound_40 ?_
      refine j_iload_n (pc := 43) C dX4_beginRound_43 1 rfl rfl ?_
      refine j_iconst (pc := 44) (v := 1) C dX4_beginRound_44 (by decide) ?_
      refine j_isub (pc := 45) C dX4_beginRound_45 ?_
      obtain ⟨h_22, hw⟩ := hw
      refine j_iald (pc := 46) C 5 0 (c_at5 f cI cO Y a) rfl h_22 dX4_beginRound_46 ?_
      refine j_topi (fun v_23 ev_23 => ?_)
      have hw := hw v_23 ev_23
      obtain ⟨h_24, hw⟩ := hw
      refine j_iast (pc := 47) C 5 0 (c_at5 f cI cO Y a) rfl h_24 dX4_beginRound_47 (j_ws (c_s5 f cI cO Y a x2.toNatClampNeg v_23) ?_)
      refine j_nmA (fun a_25 ea_25 => ?_)
      have hw := hw a_25 ea_25
      refine j_aload_n (pc := 48) C dX4_beginRound_48 0 rfl rfl ?_
      refine j_get (ref := RX4) (pc := 49) C hiX4_beginRound_X4 2 (c_at2 f cI cO Y a_25) rfl 2 (by decide) lkX4_beginRound_18 (c_fl2_2 f a_25) dX4_beginRound_49 ?_
      refine j_iload_n (pc := 52) C dX4_beginRound_52 1 rfl rfl ?_
      refine j_aload_n (pc := 53) C dX4_beginRound_53 0 rfl rfl ?_
      refine j_get (ref := RX4) (pc := 54) C hiX4_beginRound_X4 2 (c_at2 f cI cO Y a_25) rfl 2 (by decide) lkX4_beginRound_18 (c_fl2_2 f a_25) dX4_beginRound_54 ?_
      refine j_iload_n (pc := 57) C dX4_beginRound_57 1 rfl rfl ?_
      refine j_iconst (pc := 58) (v := 1) C dX4_beginRound_58 (by decide) ?_
      refine j_isub (pc := 59) C dX4_beginRound_59 ?_
      obtain ⟨h_26, hw⟩ := hw
      refine j_iald (pc := 60) C 6 0 (c_at6 f cI cO Y a_25) rfl h_26 dX4_beginRound_60 ?_
      refine j_topi (fun v_27 ev_27 => ?_)
      have hw := hw v_27 ev_27
      obtain ⟨h_28, hw⟩ := hw
      refine j_iast (pc := 61) C 6 0 (c_at6 f cI cO Y a_25) rfl h_28 dX4_beginRound_61 (j_ws (c_s6 f cI cO Y a_25 x2.toNatClampNeg v_27) ?_)
      refine j_nmA (fun a_29 ea_29 => ?_)
      have hw := hw a_29 ea_29
      obtain ⟨x2_30, ex2_30⟩ : ∃ y : Int32, y = x2 + (-1) := ⟨_, rfl⟩
      have hw := hw x2_30 ex2_30
      refine j_iinc (pc := 62) (v := x2_30) (lv' := [(0, .ref (f 2)), (2, .int x2_30)]) C [1, 0] 1 dX4_beginRound_62 rfl (by rw [ex2_30]; rfl) (by decide) rfl ?_
      refine j_goto (pc := 65) C 30 dX4_beginRound_65 (by decide) ?_
      exact ih _ _ hw
def wX4_beginRound (N : Nat) (a : jSS)  (post : jSS → Prop) : Prop := ∀ x1_31 : Int32, x1_31 = a.1 5 (9 : Int32).toNatClampNeg → wX4_ringPlace N a x1_31 (fun r_32 a_33 => ∀ a_34 : jSS, a_34 = aP a_33 2 3 r_32 → ∀ v_35 : Int32, v_35 = (a_34.1 2 4) - x1_31 → ∀ a_36 : jSS, a_36 = aP a_34 2 4 v_35 → wX4_beginRound_30 N N a_36 9 post)
set_option maxHeartbeats 4000000 in
set_option maxRecDepth 100000 in
theorem mX4_beginRound {l : Launch} {D : va_G} {cI cJ cZ cO : ClassId} {f : Nat → Nat} {Y : va_W} {N : Nat} {a : jSS}  {post : jSS → Prop} (hw : wX4_beginRound N a post) : jMv l D (jT cI cJ cZ cO) gz yX4_beginRound wsX4_beginRound rmX4_beginRound [.ref (f 2)] (acells f cI cO Y a) post (acells f cI cO Y) 0 0 := by
  refine j_ofv (cc := cX4_beginRound) (maxL := 3) (ret := none) (by decide) rfl (Nat.le_of_ble_eq_true rfl) ?_
  intro p e s m args below meth c A C hr hnm hG
  refine j_sub (lv' := [(0, .ref (f 2))]) [0] rfl ?_
  unfold wX4_beginRound at hw
  refine j_aload_n (pc := 0) C dX4_beginRound_0 0 rfl rfl ?_
  refine j_get (ref := RX4) (pc := 1) C hiX4_beginRound_X4 2 (c_at2 f cI cO Y a) rfl 1 (by decide) lkX4_beginRound_15 (c_fl2_1 f a) dX4_beginRound_1 ?_
  refine j_bipush (pc := 4) (v := 9) C dX4_beginRound_4 (by decide) ?_
  refine j_iald (pc := 6) C 5 0 (c_at5 f cI cO Y a) rfl (by unfold vp_in; decide) dX4_beginRound_6 ?_
  refine j_topi (fun x1_31 ex1_31 => ?_)
  have hw := hw x1_31 ex1_31
  refine j_istore_n (pc := 7) (lv' := [(0, .ref (f 2)), (1, .int x1_31)]) C [1, 0] dX4_beginRound_7 rfl (by decide) rfl ?_
  refine j_aload_n (pc := 8) C dX4_beginRound_8 0 rfl rfl ?_
  refine j_aload_n (pc := 9) C dX4_beginRound_9 0 rfl rfl ?_
  refine j_iload_n (pc := 10) C dX4_beginRound_10 1 rfl rfl ?_
  refine j_calli0 (pc := 11) C gz_ok hG 1 (mX4_ringPlace hw) gX4_beginRound_X4_ringPlace rfl rfl rfl (by decide +kernel) ⟨Nat.le_of_ble_eq_true rfl, Nat.le_of_ble_eq_true rfl⟩ 2 (c_at2 f cI cO Y a) rfl rfl rfl (Nat.le_of_ble_eq_true rfl) dX4_beginRound_11 ⟨Nat.le_refl _, Nat.le_refl _⟩ (fun r_32 a_33 hw => ?_)
  refine j_put (pc := 14) C hiX4_beginRound_X4 tyX4 tyX4_ok nmX4 2 (c_at2 f cI cO Y a_33) rfl 3 (by decide) lkX4_beginRound_25 rfl rfl rfl (Nat.le_of_ble_eq_true rfl) dX4_beginRound_14 (j_ws (c_s2_3 f cI cO Y a_33 r_32) ?_)
  refine j_nmA (fun a_34 ea_34 => ?_)
  have hw := hw a_34 ea_34
  refine j_aload_n (pc := 17) C dX4_beginRound_17 0 rfl rfl ?_
  refine j_dup (pc := 18) C dX4_beginRound_18 rfl ?_
  refine j_get (ref := RX4) (pc := 19) C hiX4_beginRound_X4 2 (c_at2 f cI cO Y a_34) rfl 4 (by decide) lkX4_beginRound_29 (c_fl2_4 f a_34) dX4_beginRound_19 ?_
  refine j_iload_n (pc := 22) C dX4_beginRound_22 1 rfl rfl ?_
  refine j_isub (pc := 23) C dX4_beginRound_23 ?_
  refine j_topi (fun v_35 ev_35 => ?_)
  have hw := hw v_35 ev_35
  refine j_put (pc := 24) C hiX4_beginRound_X4 tyX4 tyX4_ok nmX4 2 (c_at2 f cI cO Y a_34) rfl 4 (by decide) lkX4_beginRound_29 rfl rfl rfl (Nat.le_of_ble_eq_true rfl) dX4_beginRound_24 (j_ws (c_s2_4 f cI cO Y a_34 v_35) ?_)
  refine j_nmA (fun a_36 ea_36 => ?_)
  have hw := hw a_36 ea_36
  refine j_bipush (pc := 27) (v := 9) C dX4_beginRound_27 (by decide) ?_
  refine j_istore_n (pc := 29) (lv' := [(0, .ref (f 2)), (1, .int x1_31), (2, .int 9)]) C [1, 2, 0] dX4_beginRound_29 rfl (by decide) rfl ?_
  refine j_sub [0, 2] rfl ?_
  exact kX4_beginRound_30 C hr hG N _ _ hw

def rmX4_keep : Room := { frames := 1, cells := 0, slots := 0, locals := 22 }
theorem hiX4_keep_X4 : ∀ w ∈ u_ws RX4 TX4 5, w ∈ wsX4_keep := by decide +kernel
theorem lkX4_keep_29 : Cond.fieldLink yX4_keep.cls 29 (TX4 4).1 (TX4 4).2.1 (TX4 4).2.2.1 ∈ wsX4_keep := by decide +kernel
theorem lkX4_keep_9 : Cond.fieldLink yX4_keep.cls 9 (TX4 0).1 (TX4 0).2.1 (TX4 0).2.2.1 ∈ wsX4_keep := by decide +kernel
theorem lkX4_keep_15 : Cond.fieldLink yX4_keep.cls 15 (TX4 1).1 (TX4 1).2.1 (TX4 1).2.2.1 ∈ wsX4_keep := by decide +kernel
theorem lkX4_keep_18 : Cond.fieldLink yX4_keep.cls 18 (TX4 2).1 (TX4 2).2.1 (TX4 2).2.2.1 ∈ wsX4_keep := by decide +kernel
def wX4_keep (N : Nat) (a : jSS) (x1 : Int32) (post : jSS → Prop) : Prop := wX4_ringPlace N a (a.1 2 4) (fun r_14 a_15 => ((2610 ≤ (a_15.1 2 4)) → (post a_15)) ∧ ((¬ 2610 ≤ (a_15.1 2 4)) → (((r_14 < 0) → (post a_15)) ∧ ((¬ r_14 < 0) → (((r_14 < 2610) → (vp_in r_14 2610 ∧ ∀ a_20 : jSS, a_20 = aP a_15 4 r_14.toNatClampNeg x1 → ∀ v_21 : Int32, v_21 = (a_20.1 2 4) + 1 → ∀ a_22 : jSS, a_22 = aP a_20 2 4 v_21 → ∀ v_23 : Int32, v_23 = (a_22.1 5 (0 : Int32).toNatClampNeg) + 1 → ∀ a_24 : jSS, a_24 = aP a_22 5 (0 : Int32).toNatClampNeg v_23 → ∀ m_25 : Int32, m_25 = jmax (a_24.1 6 (0 : Int32).toNatClampNeg) x1 → ∀ a_26 : jSS, a_26 = aP a_24 6 (0 : Int32).toNatClampNeg m_25 → post a_26)) ∧ ((¬ r_14 < 2610) → (post a_15)))))))
set_option maxHeartbeats 4000000 in
set_option maxRecDepth 100000 in
theorem mX4_keep {l : Launch} {D : va_G} {cI cJ cZ cO : ClassId} {f : Nat → Nat} {Y : va_W} {N : Nat} {a : jSS} {x1 : Int32} {post : jSS → Prop} (hw : wX4_keep N a x1 post) : jMv l D (jT cI cJ cZ cO) gz yX4_keep wsX4_keep rmX4_keep [.ref (f 2), .int x1] (acells f cI cO Y a) post (acells f cI cO Y) 0 0 := by
  refine j_ofv (cc := cX4_keep) (maxL := 3) (ret := none) (by decide) rfl (Nat.le_of_ble_eq_true rfl) ?_
  intro p e s m args below meth c A C hr hnm hG
  refine j_sub (lv' := [(0, .ref (f 2)), (1, .int x1)]) [0, 1] rfl ?_
  unfold wX4_keep at hw
  refine j_aload_n (pc := 0) C dX4_keep_0 0 rfl rfl ?_
  refine j_aload_n (pc := 1) C dX4_keep_1 0 rfl rfl ?_
  refine j_get (ref := RX4) (pc := 2) C hiX4_keep_X4 2 (c_at2 f cI cO Y a) rfl 4 (by decide) lkX4_keep_29 (c_fl2_4 f a) dX4_keep_2 ?_
  refine j_calli0 (pc := 5) C gz_ok hG 1 (mX4_ringPlace hw) gX4_keep_X4_ringPlace rfl rfl rfl (by decide +kernel) ⟨Nat.le_of_ble_eq_true rfl, Nat.le_of_ble_eq_true rfl⟩ 2 (c_at2 f cI cO Y a) rfl rfl rfl (Nat.le_of_ble_eq_true rfl) dX4_keep_5 ⟨Nat.le_refl _, Nat.le_refl _⟩ (fun r_14 a_15 hw => ?_)
  refine j_istore_n (pc := 8) (lv' := [(0, .ref (f 2)), (1, .int x1), (2, .int r_14)]) C [1, 2, 0] dX4_keep_8 rfl (by decide) rfl ?_
  refine j_aload_n (pc := 9) C dX4_keep_9 0 rfl rfl ?_
  refine j_get (ref := RX4) (pc := 10) C hiX4_keep_X4 2 (c_at2 f cI cO Y a_15) rfl 4 (by decide) lkX4_keep_29 (c_fl2_4 f a_15) dX4_keep_10 ?_
  refine j_aload_n (pc := 13) C dX4_keep_13 0 rfl rfl ?_
  refine j_get (ref := RX4) (pc := 14) C hiX4_keep_X4 2 (c_at2 f cI cO Y a_15) rfl 0 (by decide) lkX4_keep_9 (c_fl2_0 f a_15) dX4_keep_14 ?_
  refine j_alen (pc := 17) (v := 2610) C 4 0 (c_at4 f cI cO Y a_15) rfl rfl dX4_keep_17 ?_
  refine j_icmp_ge (pc := 18) C 34 dX4_keep_18 (by decide) (fun z_16 => ?_) (fun z_16 => ?_)
  · have hw := hw.1 z_16
    exact j_vret (pc := 34) C hr a_15 rfl hw dX4_keep_34
  · have hw := hw.2 z_16
    refine j_iload_n (pc := 21) C dX4_keep_21 2 rfl rfl ?_
    refine j_if_lt (pc := 22) C 34 dX4_keep_22 (by decide) (fun z_17 => ?_) (fun z_17 => ?_)
    · have hw := hw.1 z_17
      exact j_vret (pc := 34) C hr a_15 rfl hw dX4_keep_34
    · have hw := hw.2 z_17
      refine j_iload_n (pc := 25) C dX4_keep_25 2 rfl rfl ?_
      refine j_aload_n (pc := 26) C dX4_keep_26 0 rfl rfl ?_
      refine j_get (ref := RX4) (pc := 27) C hiX4_keep_X4 2 (c_at2 f cI cO Y a_15) rfl 0 (by decide) lkX4_keep_9 (c_fl2_0 f a_15) dX4_keep_27 ?_
      refine j_alen (pc := 30) (v := 2610) C 4 0 (c_at4 f cI cO Y a_15) rfl rfl dX4_keep_30 ?_
      refine j_icmp_lt (pc := 31) C 35 dX4_keep_31 (by decide) (fun z_18 => ?_) (fun z_18 => ?_)
      · have hw := hw.1 z_18
        refine j_aload_n (pc := 35) C dX4_keep_35 0 rfl rfl ?_
        refine j_get (ref := RX4) (pc := 36) C hiX4_keep_X4 2 (c_at2 f cI cO Y a_15) rfl 0 (by decide) lkX4_keep_9 (c_fl2_0 f a_15) dX4_keep_36 ?_
        refine j_iload_n (pc := 39) C dX4_keep_39 2 rfl rfl ?_
        refine j_iload_n (pc := 40) C dX4_keep_40 1 rfl rfl ?_
        obtain ⟨h_19, hw⟩ := hw
        refine j_iast (pc := 41) C 4 0 (c_at4 f cI cO Y a_15) rfl h_19 dX4_keep_41 (j_ws (c_s4 f cI cO Y a_15 r_14.toNatClampNeg x1) ?_)
        refine j_nmA (fun a_20 ea_20 => ?_)
        have hw := hw a_20 ea_20
        refine j_aload_n (pc := 42) C dX4_keep_42 0 rfl rfl ?_
        refine j_dup (pc := 43) C dX4_keep_43 rfl ?_
        refine j_get (ref := RX4) (pc := 44) C hiX4_keep_X4 2 (c_at2 f cI cO Y a_20) rfl 4 (by decide) lkX4_keep_29 (c_fl2_4 f a_20) dX4_keep_44 ?_
        refine j_iconst (pc := 47) (v := 1) C dX4_keep_47 (by decide) ?_
        refine j_iadd (pc := 48) C dX4_keep_48 ?_
        refine j_topi (fun v_21 ev_21 => ?_)
        have hw := hw v_21 ev_21
        refine j_put (pc := 49) C hiX4_keep_X4 tyX4 tyX4_ok nmX4 2 (c_at2 f cI cO Y a_20) rfl 4 (by decide) lkX4_keep_29 rfl rfl rfl (Nat.le_of_ble_eq_true rfl) dX4_keep_49 (j_ws (c_s2_4 f cI cO Y a_20 v_21) ?_)
        refine j_nmA (fun a_22 ea_22 => ?_)
        have hw := hw a_22 ea_22
        refine j_aload_n (pc := 52) C dX4_keep_52 0 rfl rfl ?_
        refine j_get (ref := RX4) (pc := 53) C hiX4_keep_X4 2 (c_at2 f cI cO Y a_22) rfl 1 (by decide) lkX4_keep_15 (c_fl2_1 f a_22) dX4_keep_53 ?_
        refine j_iconst (pc := 56) (v := 0) C dX4_keep_56 (by decide) ?_
        refine j_dup2 (pc := 57) C dX4_keep_57 rfl rfl ?_
        refine j_iald (pc := 58) C 5 0 (c_at5 f cI cO Y a_22) rfl (by unfold vp_in; decide) dX4_keep_58 ?_
        refine j_iconst (pc := 59) (v := 1) C dX4_keep_59 (by decide) ?_
        refine j_iadd (pc := 60) C dX4_keep_60 ?_
        refine j_topi (fun v_23 ev_23 => ?_)
        have hw := hw v_23 ev_23
        refine j_iast (pc := 61) C 5 0 (c_at5 f cI cO Y a_22) rfl (by unfold vp_in; decide) dX4_keep_61 (j_ws (c_s5 f cI cO Y a_22 (0 : Int32).toNatClampNeg v_23) ?_)
        refine j_nmA (fun a_24 ea_24 => ?_)
        have hw := hw a_24 ea_24
        refine j_aload_n (pc := 62) C dX4_keep_62 0 rfl rfl ?_
        refine j_get (ref := RX4) (pc := 63) C hiX4_keep_X4 2 (c_at2 f cI cO Y a_24) rfl 2 (by decide) lkX4_keep_18 (c_fl2_2 f a_24) dX4_keep_63 ?_
        refine j_iconst (pc := 66) (v := 0) C dX4_keep_66 (by decide) ?_
        refine j_aload_n (pc := 67) C dX4_keep_67 0 rfl rfl ?_
        refine j_get (ref := RX4) (pc := 68) C hiX4_keep_X4 2 (c_at2 f cI cO Y a_24) rfl 2 (by decide) lkX4_keep_18 (c_fl2_2 f a_24) dX4_keep_68 ?_
        refine j_iconst (pc := 71) (v := 0) C dX4_keep_71 (by decide) ?_
        refine j_iald (pc := 72) C 6 0 (c_at6 f cI cO Y a_24) rfl (by unfold vp_in; decide) dX4_keep_72 ?_
        refine j_iload_n (pc := 73) C dX4_keep_73 1 rfl rfl ?_
        refine j_mmax (pc := 74) C ⟨by decide +kernel, by decide +kernel, by decide +kernel, by decide +kernel⟩ ⟨Nat.le_of_ble_eq_true rfl, Nat.le_of_ble_eq_true rfl⟩ ⟨Nat.le_refl _, Nat.le_refl _⟩ dX4_keep_74 ?_
        refine j_topi (fun m_25 em_25 => ?_)
        have hw := hw m_25 em_25
        refine j_iast (pc := 77) C 6 0 (c_at6 f cI cO Y a_24) rfl (by unfold vp_in; decide) dX4_keep_77 (j_ws (c_s6 f cI cO Y a_24 (0 : Int32).toNatClampNeg m_25) ?_)
        refine j_nmA (fun a_26 ea_26 => ?_)
        have hw := hw a_26 ea_26
        exact j_vret (pc := 78) C hr a_26 rfl hw dX4_keep_78
      · have hw := hw.2 z_18
        exact j_vret (pc := 34) C hr a_15 rfl hw dX4_keep_34

def rmX4_greatestOfLast : Room := { frames := 1, cells := 0, slots := 0, locals := 21 }
theorem hiX4_greatestOfLast_X4 : ∀ w ∈ u_ws RX4 TX4 5, w ∈ wsX4_greatestOfLast := by decide +kernel
theorem lkX4_greatestOfLast_15 : Cond.fieldLink yX4_greatestOfLast.cls 15 (TX4 1).1 (TX4 1).2.1 (TX4 1).2.2.1 ∈ wsX4_greatestOfLast := by decide +kernel
theorem lkX4_greatestOfLast_18 : Cond.fieldLink yX4_greatestOfLast.cls 18 (TX4 2).1 (TX4 2).2.1 (TX4 2).2.2.1 ∈ wsX4_greatestOfLast := by decide +kernel
def wX4_greatestOfLast_36 (N : Nat) (a : jSS) (x1 : Int32) (x2 : Int32) (x3 : Int32) (K : jSS → Int32 → Int32 → Int32 → Prop) (post : Int32 → jSS → Prop) : Prop := ∀ x3_8 : Int32, x3_8 = x3 + 1 → K a x1 x2 x3_8
set_option maxHeartbeats 4000000 in
set_option maxRecDepth 100000 in
theorem kX4_greatestOfLast_36 {p : Program} {l : Launch} {e : Env} {s : State} {m : MethodId} {args : Array Value} {below : List Frame} {meth : Method} {c : Code} {D : va_G} {cI cJ cZ cO : ClassId} {f : Nat → Nat} {Y : va_W} {A : Nat → Prop} {N : Nat} {post : Int32 → jSS → Prop} (C : jC p s m args meth c cX4_greatestOfLast 4 yX4_greatestOfLast.cls wsX4_greatestOfLast D (jT cI cJ cZ cO) A) (hr : meth.sig.returnType = (some .int)) (hG : gz A s) (a : jSS) (x1 : Int32) (x2 : Int32) (x3 : Int32) (K : jSS → Int32 → Int32 → Int32 → Prop) (hK : ∀ (a : jSS) (x1 : Int32) (x2 : Int32) (x3 : Int32), K a x1 x2 x3 → jJ p l e rmX4_greatestOfLast s m args below meth c 0 0 (MQ below (va_Qi post (jE D (jT cI cJ cZ cO) A (acells f cI cO Y)) A) args s 0 0 A) D A 4 (acells f cI cO Y a) [(0, .ref (f 2)), (1, .int x1), (2, .int x2), (3, .int x3)] 5 []) (hw : wX4_greatestOfLast_36 N a x1 x2 x3 K post) : jJ p l e rmX4_greatestOfLast s m args below meth c 0 0 (MQ below (va_Qi post (jE D (jT cI cJ cZ cO) A (acells f cI cO Y)) A) args s 0 0 A) D A 4 (acells f cI cO Y a) [(0, .ref (f 2)), (1, .int x1), (2, .int x2), (3, .int x3)] 36 [] := by
  unfold wX4_greatestOfLast_36 at hw
  obtain ⟨x3_8, ex3_8⟩ : ∃ y : Int32, y = x3 + 1 := ⟨_, rfl⟩
  have hw := hw x3_8 ex3_8
  refine j_iinc (pc := 36) (v := x3_8) (lv' := [(0, .ref (f 2)), (1, .int x1), (2, .int x2), (3, .int x3_8)]) C [1, 2, 3, 0] 3 dX4_greatestOfLast_36 rfl (by rw [ex3_8]; rfl) (by decide) rfl ?_
  refine j_goto (pc := 39) C 5 dX4_greatestOfLast_39 (by decide) ?_
  exact hK _ _ _ _ hw
def wX4_greatestOfLast_5 (N : Nat) : Nat → jSS → Int32 → Int32 → Int32 → (Int32 → jSS → Prop) → Prop
  | 0, _, _, _, _, _ => False
  | n + 1, a, x1, x2, x3, post => ((x1 ≤ x3) → (post x2 a)) ∧ ((¬ x1 ≤ x3) → (((10 ≤ x3) → (post x2 a)) ∧ ((¬ 10 ≤ x3) → (vp_in x3 10 ∧ (((a.1 5 x3.toNatClampNeg) ≤ 0) → (wX4_greatestOfLast_36 N a x1 x2 x3 (fun z0 x1 x2 x3 => wX4_greatestOfLast_5 N n z0 x1 x2 x3 post) post)) ∧ ((¬ (a.1 5 x3.toNatClampNeg) ≤ 0) → (vp_in x3 10 ∧ ∀ m_14 : Int32, m_14 = jmax x2 (a.1 6 x3.toNatClampNeg) → wX4_greatestOfLast_36 N a x1 m_14 x3 (fun z0 x1 x2 x3 => wX4_greatestOfLast_5 N n z0 x1 x2 x3 post) post))))))
set_option maxHeartbeats 4000000 in
set_option maxRecDepth 100000 in
theorem kX4_greatestOfLast_5 {p : Program} {l : Launch} {e : Env} {s : State} {m : MethodId} {args : Array Value} {below : List Frame} {meth : Method} {c : Code} {D : va_G} {cI cJ cZ cO : ClassId} {f : Nat → Nat} {Y : va_W} {A : Nat → Prop} {N : Nat} {post : Int32 → jSS → Prop} (C : jC p s m args meth c cX4_greatestOfLast 4 yX4_greatestOfLast.cls wsX4_greatestOfLast D (jT cI cJ cZ cO) A) (hr : meth.sig.returnType = (some .int)) (hG : gz A s) : ∀ (n : Nat) (a : jSS) (x1 : Int32) (x2 : Int32) (x3 : Int32), wX4_greatestOfLast_5 N n a x1 x2 x3 post → jJ p l e rmX4_greatestOfLast s m args below meth c 0 0 (MQ below (va_Qi post (jE D (jT cI cJ cZ cO) A (acells f cI cO Y)) A) args s 0 0 A) D A 4 (acells f cI cO Y a) [(0, .ref (f 2)), (1, .int x1), (2, .int x2), (3, .int x3)] 5 [] := by
  intro n
  induction n with
  | zero =>
    intro a x1 x2 x3 hw
    exact False.elim hw
  | succ n ih =>
    intro a x1 x2 x3 hw
    unfold wX4_greatestOfLast_5 at hw
    refine j_iload_n (pc := 5) C dX4_greatestOfLast_5 3 rfl rfl ?_
    refine j_iload_n (pc := 6) C dX4_greatestOfLast_6 1 rfl rfl ?_
    refine j_icmp_ge (pc := 7) C 42 dX4_greatestOfLast_7 (by decide) (fun z_9 => ?_) (fun z_9 => ?_)
    · have hw := hw.1 z_9
      refine j_iload_n (pc := 42) C dX4_greatestOfLast_42 2 rfl rfl ?_
      exact j_iret (pc := 43) C hr a rfl hw dX4_greatestOfLast_43
    · have hw := hw.2 z_9
      refine j_iload_n (pc := 10) C dX4_greatestOfLast_10 3 rfl rfl ?_
      refine j_bipush (pc := 11) (v := 10) C dX4_greatestOfLast_11 (by decide) ?_
      refine j_icmp_ge (pc := 13) C 42 dX4_greatestOfLast_13 (by decide) (fun z_10 => ?_) (fun z_10 => ?_)
      · have hw := hw.1 z_10
        refine j_iload_n (pc := 42) C dX4_greatestOfLast_42 2 rfl rfl ?_
        exact j_iret (pc := 43) C hr a rfl hw dX4_greatestOfLast_43
      · have hw := hw.2 z_10
        refine j_aload_n (pc := 16) C dX4_greatestOfLast_16 0 rfl rfl ?_
        refine j_get (ref := RX4) (pc := 17) C hiX4_greatestOfLast_X4 2 (c_at2 f cI cO Y a) rfl 1 (by decide) lkX4_greatestOfLast_15 (c_fl2_1 f a) dX4_greatestOfLast_17 ?_
        refine j_iload_n (pc := 20) C dX4_greatestOfLast_20 3 rfl rfl ?_
        obtain ⟨h_11, hw⟩ := hw
        refine j_iald (pc := 21) C 5 0 (c_at5 f cI cO Y a) rfl h_11 dX4_greatestOfLast_21 ?_
        refine j_if_le (pc := 22) C 36 dX4_greatestOfLast_22 (by decide) (fun z_12 => ?_) (fun z_12 => ?_)
        · have hw := hw.1 z_12
          exact kX4_greatestOfLast_36 C hr hG _ _ _ _ _ (fun z0 x1 x2 x3 hz => ih z0 x1 x2 x3 hz) hw
        · have hw := hw.2 z_12
          refine j_iload_n (pc := 25) C dX4_greatestOfLast_25 2 rfl rfl ?_
          refine j_aload_n (pc := 26) C dX4_greatestOfLast_26 0 rfl rfl ?_
          refine j_get (ref := RX4) (pc := 27) C hiX4_greatestOfLast_X4 2 (c_at2 f cI cO Y a) rfl 2 (by decide) lkX4_greatestOfLast_18 (c_fl2_2 f a) dX4_greatestOfLast_27 ?_
          refine j_iload_n (pc := 30) C dX4_greatestOfLast_30 3 rfl rfl ?_
          obtain ⟨h_13, hw⟩ := hw
          refine j_iald (pc := 31) C 6 0 (c_at6 f cI cO Y a) rfl h_13 dX4_greatestOfLast_31 ?_
          refine j_mmax (pc := 32) C ⟨by decide +kernel, by decide +kernel, by decide +kernel, by decide +kernel⟩ ⟨Nat.le_of_ble_eq_true rfl, Nat.le_of_ble_eq_true rfl⟩ ⟨Nat.le_refl _, Nat.le_refl _⟩ dX4_greatestOfLast_32 ?_
          refine j_topi (fun m_14 em_14 => ?_)
          have hw := hw m_14 em_14
          refine j_istore_n (pc := 35) (lv' := [(0, .ref (f 2)), (1, .int x1), (2, .int m_14), (3, .int x3)]) C [1, 2, 0, 3] dX4_greatestOfLast_35 rfl (by decide) rfl ?_
          exact kX4_greatestOfLast_36 C hr hG _ _ _ _ _ (fun z0 x1 x2 x3 hz => ih z0 x1 x2 x3 hz) hw
def wX4_greatestOfLast (N : Nat) (a : jSS) (x1 : Int32) (post : Int32 → jSS → Prop) : Prop := wX4_greatestOfLast_5 N N a x1 ((-9)) 0 post
set_option maxHeartbeats 4000000 in
set_option maxRecDepth 100000 in
theorem mX4_greatestOfLast {l : Launch} {D : va_G} {cI cJ cZ cO : ClassId} {f : Nat → Nat} {Y : va_W} {N : Nat} {a : jSS} {x1 : Int32} {post : Int32 → jSS → Prop} (hw : wX4_greatestOfLast N a x1 post) : jMi l D (jT cI cJ cZ cO) gz yX4_greatestOfLast wsX4_greatestOfLast rmX4_greatestOfLast [.ref (f 2), .int x1] (acells f cI cO Y a) post (acells f cI cO Y) 0 0 := by
  refine j_ofi (cc := cX4_greatestOfLast) (maxL := 4) (ret := (some .int)) (by decide) rfl (Nat.le_of_ble_eq_true rfl) ?_
  intro p e s m args below meth c A C hr hnm hG
  refine j_sub (lv' := [(0, .ref (f 2)), (1, .int x1)]) [0, 1] rfl ?_
  unfold wX4_greatestOfLast at hw
  refine j_bipush (pc := 0) (v := (-9)) C dX4_greatestOfLast_0 (by decide) ?_
  refine j_istore_n (pc := 2) (lv' := [(0, .ref (f 2)), (1, .int x1), (2, .int ((-9)))]) C [1, 2, 0] dX4_greatestOfLast_2 rfl (by decide) rfl ?_
  refine j_iconst (pc := 3) (v := 0) C dX4_greatestOfLast_3 (by decide) ?_
  refine j_istore_n (pc := 4) (lv' := [(0, .ref (f 2)), (1, .int x1), (2, .int ((-9))), (3, .int 0)]) C [1, 2, 3, 0] dX4_greatestOfLast_4 rfl (by decide) rfl ?_
  exact kX4_greatestOfLast_5 C hr hG N _ _ _ _ hw

def rmX4_greatestOfAll : Room := { frames := 2, cells := 0, slots := 0, locals := 44 }
def wX4_greatestOfAll (N : Nat) (a : jSS)  (post : Int32 → jSS → Prop) : Prop := wX4_greatestOfLast N a 10 (fun r_4 a_5 => ∀ m_6 : Int32, m_6 = jmax 0 r_4 → post m_6 a_5)
set_option maxHeartbeats 4000000 in
set_option maxRecDepth 100000 in
theorem mX4_greatestOfAll {l : Launch} {D : va_G} {cI cJ cZ cO : ClassId} {f : Nat → Nat} {Y : va_W} {N : Nat} {a : jSS}  {post : Int32 → jSS → Prop} (hw : wX4_greatestOfAll N a post) : jMi l D (jT cI cJ cZ cO) gz yX4_greatestOfAll wsX4_greatestOfAll rmX4_greatestOfAll [.ref (f 2)] (acells f cI cO Y a) post (acells f cI cO Y) 0 0 := by
  refine j_ofi (cc := cX4_greatestOfAll) (maxL := 1) (ret := (some .int)) (by decide) rfl (Nat.le_of_ble_eq_true rfl) ?_
  intro p e s m args below meth c A C hr hnm hG
  refine j_sub (lv' := [(0, .ref (f 2))]) [0] rfl ?_
  unfold wX4_greatestOfAll at hw
  refine j_iconst (pc := 0) (v := 0) C dX4_greatestOfAll_0 (by decide) ?_
  refine j_aload_n (pc := 1) C dX4_greatestOfAll_1 0 rfl rfl ?_
  refine j_bipush (pc := 2) (v := 10) C dX4_greatestOfAll_2 (by decide) ?_
  refine j_calli0 (pc := 4) C gz_ok hG 1 (mX4_greatestOfLast hw) gX4_greatestOfAll_X4_greatestOfLast rfl rfl rfl (by decide +kernel) ⟨Nat.le_of_ble_eq_true rfl, Nat.le_of_ble_eq_true rfl⟩ 2 (c_at2 f cI cO Y a) rfl rfl rfl (Nat.le_of_ble_eq_true rfl) dX4_greatestOfAll_4 ⟨Nat.le_refl _, Nat.le_refl _⟩ (fun r_4 a_5 hw => ?_)
  refine j_mmax (pc := 7) C ⟨by decide +kernel, by decide +kernel, by decide +kernel, by decide +kernel⟩ ⟨Nat.le_of_ble_eq_true rfl, Nat.le_of_ble_eq_true rfl⟩ ⟨Nat.le_refl _, Nat.le_refl _⟩ dX4_greatestOfAll_7 ?_
  refine j_topi (fun m_6 em_6 => ?_)
  have hw := hw m_6 em_6
  exact j_iret (pc := 10) C hr a_5 rfl hw dX4_greatestOfAll_10

def rmX4_rateOf : Room := { frames := 1, cells := 0, slots := 0, locals := 22 }
theorem hiX4_rateOf_X4 : ∀ w ∈ u_ws RX4 TX4 5, w ∈ wsX4_rateOf := by decide +kernel
theorem lkX4_rateOf_9 : Cond.fieldLink yX4_rateOf.cls 9 (TX4 0).1 (TX4 0).2.1 (TX4 0).2.2.1 ∈ wsX4_rateOf := by decide +kernel
def wX4_rateOf (N : Nat) (a : jSS) (x1 : Int32) (post : Int32 → jSS → Prop) : Prop := wX4_ringPlace N a x1 (fun r_6 a_7 => ((r_6 < 0) → (post ((-1)) a_7)) ∧ ((¬ r_6 < 0) → (((2610 ≤ r_6) → (post ((-1)) a_7)) ∧ ((¬ 2610 ≤ r_6) → (vp_in r_6 2610 ∧ post (a_7.1 4 r_6.toNatClampNeg) a_7)))))
set_option maxHeartbeats 4000000 in
set_option maxRecDepth 100000 in
theorem mX4_rateOf {l : Launch} {D : va_G} {cI cJ cZ cO : ClassId} {f : Nat → Nat} {Y : va_W} {N : Nat} {a : jSS} {x1 : Int32} {post : Int32 → jSS → Prop} (hw : wX4_rateOf N a x1 post) : jMi l D (jT cI cJ cZ cO) gz yX4_rateOf wsX4_rateOf rmX4_rateOf [.ref (f 2), .int x1] (acells f cI cO Y a) post (acells f cI cO Y) 0 0 := by
  refine j_ofi (cc := cX4_rateOf) (maxL := 3) (ret := (some .int)) (by decide) rfl (Nat.le_of_ble_eq_true rfl) ?_
  intro p e s m args below meth c A C hr hnm hG
  refine j_sub (lv' := [(0, .ref (f 2)), (1, .int x1)]) [0, 1] rfl ?_
  unfold wX4_rateOf at hw
  refine j_aload_n (pc := 0) C dX4_rateOf_0 0 rfl rfl ?_
  refine j_iload_n (pc := 1) C dX4_rateOf_1 1 rfl rfl ?_
  refine j_calli0 (pc := 2) C gz_ok hG 1 (mX4_ringPlace hw) gX4_rateOf_X4_ringPlace rfl rfl rfl (by decide +kernel) ⟨Nat.le_of_ble_eq_true rfl, Nat.le_of_ble_eq_true rfl⟩ 2 (c_at2 f cI cO Y a) rfl rfl rfl (Nat.le_of_ble_eq_true rfl) dX4_rateOf_2 ⟨Nat.le_refl _, Nat.le_refl _⟩ (fun r_6 a_7 hw => ?_)
  refine j_istore_n (pc := 5) (lv' := [(0, .ref (f 2)), (1, .int x1), (2, .int r_6)]) C [1, 2, 0] dX4_rateOf_5 rfl (by decide) rfl ?_
  refine j_iload_n (pc := 6) C dX4_rateOf_6 2 rfl rfl ?_
  refine j_if_lt (pc := 7) C 28 dX4_rateOf_7 (by decide) (fun z_8 => ?_) (fun z_8 => ?_)
  · have hw := hw.1 z_8
    refine j_iconst (pc := 28) (v := (-1)) C dX4_rateOf_28 (by decide) ?_
    exact j_iret (pc := 29) C hr a_7 rfl hw dX4_rateOf_29
  · have hw := hw.2 z_8
    refine j_iload_n (pc := 10) C dX4_rateOf_10 2 rfl rfl ?_
    refine j_aload_n (pc := 11) C dX4_rateOf_11 0 rfl rfl ?_
    refine j_get (ref := RX4) (pc := 12) C hiX4_rateOf_X4 2 (c_at2 f cI cO Y a_7) rfl 0 (by decide) lkX4_rateOf_9 (c_fl2_0 f a_7) dX4_rateOf_12 ?_
    refine j_alen (pc := 15) (v := 2610) C 4 0 (c_at4 f cI cO Y a_7) rfl rfl dX4_rateOf_15 ?_
    refine j_icmp_ge (pc := 16) C 28 dX4_rateOf_16 (by decide) (fun z_9 => ?_) (fun z_9 => ?_)
    · have hw := hw.1 z_9
      refine j_iconst (pc := 28) (v := (-1)) C dX4_rateOf_28 (by decide) ?_
      exact j_iret (pc := 29) C hr a_7 rfl hw dX4_rateOf_29
    · have hw := hw.2 z_9
      refine j_aload_n (pc := 19) C dX4_rateOf_19 0 rfl rfl ?_
      refine j_get (ref := RX4) (pc := 20) C hiX4_rateOf_X4 2 (c_at2 f cI cO Y a_7) rfl 0 (by decide) lkX4_rateOf_9 (c_fl2_0 f a_7) dX4_rateOf_20 ?_
      refine j_iload_n (pc := 23) C dX4_rateOf_23 2 rfl rfl ?_
      obtain ⟨h_10, hw⟩ := hw
      refine j_iald (pc := 24) C 4 0 (c_at4 f cI cO Y a_7) rfl h_10 dX4_rateOf_24 ?_
      refine j_goto (pc := 25) C 29 dX4_rateOf_25 (by decide) ?_
      exact j_iret (pc := 29) C hr a_7 rfl hw dX4_rateOf_29

def rmX4_roundsOf : Room := { frames := 0, cells := 0, slots := 0, locals := 0 }
theorem hiX4_roundsOf_X4 : ∀ w ∈ u_ws RX4 TX4 5, w ∈ wsX4_roundsOf := by decide +kernel
theorem lkX4_roundsOf_15 : Cond.fieldLink yX4_roundsOf.cls 15 (TX4 1).1 (TX4 1).2.1 (TX4 1).2.2.1 ∈ wsX4_roundsOf := by decide +kernel
def wX4_roundsOf_6 (N : Nat) : Nat → jSS → Int32 → Int32 → Int32 → Int32 → (Int32 → jSS → Prop) → Prop
  | 0, _, _, _, _, _, _ => False
  | n + 1, a, x1, x2, x3, x4, post => ((x4 < 0) → (post ((-1)) a)) ∧ ((¬ x4 < 0) → (vp_in x4 10 ∧ ∀ x3_8 : Int32, x3_8 = x3 + (a.1 5 x4.toNatClampNeg) → ((x3_8 ≤ x1) → (∀ x4_10 : Int32, x4_10 = x4 + (-1) → wX4_roundsOf_6 N n a x1 x2 x3_8 x4_10 post)) ∧ ((¬ x3_8 ≤ x1) → (post (x2 - x4) a))))
set_option maxHeartbeats 4000000 in
set_option maxRecDepth 100000 in
theorem kX4_roundsOf_6 {p : Program} {l : Launch} {e : Env} {s : State} {m : MethodId} {args : Array Value} {below : List Frame} {meth : Method} {c : Code} {D : va_G} {cI cJ cZ cO : ClassId} {f : Nat → Nat} {Y : va_W} {A : Nat → Prop} {N : Nat} {post : Int32 → jSS → Prop} (C : jC p s m args meth c cX4_roundsOf 5 yX4_roundsOf.cls wsX4_roundsOf D (jT cI cJ cZ cO) A) (hr : meth.sig.returnType = (some .int)) (hG : gz A s) : ∀ (n : Nat) (a : jSS) (x1 : Int32) (x2 : Int32) (x3 : Int32) (x4 : Int32), wX4_roundsOf_6 N n a x1 x2 x3 x4 post → jJ p l e rmX4_roundsOf s m args below meth c 0 0 (MQ below (va_Qi post (jE D (jT cI cJ cZ cO) A (acells f cI cO Y)) A) args s 0 0 A) D A 5 (acells f cI cO Y a) [(0, .ref (f 2)), (1, .int x1), (2, .int x2), (3, .int x3), (4, .int x4)] 6 [] := by
  intro n
  induction n with
  | zero =>
    intro a x1 x2 x3 x4 hw
    exact False.elim hw
  | succ n ih =>
    intro a x1 x2 x3 x4 hw
    unfold wX4_roundsOf_6 at hw
    refine j_iload (pc := 6) C dX4_roundsOf_6 4 rfl ?_
    refine j_if_lt (pc := 8) C 37 dX4_roundsOf_8 (by decide) (fun z_6 => ?_) (fun z_6 => ?_)
    · have hw := hw.1 z_6
      refine j_iconst (pc := 37) (v := (-1)) C dX4_roundsOf_37 (by decide) ?_
      exact j_iret (pc := 38) C hr a rfl hw dX4_roundsOf_38
    · have hw := hw.2 z_6
      refine j_iload_n (pc := 11) C dX4_roundsOf_11 3 rfl rfl ?_
      refine j_aload_n (pc := 12) C dX4_roundsOf_12 0 rfl rfl ?_
      refine j_get (ref := RX4) (pc := 13) C hiX4_roundsOf_X4 2 (c_at2 f cI cO Y a) rfl 1 (by decide) lkX4_roundsOf_15 (c_fl2_1 f a) dX4_roundsOf_13 ?_
      refine j_iload (pc := 16) C dX4_roundsOf_16 4 rfl ?_
      obtain ⟨h_7, hw⟩ := hw
      refine j_iald (pc := 18) C 5 0 (c_at5 f cI cO Y a) rfl h_7 dX4_roundsOf_18 ?_
      refine j_iadd (pc := 19) C dX4_roundsOf_19 ?_
      refine j_topi (fun x3_8 ex3_8 => ?_)
      have hw := hw x3_8 ex3_8
      refine j_istore_n (pc := 20) (lv' := [(0, .ref (f 2)), (1, .int x1), (2, .int x2), (3, .int x3_8), (4, .int x4)]) C [1, 2, 3, 0, 4] dX4_roundsOf_20 rfl (by decide) rfl ?_
      refine j_iload_n (pc := 21) C dX4_roundsOf_21 1 rfl rfl ?_
      refine j_iload_n (pc := 22) C dX4_roundsOf_22 3 rfl rfl ?_
      refine j_icmp_ge (pc := 23) C 31 dX4_roundsOf_23 (by decide) (fun z_9 => ?_) (fun z_9 => ?_)
      · have hw := hw.1 z_9
        obtain ⟨x4_10, ex4_10⟩ : ∃ y : Int32, y = x4 + (-1) := ⟨_, rfl⟩
        have hw := hw x4_10 ex4_10
        refine j_iinc (pc := 31) (v := x4_10) (lv' := [(0, .ref (f 2)), (1, .int x1), (2, .int x2), (3, .int x3_8), (4, .int x4_10)]) C [1, 2, 3, 4, 0] 4 dX4_roundsOf_31 rfl (by rw [ex4_10]; rfl) (by decide) rfl ?_
        refine j_goto (pc := 34) C 6 dX4_roundsOf_34 (by decide) ?_
        exact ih _ _ _ _ _ hw
      · have hw := hw.2 z_9
        refine j_iload_n (pc := 26) C dX4_roundsOf_26 2 rfl rfl ?_
        refine j_iload (pc := 27) C dX4_roundsOf_27 4 rfl ?_
        refine j_isub (pc := 29) C dX4_roundsOf_29 ?_
        exact j_iret (pc := 30) C hr a rfl hw dX4_roundsOf_30
def wX4_roundsOf (N : Nat) (a : jSS) (x1 : Int32) (x2 : Int32) (post : Int32 → jSS → Prop) : Prop := wX4_roundsOf_6 N N a x1 x2 0 9 post
set_option maxHeartbeats 4000000 in
set_option maxRecDepth 100000 in
theorem mX4_roundsOf {l : Launch} {D : va_G} {cI cJ cZ cO : ClassId} {f : Nat → Nat} {Y : va_W} {N : Nat} {a : jSS} {x1 : Int32} {x2 : Int32} {post : Int32 → jSS → Prop} (hw : wX4_roundsOf N a x1 x2 post) : jMi l D (jT cI cJ cZ cO) gz yX4_roundsOf wsX4_roundsOf rmX4_roundsOf [.ref (f 2), .int x1, .int x2] (acells f cI cO Y a) post (acells f cI cO Y) 0 0 := by
  refine j_ofi (cc := cX4_roundsOf) (maxL := 5) (ret := (some .int)) (by decide) rfl (Nat.le_of_ble_eq_true rfl) ?_
  intro p e s m args below meth c A C hr hnm hG
  refine j_sub (lv' := [(0, .ref (f 2)), (1, .int x1), (2, .int x2)]) [0, 1, 2] rfl ?_
  unfold wX4_roundsOf at hw
  refine j_iconst (pc := 0) (v := 0) C dX4_roundsOf_0 (by decide) ?_
  refine j_istore_n (pc := 1) (lv' := [(0, .ref (f 2)), (1, .int x1), (2, .int x2), (3, .int 0)]) C [1, 2, 3, 0] dX4_roundsOf_1 rfl (by decide) rfl ?_
  refine j_bipush (pc := 2) (v := 9) C dX4_roundsOf_2 (by decide) ?_
  refine j_istore (pc := 4) (lv' := [(0, .ref (f 2)), (1, .int x1), (2, .int x2), (3, .int 0), (4, .int 9)]) C [1, 2, 3, 4, 0] dX4_roundsOf_4 (by decide) rfl ?_
  exact kX4_roundsOf_6 C hr hG N _ _ _ _ _ hw

def rmX0_gain : Room := { frames := 0, cells := 0, slots := 0, locals := 0 }
theorem hiX0_gain_X0 : ∀ w ∈ u_ws RX0 TX0 12, w ∈ wsX0_gain := by decide +kernel
theorem lkX0_gain_9 : Cond.fieldLink yX0_gain.cls 9 (TX0 0).1 (TX0 0).2.1 (TX0 0).2.2.1 ∈ wsX0_gain := by decide +kernel
theorem lkX0_gain_25 : Cond.fieldLink yX0_gain.cls 25 (TX0 1).1 (TX0 1).2.1 (TX0 1).2.2.1 ∈ wsX0_gain := by decide +kernel
def wX0_gain (N : Nat) (a : jSS)  (post : Int32 → jSS → Prop) : Prop := ∀ v_8 : Int32, v_8 = a.1 3 0 → ((v_8 = 0) → (post 289 a)) ∧ ((¬ v_8 = 0) → (((v_8 = 1) → (post 35 a)) ∧ ((¬ v_8 = 1) → (((v_8 = 2) → ((((a.1 3 1) < 0) → (post 100 a)) ∧ ((¬ (a.1 3 1) < 0) → (((8 ≤ (a.1 3 1)) → (post 100 a)) ∧ ((¬ 8 ≤ (a.1 3 1)) → (vp_in (a.1 3 1) 8 ∧ post (jGains (a.1 3 1).toNatClampNeg) a)))))) ∧ ((¬ v_8 = 2) → (post 100 a))))))
set_option maxHeartbeats 4000000 in
set_option maxRecDepth 100000 in
theorem mX0_gain {l : Launch} {D : va_G} {cI cJ cZ cO : ClassId} {f : Nat → Nat} {Y : va_W} {N : Nat} {a : jSS}  {post : Int32 → jSS → Prop} (hw : wX0_gain N a post) : jMi l D (jT cI cJ cZ cO) gz yX0_gain wsX0_gain rmX0_gain [.ref (f 3)] (acells f cI cO Y a) post (acells f cI cO Y) 0 0 := by
  refine j_ofi (cc := cX0_gain) (maxL := 1) (ret := (some .int)) (by decide) rfl (Nat.le_of_ble_eq_true rfl) ?_
  intro p e s m args below meth c A C hr hnm hG
  obtain ⟨hNw, tg, hZ, hTt⟩ := id hG
  refine j_sub (lv' := [(0, .ref (f 3))]) [0] rfl ?_
  unfold wX0_gain at hw
  refine j_aload_n (pc := 0) C dX0_gain_0 0 rfl rfl ?_
  refine j_get (ref := RX0) (pc := 1) C hiX0_gain_X0 3 (c_at3 f cI cO Y a) rfl 0 (by decide) lkX0_gain_9 (c_fl3_0 f a) dX0_gain_1 ?_
  refine j_topi (fun v_8 ev_8 => ?_)
  have hw := hw v_8 ev_8
  by_cases z_9 : v_8 = 0
  · have hw := hw.1 z_9
    refine j_tableIn (pc := 4) C 32 dX0_gain_4 (by rw [z_9]; decide) (by rw [z_9]; decide) (by rw [z_9]; rfl) (by decide) ?_
    refine j_sipush (pc := 32) (v := 289) C dX0_gain_32 (by decide) ?_
    exact j_iret (pc := 35) C hr a rfl hw dX0_gain_35
  · have hw := hw.2 z_9
    by_cases z_10 : v_8 = 1
    · have hw := hw.1 z_10
      refine j_tableIn (pc := 4) C 36 dX0_gain_4 (by rw [z_10]; decide) (by rw [z_10]; decide) (by rw [z_10]; rfl) (by decide) ?_
      refine j_bipush (pc := 36) (v := 35) C dX0_gain_36 (by decide) ?_
      exact j_iret (pc := 38) C hr a rfl hw dX0_gain_38
    · have hw := hw.2 z_10
      by_cases z_11 : v_8 = 2
      · have hw := hw.1 z_11
        refine j_tableIn (pc := 4) C 39 dX0_gain_4 (by rw [z_11]; decide) (by rw [z_11]; decide) (by rw [z_11]; rfl) (by decide) ?_
        refine j_aload_n (pc := 39) C dX0_gain_39 0 rfl rfl ?_
        refine j_get (ref := RX0) (pc := 40) C hiX0_gain_X0 3 (c_at3 f cI cO Y a) rfl 1 (by decide) lkX0_gain_25 (c_fl3_1 f a) dX0_gain_40 ?_
        refine j_if_lt (pc := 43) C 68 dX0_gain_43 (by decide) (fun z_12 => ?_) (fun z_12 => ?_)
        · have hw := hw.1 z_12
          refine j_bipush (pc := 68) (v := 100) C dX0_gain_68 (by decide) ?_
          exact j_iret (pc := 70) C hr a rfl hw dX0_gain_70
        · have hw := hw.2 z_12
          refine j_aload_n (pc := 46) C dX0_gain_46 0 rfl rfl ?_
          refine j_get (ref := RX0) (pc := 47) C hiX0_gain_X0 3 (c_at3 f cI cO Y a) rfl 1 (by decide) lkX0_gain_25 (c_fl3_1 f a) dX0_gain_47 ?_
          refine j_gets (pc := 50) C hZ hNw rfl dX0_gain_50 ?_
          refine j_tlen (pc := 53) C hTt dX0_gain_53 ?_
          refine j_icmp_ge (pc := 54) C 68 dX0_gain_54 (by decide) (fun z_13 => ?_) (fun z_13 => ?_)
          · have hw := hw.1 z_13
            refine j_bipush (pc := 68) (v := 100) C dX0_gain_68 (by decide) ?_
            exact j_iret (pc := 70) C hr a rfl hw dX0_gain_70
          · have hw := hw.2 z_13
            refine j_gets (pc := 57) C hZ hNw rfl dX0_gain_57 ?_
            refine j_aload_n (pc := 60) C dX0_gain_60 0 rfl rfl ?_
            refine j_get (ref := RX0) (pc := 61) C hiX0_gain_X0 3 (c_at3 f cI cO Y a) rfl 1 (by decide) lkX0_gain_25 (c_fl3_1 f a) dX0_gain_61 ?_
            obtain ⟨h_14, hw⟩ := hw
            refine j_tald (pc := 64) C hTt h_14 dX0_gain_64 ?_
            refine j_goto (pc := 65) C 70 dX0_gain_65 (by decide) ?_
            exact j_iret (pc := 70) C hr a rfl hw dX0_gain_70
      · have hw := hw.2 z_11
        have q0 := j_ne z_9 0 (by decide)
        have q1 := j_ne z_10 1 (by decide)
        have q2 := j_ne z_11 2 (by decide)
        refine j_tableOut (pc := 4) C 71 dX0_gain_4 (by omega) (by decide) ?_
        refine j_bipush (pc := 71) (v := 100) C dX0_gain_71 (by decide) ?_
        exact j_iret (pc := 73) C hr a rfl hw dX0_gain_73

def rmX0_watchTop : Room := { frames := 0, cells := 0, slots := 0, locals := 0 }
theorem hiX0_watchTop_X0 : ∀ w ∈ u_ws RX0 TX0 12, w ∈ wsX0_watchTop := by decide +kernel
theorem lkX0_watchTop_76 : Cond.fieldLink yX0_watchTop.cls 76 (TX0 6).1 (TX0 6).2.1 (TX0 6).2.2.1 ∈ wsX0_watchTop := by decide +kernel
theorem lkX0_watchTop_79 : Cond.fieldLink yX0_watchTop.cls 79 (TX0 7).1 (TX0 7).2.1 (TX0 7).2.2.1 ∈ wsX0_watchTop := by decide +kernel
theorem lkX0_watchTop_40 : Cond.fieldLink yX0_watchTop.cls 40 (TX0 5).1 (TX0 5).2.1 (TX0 5).2.2.1 ∈ wsX0_watchTop := by decide +kernel
def wX0_watchTop (N : Nat) (a : jSS) (x1 : Int32) (post : jSS → Prop) : Prop := (((lg_cmp (100 * x1.toInt64) (125 * ((a.1 3 6).toInt64))) < 0) → (∀ v_9 : Int32, v_9 = (a.1 3 7) + 1 → ∀ a_10 : jSS, a_10 = aP a 3 7 v_9 → ((¬ (a_10.1 3 7) = 3) → (post a_10)) ∧ (((a_10.1 3 7) = 3) → (∀ a_12 : jSS, a_12 = aP a_10 3 5 1 → post a_12)))) ∧ ((¬ (lg_cmp (100 * x1.toInt64) (125 * ((a.1 3 6).toInt64))) < 0) → (∀ a_13 : jSS, a_13 = aP a 3 6 x1 → ∀ a_14 : jSS, a_14 = aP a_13 3 7 0 → post a_14))
set_option maxHeartbeats 4000000 in
set_option maxRecDepth 100000 in
theorem mX0_watchTop {l : Launch} {D : va_G} {cI cJ cZ cO : ClassId} {f : Nat → Nat} {Y : va_W} {N : Nat} {a : jSS} {x1 : Int32} {post : jSS → Prop} (hw : wX0_watchTop N a x1 post) : jMv l D (jT cI cJ cZ cO) gz yX0_watchTop wsX0_watchTop rmX0_watchTop [.ref (f 3), .int x1] (acells f cI cO Y a) post (acells f cI cO Y) 0 0 := by
  refine j_ofv (cc := cX0_watchTop) (maxL := 2) (ret := none) (by decide) rfl (Nat.le_of_ble_eq_true rfl) ?_
  intro p e s m args below meth c A C hr hnm hG
  refine j_sub (lv' := [(0, .ref (f 3)), (1, .int x1)]) [0, 1] rfl ?_
  unfold wX0_watchTop at hw
  refine j_ldc2 (pc := 0) (v := 100) C dX0_watchTop_0 (by decide +kernel) ?_
  refine j_iload_n (pc := 3) C dX0_watchTop_3 1 rfl rfl ?_
  refine j_i2l (pc := 4) C dX0_watchTop_4 ?_
  refine j_lmul (pc := 5) C dX0_watchTop_5 ?_
  refine j_ldc2 (pc := 6) (v := 125) C dX0_watchTop_6 (by decide +kernel) ?_
  refine j_aload_n (pc := 9) C dX0_watchTop_9 0 rfl rfl ?_
  refine j_get (ref := RX0) (pc := 10) C hiX0_watchTop_X0 3 (c_at3 f cI cO Y a) rfl 6 (by decide) lkX0_watchTop_76 (c_fl3_6 f a) dX0_watchTop_10 ?_
  refine j_i2l (pc := 13) C dX0_watchTop_13 ?_
  refine j_lmul (pc := 14) C dX0_watchTop_14 ?_
  refine j_lcmp (pc := 15) C dX0_watchTop_15 ?_
  refine j_if_lt (pc := 16) C 30 dX0_watchTop_16 (by decide) (fun z_8 => ?_) (fun z_8 => ?_)
  · have hw := hw.1 z_8
    refine j_aload_n (pc := 30) C dX0_watchTop_30 0 rfl rfl ?_
    refine j_dup (pc := 31) C dX0_watchTop_31 rfl ?_
    refine j_get (ref := RX0) (pc := 32) C hiX0_watchTop_X0 3 (c_at3 f cI cO Y a) rfl 7 (by decide) lkX0_watchTop_79 (c_fl3_7 f a) dX0_watchTop_32 ?_
    refine j_iconst (pc := 35) (v := 1) C dX0_watchTop_35 (by decide) ?_
    refine j_iadd (pc := 36) C dX0_watchTop_36 ?_
    refine j_topi (fun v_9 ev_9 => ?_)
    have hw := hw v_9 ev_9
    refine j_put (pc := 37) C hiX0_watchTop_X0 tyX0 tyX0_ok nmX0 3 (c_at3 f cI cO Y a) rfl 7 (by decide) lkX0_watchTop_79 rfl rfl rfl (Nat.le_of_ble_eq_true rfl) dX0_watchTop_37 (j_ws (c_s3_7 f cI cO Y a v_9) ?_)
    refine j_nmA (fun a_10 ea_10 => ?_)
    have hw := hw a_10 ea_10
    refine j_aload_n (pc := 40) C dX0_watchTop_40 0 rfl rfl ?_
    refine j_get (ref := RX0) (pc := 41) C hiX0_watchTop_X0 3 (c_at3 f cI cO Y a_10) rfl 7 (by decide) lkX0_watchTop_79 (c_fl3_7 f a_10) dX0_watchTop_41 ?_
    refine j_iconst (pc := 44) (v := 3) C dX0_watchTop_44 (by decide) ?_
    refine j_icmp_ne (pc := 45) C 53 dX0_watchTop_45 (by decide) (fun z_11 => ?_) (fun z_11 => ?_)
    · have hw := hw.1 z_11
      exact j_vret (pc := 53) C hr a_10 rfl hw dX0_watchTop_53
    · have hw := hw.2 z_11
      refine j_aload_n (pc := 48) C dX0_watchTop_48 0 rfl rfl ?_
      refine j_iconst (pc := 49) (v := 1) C dX0_watchTop_49 (by decide) ?_
      refine j_put (pc := 50) C hiX0_watchTop_X0 tyX0 tyX0_ok nmX0 3 (c_at3 f cI cO Y a_10) rfl 5 (by decide) lkX0_watchTop_40 rfl rfl rfl (Nat.le_of_ble_eq_true rfl) dX0_watchTop_50 (j_ws (c_s3_5 f cI cO Y a_10 1) ?_)
      refine j_nmA (fun a_12 ea_12 => ?_)
      have hw := hw a_12 ea_12
      exact j_vret (pc := 53) C hr a_12 rfl hw dX0_watchTop_53
  · have hw := hw.2 z_8
    refine j_aload_n (pc := 19) C dX0_watchTop_19 0 rfl rfl ?_
    refine j_iload_n (pc := 20) C dX0_watchTop_20 1 rfl rfl ?_
    refine j_put (pc := 21) C hiX0_watchTop_X0 tyX0 tyX0_ok nmX0 3 (c_at3 f cI cO Y a) rfl 6 (by decide) lkX0_watchTop_76 rfl rfl rfl (Nat.le_of_ble_eq_true rfl) dX0_watchTop_21 (j_ws (c_s3_6 f cI cO Y a x1) ?_)
    refine j_nmA (fun a_13 ea_13 => ?_)
    have hw := hw a_13 ea_13
    refine j_aload_n (pc := 24) C dX0_watchTop_24 0 rfl rfl ?_
    refine j_iconst (pc := 25) (v := 0) C dX0_watchTop_25 (by decide) ?_
    refine j_put (pc := 26) C hiX0_watchTop_X0 tyX0 tyX0_ok nmX0 3 (c_at3 f cI cO Y a_13) rfl 7 (by decide) lkX0_watchTop_79 rfl rfl rfl (Nat.le_of_ble_eq_true rfl) dX0_watchTop_26 (j_ws (c_s3_7 f cI cO Y a_13 0) ?_)
    refine j_nmA (fun a_14 ea_14 => ?_)
    have hw := hw a_14 ea_14
    exact j_vret (pc := 29) C hr a_14 rfl hw dX0_watchTop_29

def rmX5_product : Room := { frames := 0, cells := 0, slots := 0, locals := 0 }
theorem hiX5_product_X5 : ∀ w ∈ u_ws RX5 TX5 16, w ∈ wsX5_product := by decide +kernel
theorem lkX5_product_32 : Cond.fieldLink yX5_product.cls 32 (TX5 13).1 (TX5 13).2.1 (TX5 13).2.2.1 ∈ wsX5_product := by decide +kernel
theorem lkX5_product_36 : Cond.fieldLink yX5_product.cls 36 (TX5 12).1 (TX5 12).2.1 (TX5 12).2.2.1 ∈ wsX5_product := by decide +kernel
def wX5_product (N : Nat) (a : jSS)  (post : Int64 → jSS → Prop) : Prop := ((¬ (a.1 0 13) = ((-9))) → (post ((((a.1 0 12).toInt64) * ((a.1 0 13).toInt64)) / 1000) a)) ∧ (((a.1 0 13) = ((-9))) → (post 0 a))
set_option maxHeartbeats 4000000 in
set_option maxRecDepth 100000 in
theorem mX5_product {l : Launch} {D : va_G} {cI cJ cZ cO : ClassId} {f : Nat → Nat} {Y : va_W} {N : Nat} {a : jSS}  {post : Int64 → jSS → Prop} (hw : wX5_product N a post) : jMl l D (jT cI cJ cZ cO) gz yX5_product wsX5_product rmX5_product [.ref (f 0)] (acells f cI cO Y a) post (acells f cI cO Y) 0 0 := by
  refine j_ofl (cc := cX5_product) (maxL := 1) (ret := (some .long)) (by decide) rfl (Nat.le_of_ble_eq_true rfl) ?_
  intro p e s m args below meth c A C hr hnm hG
  refine j_sub (lv' := [(0, .ref (f 0))]) [0] rfl ?_
  unfold wX5_product at hw
  refine j_aload_n (pc := 0) C dX5_product_0 0 rfl rfl ?_
  refine j_get (ref := RX5) (pc := 1) C hiX5_product_X5 0 (c_at0 f cI cO Y a) rfl 13 (by decide) lkX5_product_32 (c_fl0_13 f a) dX5_product_1 ?_
  refine j_bipush (pc := 4) (v := (-9)) C dX5_product_4 (by decide) ?_
  refine j_icmp_ne (pc := 6) C 13 dX5_product_6 (by decide) (fun z_2 => ?_) (fun z_2 => ?_)
  · have hw := hw.1 z_2
    refine j_aload_n (pc := 13) C dX5_product_13 0 rfl rfl ?_
    refine j_get (ref := RX5) (pc := 14) C hiX5_product_X5 0 (c_at0 f cI cO Y a) rfl 12 (by decide) lkX5_product_36 (c_fl0_12 f a) dX5_product_14 ?_
    refine j_i2l (pc := 17) C dX5_product_17 ?_
    refine j_aload_n (pc := 18) C dX5_product_18 0 rfl rfl ?_
    refine j_get (ref := RX5) (pc := 19) C hiX5_product_X5 0 (c_at0 f cI cO Y a) rfl 13 (by decide) lkX5_product_32 (c_fl0_13 f a) dX5_product_19 ?_
    refine j_i2l (pc := 22) C dX5_product_22 ?_
    refine j_lmul (pc := 23) C dX5_product_23 ?_
    refine j_ldc2 (pc := 24) (v := 1000) C dX5_product_24 (by decide +kernel) ?_
    refine j_ldiv (pc := 27) C dX5_product_27 (by decide) ?_
    exact j_lret (pc := 28) C hr a rfl hw dX5_product_28
  · have hw := hw.2 z_2
    refine j_lconst (pc := 9) (v := 0) C dX5_product_9 (by decide) ?_
    refine j_goto (pc := 10) C 28 dX5_product_10 (by decide) ?_
    exact j_lret (pc := 28) C hr a rfl hw dX5_product_28

def rmX0_beginPhase : Room := { frames := 0, cells := 0, slots := 0, locals := 0 }
theorem hiX0_beginPhase_X0 : ∀ w ∈ u_ws RX0 TX0 12, w ∈ wsX0_beginPhase := by decide +kernel
theorem hiX0_beginPhase_X5 : ∀ w ∈ u_ws RX5 TX5 16, w ∈ wsX0_beginPhase := by decide +kernel
theorem lkX0_beginPhase_25 : Cond.fieldLink yX0_beginPhase.cls 25 (TX0 1).1 (TX0 1).2.1 (TX0 1).2.2.1 ∈ wsX0_beginPhase := by decide +kernel
theorem lkX0_beginPhase_82 : Cond.fieldLink yX0_beginPhase.cls 82 (TX0 2).1 (TX0 2).2.1 (TX0 2).2.2.1 ∈ wsX0_beginPhase := by decide +kernel
theorem lkX0_beginPhase_88 : Cond.fieldLink yX0_beginPhase.cls 88 (TX5 6).1 (TX5 6).2.1 (TX5 6).2.2.1 ∈ wsX0_beginPhase := by decide +kernel
theorem lkX0_beginPhase_91 : Cond.fieldLink yX0_beginPhase.cls 91 (TX0 3).1 (TX0 3).2.1 (TX0 3).2.2.1 ∈ wsX0_beginPhase := by decide +kernel
def wX0_beginPhase (N : Nat) (a : jSS) (x1 : Int32) (x3 : Int32) (post : jSS → Prop) : Prop := ∀ a_5 : jSS, a_5 = aP a 3 1 x1 → ∀ a_6 : jSS, a_6 = aP a_5 3 2 x3 → ∀ v_7 : Int32, v_7 = a_6.1 0 6 → ∀ a_8 : jSS, a_8 = aP a_6 3 3 v_7 → post a_8
set_option maxHeartbeats 4000000 in
set_option maxRecDepth 100000 in
theorem mX0_beginPhase {l : Launch} {D : va_G} {cI cJ cZ cO : ClassId} {f : Nat → Nat} {Y : va_W} {N : Nat} {a : jSS} {x1 : Int32} {x3 : Int32} {post : jSS → Prop} (hw : wX0_beginPhase N a x1 x3 post) : jMv l D (jT cI cJ cZ cO) gz yX0_beginPhase wsX0_beginPhase rmX0_beginPhase [.ref (f 3), .int x1, .ref (f 0), .int x3] (acells f cI cO Y a) post (acells f cI cO Y) 0 0 := by
  refine j_ofv (cc := cX0_beginPhase) (maxL := 4) (ret := none) (by decide) rfl (Nat.le_of_ble_eq_true rfl) ?_
  intro p e s m args below meth c A C hr hnm hG
  refine j_sub (lv' := [(0, .ref (f 3)), (1, .int x1), (2, .ref (f 0)), (3, .int x3)]) [0, 1, 2, 3] rfl ?_
  unfold wX0_beginPhase at hw
  refine j_aload_n (pc := 0) C dX0_beginPhase_0 0 rfl rfl ?_
  refine j_iload_n (pc := 1) C dX0_beginPhase_1 1 rfl rfl ?_
  refine j_put (pc := 2) C hiX0_beginPhase_X0 tyX0 tyX0_ok nmX0 3 (c_at3 f cI cO Y a) rfl 1 (by decide) lkX0_beginPhase_25 rfl rfl rfl (Nat.le_of_ble_eq_true rfl) dX0_beginPhase_2 (j_ws (c_s3_1 f cI cO Y a x1) ?_)
  refine j_nmA (fun a_5 ea_5 => ?_)
  have hw := hw a_5 ea_5
  refine j_aload_n (pc := 5) C dX0_beginPhase_5 0 rfl rfl ?_
  refine j_iload_n (pc := 6) C dX0_beginPhase_6 3 rfl rfl ?_
  refine j_put (pc := 7) C hiX0_beginPhase_X0 tyX0 tyX0_ok nmX0 3 (c_at3 f cI cO Y a_5) rfl 2 (by decide) lkX0_beginPhase_82 rfl rfl rfl (Nat.le_of_ble_eq_true rfl) dX0_beginPhase_7 (j_ws (c_s3_2 f cI cO Y a_5 x3) ?_)
  refine j_nmA (fun a_6 ea_6 => ?_)
  have hw := hw a_6 ea_6
  refine j_aload_n (pc := 10) C dX0_beginPhase_10 0 rfl rfl ?_
  refine j_aload_n (pc := 11) C dX0_beginPhase_11 2 rfl rfl ?_
  refine j_get (ref := RX5) (pc := 12) C hiX0_beginPhase_X5 0 (c_at0 f cI cO Y a_6) rfl 6 (by decide) lkX0_beginPhase_88 (c_fl0_6 f a_6) dX0_beginPhase_12 ?_
  refine j_topi (fun v_7 ev_7 => ?_)
  have hw := hw v_7 ev_7
  refine j_put (pc := 15) C hiX0_beginPhase_X0 tyX0 tyX0_ok nmX0 3 (c_at3 f cI cO Y a_6) rfl 3 (by decide) lkX0_beginPhase_91 rfl rfl rfl (Nat.le_of_ble_eq_true rfl) dX0_beginPhase_15 (j_ws (c_s3_3 f cI cO Y a_6 v_7) ?_)
  refine j_nmA (fun a_8 ea_8 => ?_)
  have hw := hw a_8 ea_8
  exact j_vret (pc := 18) C hr a_8 rfl hw dX0_beginPhase_18

def rmX0_keepTurn : Room := { frames := 0, cells := 0, slots := 0, locals := 0 }
theorem hiX0_keepTurn_X0 : ∀ w ∈ u_ws RX0 TX0 12, w ∈ wsX0_keepTurn := by decide +kernel
theorem lkX0_keepTurn_105 : Cond.fieldLink yX0_keepTurn.cls 105 (TX0 8).1 (TX0 8).2.1 (TX0 8).2.2.1 ∈ wsX0_keepTurn := by decide +kernel
theorem lkX0_keepTurn_108 : Cond.fieldLink yX0_keepTurn.cls 108 (TX0 9).1 (TX0 9).2.1 (TX0 9).2.2.1 ∈ wsX0_keepTurn := by decide +kernel
theorem lkX0_keepTurn_18 : Cond.fieldLink yX0_keepTurn.cls 18 (TX0 10).1 (TX0 10).2.1 (TX0 10).2.2.1 ∈ wsX0_keepTurn := by decide +kernel
theorem lkX0_keepTurn_22 : Cond.fieldLink yX0_keepTurn.cls 22 (TX0 11).1 (TX0 11).2.1 (TX0 11).2.2.1 ∈ wsX0_keepTurn := by decide +kernel
def wX0_keepTurn_74 (N : Nat) (a : jSS) (x1 : Int32) (x2 : Int32) (post : jSS → Prop) : Prop := ∀ x3_23 : Int32, x3_23 = (a.1 3 9) - 1 → ((x3_23 < 0) → (post a)) ∧ ((¬ x3_23 < 0) → (((12 ≤ x3_23) → (post a)) ∧ ((¬ 12 ≤ x3_23) → (vp_in x3_23 12 ∧ ∀ a_27 : jSS, a_27 = aP a 7 x3_23.toNatClampNeg x2 → vp_in x3_23 12 ∧ ∀ a_29 : jSS, a_29 = aP a_27 8 x3_23.toNatClampNeg x1 → post a_29))))
set_option maxHeartbeats 4000000 in
set_option maxRecDepth 100000 in
theorem kX0_keepTurn_74 {p : Program} {l : Launch} {e : Env} {s : State} {m : MethodId} {args : Array Value} {below : List Frame} {meth : Method} {c : Code} {D : va_G} {cI cJ cZ cO : ClassId} {f : Nat → Nat} {Y : va_W} {A : Nat → Prop} {N : Nat} {post : jSS → Prop} (C : jC p s m args meth c cX0_keepTurn 4 yX0_keepTurn.cls wsX0_keepTurn D (jT cI cJ cZ cO) A) (hr : meth.sig.returnType = none) (hG : gz A s) (a : jSS) (x1 : Int32) (x2 : Int32) (hw : wX0_keepTurn_74 N a x1 x2 post) : jJ p l e rmX0_keepTurn s m args below meth c 0 0 (MQ below (va_Qv post (jE D (jT cI cJ cZ cO) A (acells f cI cO Y)) A) args s 0 0 A) D A 4 (acells f cI cO Y a) [(0, .ref (f 3)), (1, .int x1), (2, .int x2)] 74 [] := by
  unfold wX0_keepTurn_74 at hw
  refine j_aload_n (pc := 74) C dX0_keepTurn_74 0 rfl rfl ?_
  refine j_get (ref := RX0) (pc := 75) C hiX0_keepTurn_X0 3 (c_at3 f cI cO Y a) rfl 9 (by decide) lkX0_keepTurn_108 (c_fl3_9 f a) dX0_keepTurn_75 ?_
  refine j_iconst (pc := 78) (v := 1) C dX0_keepTurn_78 (by decide) ?_
  refine j_isub (pc := 79) C dX0_keepTurn_79 ?_
  refine j_topi (fun x3_23 ex3_23 => ?_)
  have hw := hw x3_23 ex3_23
  refine j_istore_n (pc := 80) (lv' := [(0, .ref (f 3)), (1, .int x1), (2, .int x2), (3, .int x3_23)]) C [1, 2, 3, 0] dX0_keepTurn_80 rfl (by decide) rfl ?_
  refine j_iload_n (pc := 81) C dX0_keepTurn_81 3 rfl rfl ?_
  refine j_if_lt (pc := 82) C 105 dX0_keepTurn_82 (by decide) (fun z_24 => ?_) (fun z_24 => ?_)
  · have hw := hw.1 z_24
    exact j_vret (pc := 105) C hr a rfl hw dX0_keepTurn_105
  · have hw := hw.2 z_24
    refine j_iload_n (pc := 85) C dX0_keepTurn_85 3 rfl rfl ?_
    refine j_bipush (pc := 86) (v := 12) C dX0_keepTurn_86 (by decide) ?_
    refine j_icmp_ge (pc := 88) C 105 dX0_keepTurn_88 (by decide) (fun z_25 => ?_) (fun z_25 => ?_)
    · have hw := hw.1 z_25
      exact j_vret (pc := 105) C hr a rfl hw dX0_keepTurn_105
    · have hw := hw.2 z_25
      refine j_aload_n (pc := 91) C dX0_keepTurn_91 0 rfl rfl ?_
      refine j_get (ref := RX0) (pc := 92) C hiX0_keepTurn_X0 3 (c_at3 f cI cO Y a) rfl 10 (by decide) lkX0_keepTurn_18 (c_fl3_10 f a) dX0_keepTurn_92 ?_
      refine j_iload_n (pc := 95) C dX0_keepTurn_95 3 rfl rfl ?_
      refine j_iload_n (pc := 96) C dX0_keepTurn_96 2 rfl rfl ?_
      obtain ⟨h_26, hw⟩ := hw
      refine j_iast (pc := 97) C 7 0 (c_at7 f cI cO Y a) rfl h_26 dX0_keepTurn_97 (j_ws (c_s7 f cI cO Y a x3_23.toNatClampNeg x2) ?_)
      refine j_nmA (fun a_27 ea_27 => ?_)
      have hw := hw a_27 ea_27
      refine j_aload_n (pc := 98) C dX0_keepTurn_98 0 rfl rfl ?_
      refine j_get (ref := RX0) (pc := 99) C hiX0_keepTurn_X0 3 (c_at3 f cI cO Y a_27) rfl 11 (by decide) lkX0_keepTurn_22 (c_fl3_11 f a_27) dX0_keepTurn_99 ?_
      refine j_iload_n (pc := 102) C dX0_keepTurn_102 3 rfl rfl ?_
      refine j_iload_n (pc := 103) C dX0_keepTurn_103 1 rfl rfl ?_
      obtain ⟨h_28, hw⟩ := hw
      refine j_iast (pc := 104) C 8 0 (c_at8 f cI cO Y a_27) rfl h_28 dX0_keepTurn_104 (j_ws (c_s8 f cI cO Y a_27 x3_23.toNatClampNeg x1) ?_)
      refine j_nmA (fun a_29 ea_29 => ?_)
      have hw := hw a_29 ea_29
      exact j_vret (pc := 105) C hr a_29 rfl hw dX0_keepTurn_105
def wX0_keepTurn_34 (N : Nat) : Nat → jSS → Int32 → Int32 → Int32 → (jSS → Prop) → Prop
  | 0, _, _, _, _, _ => False
  | n + 1, a, x1, x2, x3, post => ((12 ≤ x3) → (wX0_keepTurn_74 N a x1 x2 post)) ∧ ((¬ 12 ≤ x3) → (vp_in x3 12 ∧ ∀ v_32 : Int32, v_32 = a.1 7 x3.toNatClampNeg → vp_in (x3 - 1) 12 ∧ ∀ a_34 : jSS, a_34 = aP a 7 (x3 - 1).toNatClampNeg v_32 → vp_in x3 12 ∧ ∀ v_36 : Int32, v_36 = a_34.1 8 x3.toNatClampNeg → vp_in (x3 - 1) 12 ∧ ∀ a_38 : jSS, a_38 = aP a_34 8 (x3 - 1).toNatClampNeg v_36 → ∀ x3_39 : Int32, x3_39 = x3 + 1 → wX0_keepTurn_34 N n a_38 x1 x2 x3_39 post))
set_option maxHeartbeats 4000000 in
set_option maxRecDepth 100000 in
theorem kX0_keepTurn_34 {p : Program} {l : Launch} {e : Env} {s : State} {m : MethodId} {args : Array Value} {below : List Frame} {meth : Method} {c : Code} {D : va_G} {cI cJ cZ cO : ClassId} {f : Nat → Nat} {Y : va_W} {A : Nat → Prop} {N : Nat} {post : jSS → Prop} (C : jC p s m args meth c cX0_keepTurn 4 yX0_keepTurn.cls wsX0_keepTurn D (jT cI cJ cZ cO) A) (hr : meth.sig.returnType = none) (hG : gz A s) : ∀ (n : Nat) (a : jSS) (x1 : Int32) (x2 : Int32) (x3 : Int32), wX0_keepTurn_34 N n a x1 x2 x3 post → jJ p l e rmX0_keepTurn s m args below meth c 0 0 (MQ below (va_Qv post (jE D (jT cI cJ cZ cO) A (acells f cI cO Y)) A) args s 0 0 A) D A 4 (acells f cI cO Y a) [(0, .ref (f 3)), (1, .int x1), (2, .int x2), (3, .int x3)] 34 [] := by
  intro n
  induction n with
  | zero =>
    intro a x1 x2 x3 hw
    exact False.elim hw
  | succ n ih =>
    intro a x1 x2 x3 hw
    unfold wX0_keepTurn_34 at hw
    refine j_iload_n (pc := 34) C dX0_keepTurn_34 3 rfl rfl ?_
    refine j_bipush (pc := 35) (v := 12) C dX0_keepTurn_35 (by decide) ?_
    refine j_icmp_ge (pc := 37) C 74 dX0_keepTurn_37 (by decide) (fun z_30 => ?_) (fun z_30 => ?_)
    · have hw := hw.1 z_30
      refine j_sub [0, 1, 2] rfl ?_
      exact kX0_keepTurn_74 C hr hG _ _ _ hw
    · have hw := hw.2 z_30
      refine j_aload_n (pc := 40) C dX0_keepTurn_40 0 rfl rfl ?_
      refine j_get (ref := RX0) (pc := 41) C hiX0_keepTurn_X0 3 (c_at3 f cI cO Y a) rfl 10 (by decide) lkX0_keepTurn_18 (c_fl3_10 f a) dX0_keepTurn_41 ?_
      refine j_iload_n (pc := 44) C dX0_keepTurn_44 3 rfl rfl ?_
      refine j_iconst (pc := 45) (v := 1) C dX0_keepTurn_45 (by decide) ?_
      refine j_isub (pc := 46) C dX0_keepTurn_46 ?_
      refine j_aload_n (pc := 47) C dX0_keepTurn_47 0 rfl rfl ?_
      refine j_get (ref := RX0) (pc := 48) C hiX0_keepTurn_X0 3 (c_at3 f cI cO Y a) rfl 10 (by decide) lkX0_keepTurn_18 (c_fl3_10 f a) dX0_keepTurn_48 ?_
      refine j_iload_n (pc := 51) C dX0_keepTurn_51 3 rfl rfl ?_
      obtain ⟨h_31, hw⟩ := hw
      refine j_iald (pc := 52) C 7 0 (c_at7 f cI cO Y a) rfl h_31 dX0_keepTurn_52 ?_
      refine j_topi (fun v_32 ev_32 => ?_)
      have hw := hw v_32 ev_32
      obtain ⟨h_33, hw⟩ := hw
      refine j_iast (pc := 53) C 7 0 (c_at7 f cI cO Y a) rfl h_33 dX0_keepTurn_53 (j_ws (c_s7 f cI cO Y a (x3 - 1).toNatClampNeg v_32) ?_)
      refine j_nmA (fun a_34 ea_34 => ?_)
      have hw := hw a_34 ea_34
      refine j_aload_n (pc := 54) C dX0_keepTurn_54 0 rfl rfl ?_
      refine j_get (ref := RX0) (pc := 55) C hiX0_keepTurn_X0 3 (c_at3 f cI cO Y a_34) rfl 11 (by decide) lkX0_keepTurn_22 (c_fl3_11 f a_34) dX0_keepTurn_55 ?_
      refine j_iload_n (pc := 58) C dX0_keepTurn_58 3 rfl rfl ?_
      refine j_iconst (pc := 59) (v := 1) C dX0_keepTurn_59 (by decide) ?_
      refine j_isub (pc := 60) C dX0_keepTurn_60 ?_
      refine j_aload_n (pc := 61) C dX0_keepTurn_61 0 rfl rfl ?_
      refine j_get (ref := RX0) (pc := 62) C hiX0_keepTurn_X0 3 (c_at3 f cI cO Y a_34) rfl 11 (by decide) lkX0_keepTurn_22 (c_fl3_11 f a_34) dX0_keepTurn_62 ?_
      refine j_iload_n (pc := 65) C dX0_keepTurn_65 3 rfl rfl ?_
      obtain ⟨h_35, hw⟩ := hw
      refine j_iald (pc := 66) C 8 0 (c_at8 f cI cO Y a_34) rfl h_35 dX0_keepTurn_66 ?_
      refine j_topi (fun v_36 ev_36 => ?_)
      have hw := hw v_36 ev_36
      obtain ⟨h_37, hw⟩ := hw
      refine j_iast (pc := 67) C 8 0 (c_at8 f cI cO Y a_34) rfl h_37 dX0_keepTurn_67 (j_ws (c_s8 f cI cO Y a_34 (x3 - 1).toNatClampNeg v_36) ?_)
      refine j_nmA (fun a_38 ea_38 => ?_)
      have hw := hw a_38 ea_38
      obtain ⟨x3_39, ex3_39⟩ : ∃ y : Int32, y = x3 + 1 := ⟨_, rfl⟩
      have hw := hw x3_39 ex3_39
      refine j_iinc (pc := 68) (v := x3_39) (lv' := [(0, .ref (f 3)), (1, .int x1), (2, .int x2), (3, .int x3_39)]) C [1, 2, 3, 0] 3 dX0_keepTurn_68 rfl (by rw [ex3_39]; rfl) (by decide) rfl ?_
      refine j_goto (pc := 71) C 34 dX0_keepTurn_71 (by decide) ?_
      exact ih _ _ _ _ hw
def wX0_keepTurn (N : Nat) (a : jSS) (x1 : Int32) (x2 : Int32) (post : jSS → Prop) : Prop := ∀ v_40 : Int32, v_40 = (a.1 3 8) + 1 → ∀ a_41 : jSS, a_41 = aP a 3 8 v_40 → ((12 ≤ (a_41.1 3 9)) → (wX0_keepTurn_34 N N a_41 x1 x2 1 post)) ∧ ((¬ 12 ≤ (a_41.1 3 9)) → (∀ v_43 : Int32, v_43 = (a_41.1 3 9) + 1 → ∀ a_44 : jSS, a_44 = aP a_41 3 9 v_43 → wX0_keepTurn_74 N a_44 x1 x2 post))
set_option maxHeartbeats 4000000 in
set_option maxRecDepth 100000 in
theorem mX0_keepTurn {l : Launch} {D : va_G} {cI cJ cZ cO : ClassId} {f : Nat → Nat} {Y : va_W} {N : Nat} {a : jSS} {x1 : Int32} {x2 : Int32} {post : jSS → Prop} (hw : wX0_keepTurn N a x1 x2 post) : jMv l D (jT cI cJ cZ cO) gz yX0_keepTurn wsX0_keepTurn rmX0_keepTurn [.ref (f 3), .int x1, .int x2] (acells f cI cO Y a) post (acells f cI cO Y) 0 0 := by
  refine j_ofv (cc := cX0_keepTurn) (maxL := 4) (ret := none) (by decide) rfl (Nat.le_of_ble_eq_true rfl) ?_
  intro p e s m args below meth c A C hr hnm hG
  refine j_sub (lv' := [(0, .ref (f 3)), (1, .int x1), (2, .int x2)]) [0, 1, 2] rfl ?_
  unfold wX0_keepTurn at hw
  refine j_aload_n (pc := 0) C dX0_keepTurn_0 0 rfl rfl ?_
  refine j_dup (pc := 1) C dX0_keepTurn_1 rfl ?_
  refine j_get (ref := RX0) (pc := 2) C hiX0_keepTurn_X0 3 (c_at3 f cI cO Y a) rfl 8 (by decide) lkX0_keepTurn_105 (c_fl3_8 f a) dX0_keepTurn_2 ?_
  refine j_iconst (pc := 5) (v := 1) C dX0_keepTurn_5 (by decide) ?_
  refine j_iadd (pc := 6) C dX0_keepTurn_6 ?_
  refine j_topi (fun v_40 ev_40 => ?_)
  have hw := hw v_40 ev_40
  refine j_put (pc := 7) C hiX0_keepTurn_X0 tyX0 tyX0_ok nmX0 3 (c_at3 f cI cO Y a) rfl 8 (by decide) lkX0_keepTurn_105 rfl rfl rfl (Nat.le_of_ble_eq_true rfl) dX0_keepTurn_7 (j_ws (c_s3_8 f cI cO Y a v_40) ?_)
  refine j_nmA (fun a_41 ea_41 => ?_)
  have hw := hw a_41 ea_41
  refine j_aload_n (pc := 10) C dX0_keepTurn_10 0 rfl rfl ?_
  refine j_get (ref := RX0) (pc := 11) C hiX0_keepTurn_X0 3 (c_at3 f cI cO Y a_41) rfl 9 (by decide) lkX0_keepTurn_108 (c_fl3_9 f a_41) dX0_keepTurn_11 ?_
  refine j_bipush (pc := 14) (v := 12) C dX0_keepTurn_14 (by decide) ?_
  refine j_icmp_ge (pc := 16) C 32 dX0_keepTurn_16 (by decide) (fun z_42 => ?_) (fun z_42 => ?_)
  · have hw := hw.1 z_42
    refine j_iconst (pc := 32) (v := 1) C dX0_keepTurn_32 (by decide) ?_
    refine j_istore_n (pc := 33) (lv' := [(0, .ref (f 3)), (1, .int x1), (2, .int x2), (3, .int 1)]) C [1, 2, 3, 0] dX0_keepTurn_33 rfl (by decide) rfl ?_
    exact kX0_keepTurn_34 C hr hG N _ _ _ _ hw
  · have hw := hw.2 z_42
    refine j_aload_n (pc := 19) C dX0_keepTurn_19 0 rfl rfl ?_
    refine j_dup (pc := 20) C dX0_keepTurn_20 rfl ?_
    refine j_get (ref := RX0) (pc := 21) C hiX0_keepTurn_X0 3 (c_at3 f cI cO Y a_41) rfl 9 (by decide) lkX0_keepTurn_108 (c_fl3_9 f a_41) dX0_keepTurn_21 ?_
    refine j_iconst (pc := 24) (v := 1) C dX0_keepTurn_24 (by decide) ?_
    refine j_iadd (pc := 25) C dX0_keepTurn_25 ?_
    refine j_topi (fun v_43 ev_43 => ?_)
    have hw := hw v_43 ev_43
    refine j_put (pc := 26) C hiX0_keepTurn_X0 tyX0 tyX0_ok nmX0 3 (c_at3 f cI cO Y a_41) rfl 9 (by decide) lkX0_keepTurn_108 rfl rfl rfl (Nat.le_of_ble_eq_true rfl) dX0_keepTurn_26 (j_ws (c_s3_9 f cI cO Y a_41 v_43) ?_)
    refine j_nmA (fun a_44 ea_44 => ?_)
    have hw := hw a_44 ea_44
    refine j_goto (pc := 29) C 74 dX0_keepTurn_29 (by decide) ?_
    exact kX0_keepTurn_74 C hr hG _ _ _ hw

def rmX0_enter : Room := { frames := 1, cells := 0, slots := 0, locals := 23 }
theorem hiX0_enter_X0 : ∀ w ∈ u_ws RX0 TX0 12, w ∈ wsX0_enter := by decide +kernel
theorem lkX0_enter_9 : Cond.fieldLink yX0_enter.cls 9 (TX0 0).1 (TX0 0).2.1 (TX0 0).2.2.1 ∈ wsX0_enter := by decide +kernel
theorem lkX0_enter_15 : Cond.fieldLink yX0_enter.cls 15 (TX0 4).1 (TX0 4).2.1 (TX0 4).2.2.1 ∈ wsX0_enter := by decide +kernel
def wX0_enter (N : Nat) (a : jSS) (x1 : Int32) (x3 : Int32) (post : jSS → Prop) : Prop := ∀ a_7 : jSS, a_7 = aP a 3 0 x1 → wX0_beginPhase N a_7 2 x3 (fun a_9 => ∀ a_10 : jSS, a_10 = aP a_9 3 4 (-1) → wX0_keepTurn N a_10 x1 x3 (fun a_12 => post a_12))
set_option maxHeartbeats 4000000 in
set_option maxRecDepth 100000 in
theorem mX0_enter {l : Launch} {D : va_G} {cI cJ cZ cO : ClassId} {f : Nat → Nat} {Y : va_W} {N : Nat} {a : jSS} {x1 : Int32} {x3 : Int32} {post : jSS → Prop} (hw : wX0_enter N a x1 x3 post) : jMv l D (jT cI cJ cZ cO) gz yX0_enter wsX0_enter rmX0_enter [.ref (f 3), .int x1, .ref (f 0), .int x3] (acells f cI cO Y a) post (acells f cI cO Y) 0 0 := by
  refine j_ofv (cc := cX0_enter) (maxL := 4) (ret := none) (by decide) rfl (Nat.le_of_ble_eq_true rfl) ?_
  intro p e s m args below meth c A C hr hnm hG
  refine j_sub (lv' := [(0, .ref (f 3)), (1, .int x1), (2, .ref (f 0)), (3, .int x3)]) [0, 1, 2, 3] rfl ?_
  unfold wX0_enter at hw
  refine j_aload_n (pc := 0) C dX0_enter_0 0 rfl rfl ?_
  refine j_iload_n (pc := 1) C dX0_enter_1 1 rfl rfl ?_
  refine j_put (pc := 2) C hiX0_enter_X0 tyX0 tyX0_ok nmX0 3 (c_at3 f cI cO Y a) rfl 0 (by decide) lkX0_enter_9 rfl rfl rfl (Nat.le_of_ble_eq_true rfl) dX0_enter_2 (j_ws (c_s3_0 f cI cO Y a x1) ?_)
  refine j_nmA (fun a_7 ea_7 => ?_)
  have hw := hw a_7 ea_7
  refine j_aload_n (pc := 5) C dX0_enter_5 0 rfl rfl ?_
  refine j_iconst (pc := 6) (v := 2) C dX0_enter_6 (by decide) ?_
  refine j_aload_n (pc := 7) C dX0_enter_7 2 rfl rfl ?_
  refine j_iload_n (pc := 8) C dX0_enter_8 3 rfl rfl ?_
  refine j_callv0 (pc := 9) C gz_ok hG 3 (mX0_beginPhase hw) gX0_enter_X0_beginPhase rfl rfl rfl (by decide +kernel) ⟨Nat.le_of_ble_eq_true rfl, Nat.le_of_ble_eq_true rfl⟩ 3 (c_at3 f cI cO Y a_7) rfl rfl rfl (Nat.le_of_ble_eq_true rfl) dX0_enter_9 ⟨Nat.le_refl _, Nat.le_refl _⟩ (fun a_9 hw => ?_)
  refine j_aload_n (pc := 12) C dX0_enter_12 0 rfl rfl ?_
  refine j_iconst (pc := 13) (v := (-1)) C dX0_enter_13 (by decide) ?_
  refine j_put (pc := 14) C hiX0_enter_X0 tyX0 tyX0_ok nmX0 3 (c_at3 f cI cO Y a_9) rfl 4 (by decide) lkX0_enter_15 rfl rfl rfl (Nat.le_of_ble_eq_true rfl) dX0_enter_14 (j_ws (c_s3_4 f cI cO Y a_9 (-1)) ?_)
  refine j_nmA (fun a_10 ea_10 => ?_)
  have hw := hw a_10 ea_10
  refine j_aload_n (pc := 17) C dX0_enter_17 0 rfl rfl ?_
  refine j_iload_n (pc := 18) C dX0_enter_18 1 rfl rfl ?_
  refine j_iload_n (pc := 19) C dX0_enter_19 3 rfl rfl ?_
  refine j_callv0 (pc := 20) C gz_ok hG 2 (mX0_keepTurn hw) gX0_enter_X0_keepTurn rfl rfl rfl (by decide +kernel) ⟨Nat.le_of_ble_eq_true rfl, Nat.le_of_ble_eq_true rfl⟩ 3 (c_at3 f cI cO Y a_10) rfl rfl rfl (Nat.le_of_ble_eq_true rfl) dX0_enter_20 ⟨Nat.le_refl _, Nat.le_refl _⟩ (fun a_12 hw => ?_)
  exact j_vret (pc := 23) C hr a_12 rfl hw dX0_enter_23

def rmX0_phaseIsOver : Room := { frames := 1, cells := 0, slots := 0, locals := 20 }
theorem hiX0_phaseIsOver_X0 : ∀ w ∈ u_ws RX0 TX0 12, w ∈ wsX0_phaseIsOver := by decide +kernel
theorem hiX0_phaseIsOver_X5 : ∀ w ∈ u_ws RX5 TX5 16, w ∈ wsX0_phaseIsOver := by decide +kernel
theorem hiX0_phaseIsOver_X3 : ∀ w ∈ u_ws RX3 TX3 2, w ∈ wsX0_phaseIsOver := by decide +kernel
theorem lkX0_phaseIsOver_82 : Cond.fieldLink yX0_phaseIsOver.cls 82 (TX0 2).1 (TX0 2).2.1 (TX0 2).2.2.1 ∈ wsX0_phaseIsOver := by decide +kernel
theorem lkX0_phaseIsOver_85 : Cond.fieldLink yX0_phaseIsOver.cls 85 (TX5 13).1 (TX5 13).2.1 (TX5 13).2.2.1 ∈ wsX0_phaseIsOver := by decide +kernel
theorem lkX0_phaseIsOver_48 : Cond.fieldLink yX0_phaseIsOver.cls 48 (TX5 0).1 (TX5 0).2.1 (TX5 0).2.2.1 ∈ wsX0_phaseIsOver := by decide +kernel
theorem lkX0_phaseIsOver_52 : Cond.fieldLink yX0_phaseIsOver.cls 52 (TX3 1).1 (TX3 1).2.1 (TX3 1).2.2.1 ∈ wsX0_phaseIsOver := by decide +kernel
theorem lkX0_phaseIsOver_25 : Cond.fieldLink yX0_phaseIsOver.cls 25 (TX0 1).1 (TX0 1).2.1 (TX0 1).2.2.1 ∈ wsX0_phaseIsOver := by decide +kernel
theorem lkX0_phaseIsOver_88 : Cond.fieldLink yX0_phaseIsOver.cls 88 (TX5 6).1 (TX5 6).2.1 (TX5 6).2.2.1 ∈ wsX0_phaseIsOver := by decide +kernel
theorem lkX0_phaseIsOver_91 : Cond.fieldLink yX0_phaseIsOver.cls 91 (TX0 3).1 (TX0 3).2.1 (TX0 3).2.2.1 ∈ wsX0_phaseIsOver := by decide +kernel
def wX0_phaseIsOver_81 (N : Nat) (a : jSS)  (post : Int32 → jSS → Prop) : Prop := post 1 a
set_option maxHeartbeats 4000000 in
set_option maxRecDepth 100000 in
theorem kX0_phaseIsOver_81 {p : Program} {l : Launch} {e : Env} {s : State} {m : MethodId} {args : Array Value} {below : List Frame} {meth : Method} {c : Code} {D : va_G} {cI cJ cZ cO : ClassId} {f : Nat → Nat} {Y : va_W} {A : Nat → Prop} {N : Nat} {post : Int32 → jSS → Prop} (C : jC p s m args meth c cX0_phaseIsOver 6 yX0_phaseIsOver.cls wsX0_phaseIsOver D (jT cI cJ cZ cO) A) (hr : meth.sig.returnType = (some .boolean)) (hG : gz A s) (a : jSS)  (hw : wX0_phaseIsOver_81 N a post) : jJ p l e rmX0_phaseIsOver s m args below meth c 0 0 (MQ below (va_Qi post (jE D (jT cI cJ cZ cO) A (acells f cI cO Y)) A) args s 0 0 A) D A 6 (acells f cI cO Y a) [] 81 [] := by
  unfold wX0_phaseIsOver_81 at hw
  refine j_iconst (pc := 81) (v := 1) C dX0_phaseIsOver_81 (by decide) ?_
  refine j_goto (pc := 82) C 86 dX0_phaseIsOver_82 (by decide) ?_
  exact j_zret (pc := 86) C hr (by decide) a rfl hw dX0_phaseIsOver_86
def wX0_phaseIsOver_51 (N : Nat) (a : jSS) (x3 : Int32) (x4 : Int32) (y0 : Int32) (post : Int32 → jSS → Prop) : Prop := ((x3 = 0) → (post 0 a)) ∧ ((¬ x3 = 0) → (wX5_product N a (fun r_16 a_17 => ((0 ≤ (lg_cmp (4 * x4.toInt64) (5 * r_16))) → (wX0_phaseIsOver_81 N a_17 post)) ∧ ((¬ 0 ≤ (lg_cmp (4 * x4.toInt64) (5 * r_16))) → (((y0 = 0) → (post 0 a_17)) ∧ ((¬ y0 = 0) → (wX0_phaseIsOver_81 N a_17 post)))))))
set_option maxHeartbeats 4000000 in
set_option maxRecDepth 100000 in
theorem kX0_phaseIsOver_51 {p : Program} {l : Launch} {e : Env} {s : State} {m : MethodId} {args : Array Value} {below : List Frame} {meth : Method} {c : Code} {D : va_G} {cI cJ cZ cO : ClassId} {f : Nat → Nat} {Y : va_W} {A : Nat → Prop} {N : Nat} {post : Int32 → jSS → Prop} (C : jC p s m args meth c cX0_phaseIsOver 6 yX0_phaseIsOver.cls wsX0_phaseIsOver D (jT cI cJ cZ cO) A) (hr : meth.sig.returnType = (some .boolean)) (hG : gz A s) (a : jSS) (x3 : Int32) (x4 : Int32) (y0 : Int32) (hw : wX0_phaseIsOver_51 N a x3 x4 y0 post) : jJ p l e rmX0_phaseIsOver s m args below meth c 0 0 (MQ below (va_Qi post (jE D (jT cI cJ cZ cO) A (acells f cI cO Y)) A) args s 0 0 A) D A 6 (acells f cI cO Y a) [(1, .ref (f 0)), (3, .int x3), (4, .int x4)] 51 [.int y0] := by
  unfold wX0_phaseIsOver_51 at hw
  refine j_istore (pc := 51) (lv' := [(1, .ref (f 0)), (3, .int x3), (4, .int x4), (5, .int y0)]) C [1, 2, 3, 0] dX0_phaseIsOver_51 (by decide) rfl ?_
  refine j_iload_n (pc := 53) C dX0_phaseIsOver_53 1 rfl rfl ?_
  refine j_if_eq (pc := 54) C 85 dX0_phaseIsOver_54 (by decide) (fun z_15 => ?_) (fun z_15 => ?_)
  · have hw := hw.1 z_15
    refine j_iconst (pc := 85) (v := 0) C dX0_phaseIsOver_85 (by decide) ?_
    exact j_zret (pc := 86) C hr (by decide) a rfl hw dX0_phaseIsOver_86
  · have hw := hw.2 z_15
    refine j_ldc2 (pc := 57) (v := 4) C dX0_phaseIsOver_57 (by decide +kernel) ?_
    refine j_iload (pc := 60) C dX0_phaseIsOver_60 2 rfl ?_
    refine j_i2l (pc := 62) C dX0_phaseIsOver_62 ?_
    refine j_lmul (pc := 63) C dX0_phaseIsOver_63 ?_
    refine j_ldc2 (pc := 64) (v := 5) C dX0_phaseIsOver_64 (by decide +kernel) ?_
    refine j_aload_n (pc := 67) C dX0_phaseIsOver_67 0 rfl rfl ?_
    refine j_calll0 (pc := 68) C gz_ok hG 0 (mX5_product hw) gX0_phaseIsOver_X5_product rfl rfl rfl (by decide +kernel) ⟨Nat.le_of_ble_eq_true rfl, Nat.le_of_ble_eq_true rfl⟩ 0 (c_at0 f cI cO Y a) rfl rfl rfl (Nat.le_of_ble_eq_true rfl) dX0_phaseIsOver_68 ⟨Nat.le_refl _, Nat.le_refl _⟩ (fun r_16 a_17 hw => ?_)
    refine j_lmul (pc := 71) C dX0_phaseIsOver_71 ?_
    refine j_lcmp (pc := 72) C dX0_phaseIsOver_72 ?_
    refine j_if_ge (pc := 73) C 81 dX0_phaseIsOver_73 (by decide) (fun z_18 => ?_) (fun z_18 => ?_)
    · have hw := hw.1 z_18
      refine j_sub [] rfl ?_
      exact kX0_phaseIsOver_81 C hr hG _ hw
    · have hw := hw.2 z_18
      refine j_iload (pc := 76) C dX0_phaseIsOver_76 3 rfl ?_
      refine j_if_eq (pc := 78) C 85 dX0_phaseIsOver_78 (by decide) (fun z_19 => ?_) (fun z_19 => ?_)
      · have hw := hw.1 z_19
        refine j_iconst (pc := 85) (v := 0) C dX0_phaseIsOver_85 (by decide) ?_
        exact j_zret (pc := 86) C hr (by decide) a_17 rfl hw dX0_phaseIsOver_86
      · have hw := hw.2 z_19
        refine j_sub [] rfl ?_
        exact kX0_phaseIsOver_81 C hr hG _ hw
def wX0_phaseIsOver_110 (N : Nat) (a : jSS)  (post : Int32 → jSS → Prop) : Prop := post 1 a
set_option maxHeartbeats 4000000 in
set_option maxRecDepth 100000 in
theorem kX0_phaseIsOver_110 {p : Program} {l : Launch} {e : Env} {s : State} {m : MethodId} {args : Array Value} {below : List Frame} {meth : Method} {c : Code} {D : va_G} {cI cJ cZ cO : ClassId} {f : Nat → Nat} {Y : va_W} {A : Nat → Prop} {N : Nat} {post : Int32 → jSS → Prop} (C : jC p s m args meth c cX0_phaseIsOver 6 yX0_phaseIsOver.cls wsX0_phaseIsOver D (jT cI cJ cZ cO) A) (hr : meth.sig.returnType = (some .boolean)) (hG : gz A s) (a : jSS)  (hw : wX0_phaseIsOver_110 N a post) : jJ p l e rmX0_phaseIsOver s m args below meth c 0 0 (MQ below (va_Qi post (jE D (jT cI cJ cZ cO) A (acells f cI cO Y)) A) args s 0 0 A) D A 6 (acells f cI cO Y a) [] 110 [] := by
  unfold wX0_phaseIsOver_110 at hw
  refine j_iconst (pc := 110) (v := 1) C dX0_phaseIsOver_110 (by decide) ?_
  refine j_goto (pc := 111) C 115 dX0_phaseIsOver_111 (by decide) ?_
  exact j_zret (pc := 115) C hr (by decide) a rfl hw dX0_phaseIsOver_115
def wX0_phaseIsOver_18 (N : Nat) (a : jSS) (y0 : Int32) (post : Int32 → jSS → Prop) : Prop := ∀ x4_20 : Int32, x4_20 = a.1 1 1 → ((¬ (a.1 3 1) = 0) → (((¬ (a.1 3 1) = 1) → ((y0 = 0 ∨ y0 = 1) ∧ post y0 a)) ∧ (((a.1 3 1) = 1) → (((¬ y0 = 0) → (wX0_phaseIsOver_110 N a post)) ∧ ((y0 = 0) → (wX5_product N a (fun r_24 a_25 => ((0 < (lg_cmp x4_20.toInt64 r_24)) → (post 0 a_25)) ∧ ((¬ 0 < (lg_cmp x4_20.toInt64 r_24)) → (wX0_phaseIsOver_110 N a_25 post))))))))) ∧ (((a.1 3 1) = 0) → ((((a.1 0 6) = (a.1 3 3)) → (wX0_phaseIsOver_51 N a y0 x4_20 0 post)) ∧ ((¬ (a.1 0 6) = (a.1 3 3)) → (wX0_phaseIsOver_51 N a y0 x4_20 1 post))))
set_option maxHeartbeats 4000000 in
set_option maxRecDepth 100000 in
theorem kX0_phaseIsOver_18 {p : Program} {l : Launch} {e : Env} {s : State} {m : MethodId} {args : Array Value} {below : List Frame} {meth : Method} {c : Code} {D : va_G} {cI cJ cZ cO : ClassId} {f : Nat → Nat} {Y : va_W} {A : Nat → Prop} {N : Nat} {post : Int32 → jSS → Prop} (C : jC p s m args meth c cX0_phaseIsOver 6 yX0_phaseIsOver.cls wsX0_phaseIsOver D (jT cI cJ cZ cO) A) (hr : meth.sig.returnType = (some .boolean)) (hG : gz A s) (a : jSS) (y0 : Int32) (hw : wX0_phaseIsOver_18 N a y0 post) : jJ p l e rmX0_phaseIsOver s m args below meth c 0 0 (MQ below (va_Qi post (jE D (jT cI cJ cZ cO) A (acells f cI cO Y)) A) args s 0 0 A) D A 6 (acells f cI cO Y a) [(0, .ref (f 3)), (1, .ref (f 0))] 18 [.int y0] := by
  unfold wX0_phaseIsOver_18 at hw
  refine j_istore_n (pc := 18) (lv' := [(0, .ref (f 3)), (1, .ref (f 0)), (3, .int y0)]) C [1, 2, 0] dX0_phaseIsOver_18 rfl (by decide) rfl ?_
  refine j_aload_n (pc := 19) C dX0_phaseIsOver_19 1 rfl rfl ?_
  refine j_get (ref := RX5) (pc := 20) C hiX0_phaseIsOver_X5 0 (c_at0 f cI cO Y a) rfl 0 (by decide) lkX0_phaseIsOver_48 (c_fl0_0 f a) dX0_phaseIsOver_20 ?_
  refine j_get (ref := RX3) (pc := 23) C hiX0_phaseIsOver_X3 1 (c_at1 f cI cO Y a) rfl 1 (by decide) lkX0_phaseIsOver_52 (c_fl1_1 f a) dX0_phaseIsOver_23 ?_
  refine j_topi (fun x4_20 ex4_20 => ?_)
  have hw := hw x4_20 ex4_20
  refine j_istore (pc := 26) (lv' := [(0, .ref (f 3)), (1, .ref (f 0)), (3, .int y0), (4, .int x4_20)]) C [1, 2, 3, 0] dX0_phaseIsOver_26 (by decide) rfl ?_
  refine j_aload_n (pc := 28) C dX0_phaseIsOver_28 0 rfl rfl ?_
  refine j_get (ref := RX0) (pc := 29) C hiX0_phaseIsOver_X0 3 (c_at3 f cI cO Y a) rfl 1 (by decide) lkX0_phaseIsOver_25 (c_fl3_1 f a) dX0_phaseIsOver_29 ?_
  refine j_if_ne (pc := 32) C 87 dX0_phaseIsOver_32 (by decide) (fun z_21 => ?_) (fun z_21 => ?_)
  · have hw := hw.1 z_21
    refine j_aload_n (pc := 87) C dX0_phaseIsOver_87 0 rfl rfl ?_
    refine j_get (ref := RX0) (pc := 88) C hiX0_phaseIsOver_X0 3 (c_at3 f cI cO Y a) rfl 1 (by decide) lkX0_phaseIsOver_25 (c_fl3_1 f a) dX0_phaseIsOver_88 ?_
    refine j_iconst (pc := 91) (v := 1) C dX0_phaseIsOver_91 (by decide) ?_
    refine j_icmp_ne (pc := 92) C 116 dX0_phaseIsOver_92 (by decide) (fun z_22 => ?_) (fun z_22 => ?_)
    · have hw := hw.1 z_22
      refine j_iload_n (pc := 116) C dX0_phaseIsOver_116 2 rfl rfl ?_
      exact j_zret (pc := 117) C hr hw.1 a rfl hw.2 dX0_phaseIsOver_117
    · have hw := hw.2 z_22
      refine j_iload_n (pc := 95) C dX0_phaseIsOver_95 2 rfl rfl ?_
      refine j_if_ne (pc := 96) C 110 dX0_phaseIsOver_96 (by decide) (fun z_23 => ?_) (fun z_23 => ?_)
      · have hw := hw.1 z_23
        refine j_sub [] rfl ?_
        exact kX0_phaseIsOver_110 C hr hG _ hw
      · have hw := hw.2 z_23
        refine j_iload (pc := 99) C dX0_phaseIsOver_99 3 rfl ?_
        refine j_i2l (pc := 101) C dX0_phaseIsOver_101 ?_
        refine j_aload_n (pc := 102) C dX0_phaseIsOver_102 1 rfl rfl ?_
        refine j_calll0 (pc := 103) C gz_ok hG 0 (mX5_product hw) gX0_phaseIsOver_X5_product rfl rfl rfl (by decide +kernel) ⟨Nat.le_of_ble_eq_true rfl, Nat.le_of_ble_eq_true rfl⟩ 0 (c_at0 f cI cO Y a) rfl rfl rfl (Nat.le_of_ble_eq_true rfl) dX0_phaseIsOver_103 ⟨Nat.le_refl _, Nat.le_refl _⟩ (fun r_24 a_25 hw => ?_)
        refine j_lcmp (pc := 106) C dX0_phaseIsOver_106 ?_
        refine j_if_gt (pc := 107) C 114 dX0_phaseIsOver_107 (by decide) (fun z_26 => ?_) (fun z_26 => ?_)
        · have hw := hw.1 z_26
          refine j_iconst (pc := 114) (v := 0) C dX0_phaseIsOver_114 (by decide) ?_
          exact j_zret (pc := 115) C hr (by decide) a_25 rfl hw dX0_phaseIsOver_115
        · have hw := hw.2 z_26
          refine j_sub [] rfl ?_
          exact kX0_phaseIsOver_110 C hr hG _ hw
  · have hw := hw.2 z_21
    refine j_aload_n (pc := 35) C dX0_phaseIsOver_35 1 rfl rfl ?_
    refine j_get (ref := RX5) (pc := 36) C hiX0_phaseIsOver_X5 0 (c_at0 f cI cO Y a) rfl 6 (by decide) lkX0_phaseIsOver_88 (c_fl0_6 f a) dX0_phaseIsOver_36 ?_
    refine j_aload_n (pc := 39) C dX0_phaseIsOver_39 0 rfl rfl ?_
    refine j_get (ref := RX0) (pc := 40) C hiX0_phaseIsOver_X0 3 (c_at3 f cI cO Y a) rfl 3 (by decide) lkX0_phaseIsOver_91 (c_fl3_3 f a) dX0_phaseIsOver_40 ?_
    refine j_icmp_eq (pc := 43) C 50 dX0_phaseIsOver_43 (by decide) (fun z_27 => ?_) (fun z_27 => ?_)
    · have hw := hw.1 z_27
      refine j_iconst (pc := 50) (v := 0) C dX0_phaseIsOver_50 (by decide) ?_
      refine j_sub [1, 2, 3] rfl ?_
      exact kX0_phaseIsOver_51 C hr hG _ _ _ _ hw
    · have hw := hw.2 z_27
      refine j_iconst (pc := 46) (v := 1) C dX0_phaseIsOver_46 (by decide) ?_
      refine j_goto (pc := 47) C 51 dX0_phaseIsOver_47 (by decide) ?_
      refine j_sub [1, 2, 3] rfl ?_
      exact kX0_phaseIsOver_51 C hr hG _ _ _ _ hw
def wX0_phaseIsOver (N : Nat) (a : jSS) (x2 : Int32) (post : Int32 → jSS → Prop) : Prop := (((x2 - (a.1 3 2)) < (a.1 0 13)) → (wX0_phaseIsOver_18 N a 0 post)) ∧ ((¬ (x2 - (a.1 3 2)) < (a.1 0 13)) → (wX0_phaseIsOver_18 N a 1 post))
set_option maxHeartbeats 4000000 in
set_option maxRecDepth 100000 in
theorem mX0_phaseIsOver {l : Launch} {D : va_G} {cI cJ cZ cO : ClassId} {f : Nat → Nat} {Y : va_W} {N : Nat} {a : jSS} {x2 : Int32} {post : Int32 → jSS → Prop} (hw : wX0_phaseIsOver N a x2 post) : jMi l D (jT cI cJ cZ cO) gz yX0_phaseIsOver wsX0_phaseIsOver rmX0_phaseIsOver [.ref (f 3), .ref (f 0), .int x2] (acells f cI cO Y a) post (acells f cI cO Y) 0 0 := by
  refine j_ofi (cc := cX0_phaseIsOver) (maxL := 6) (ret := (some .boolean)) (by decide) rfl (Nat.le_of_ble_eq_true rfl) ?_
  intro p e s m args below meth c A C hr hnm hG
  refine j_sub (lv' := [(0, .ref (f 3)), (1, .ref (f 0)), (2, .int x2)]) [0, 1, 2] rfl ?_
  unfold wX0_phaseIsOver at hw
  refine j_iload_n (pc := 0) C dX0_phaseIsOver_0 2 rfl rfl ?_
  refine j_aload_n (pc := 1) C dX0_phaseIsOver_1 0 rfl rfl ?_
  refine j_get (ref := RX0) (pc := 2) C hiX0_phaseIsOver_X0 3 (c_at3 f cI cO Y a) rfl 2 (by decide) lkX0_phaseIsOver_82 (c_fl3_2 f a) dX0_phaseIsOver_2 ?_
  refine j_isub (pc := 5) C dX0_phaseIsOver_5 ?_
  refine j_aload_n (pc := 6) C dX0_phaseIsOver_6 1 rfl rfl ?_
  refine j_get (ref := RX5) (pc := 7) C hiX0_phaseIsOver_X5 0 (c_at0 f cI cO Y a) rfl 13 (by decide) lkX0_phaseIsOver_85 (c_fl0_13 f a) dX0_phaseIsOver_7 ?_
  refine j_icmp_lt (pc := 10) C 17 dX0_phaseIsOver_10 (by decide) (fun z_28 => ?_) (fun z_28 => ?_)
  · have hw := hw.1 z_28
    refine j_iconst (pc := 17) (v := 0) C dX0_phaseIsOver_17 (by decide) ?_
    refine j_sub [0, 1] rfl ?_
    exact kX0_phaseIsOver_18 C hr hG _ _ hw
  · have hw := hw.2 z_28
    refine j_iconst (pc := 13) (v := 1) C dX0_phaseIsOver_13 (by decide) ?_
    refine j_goto (pc := 14) C 18 dX0_phaseIsOver_14 (by decide) ?_
    refine j_sub [0, 1] rfl ?_
    exact kX0_phaseIsOver_18 C hr hG _ _ hw

def rmX0_probe : Room := { frames := 2, cells := 0, slots := 0, locals := 46 }
theorem hiX0_probe_X0 : ∀ w ∈ u_ws RX0 TX0 12, w ∈ wsX0_probe := by decide +kernel
theorem hiX0_probe_X5 : ∀ w ∈ u_ws RX5 TX5 16, w ∈ wsX0_probe := by decide +kernel
theorem hiX0_probe_X3 : ∀ w ∈ u_ws RX3 TX3 2, w ∈ wsX0_probe := by decide +kernel
theorem lkX0_probe_15 : Cond.fieldLink yX0_probe.cls 15 (TX0 4).1 (TX0 4).2.1 (TX0 4).2.2.1 ∈ wsX0_probe := by decide +kernel
theorem lkX0_probe_98 : Cond.fieldLink yX0_probe.cls 98 (TX5 14).1 (TX5 14).2.1 (TX5 14).2.2.1 ∈ wsX0_probe := by decide +kernel
theorem lkX0_probe_40 : Cond.fieldLink yX0_probe.cls 40 (TX0 5).1 (TX0 5).2.1 (TX0 5).2.2.1 ∈ wsX0_probe := by decide +kernel
theorem lkX0_probe_48 : Cond.fieldLink yX0_probe.cls 48 (TX5 0).1 (TX5 0).2.1 (TX5 0).2.2.1 ∈ wsX0_probe := by decide +kernel
theorem lkX0_probe_52 : Cond.fieldLink yX0_probe.cls 52 (TX3 1).1 (TX3 1).2.1 (TX3 1).2.2.1 ∈ wsX0_probe := by decide +kernel
def wX0_probe_57 (N : Nat) (a : jSS) (x2 : Int32) (y0 : Int32) (post : jSS → Prop) : Prop := wX0_enter N a y0 x2 (fun a_11 => post a_11)
set_option maxHeartbeats 4000000 in
set_option maxRecDepth 100000 in
theorem kX0_probe_57 {p : Program} {l : Launch} {e : Env} {s : State} {m : MethodId} {args : Array Value} {below : List Frame} {meth : Method} {c : Code} {D : va_G} {cI cJ cZ cO : ClassId} {f : Nat → Nat} {Y : va_W} {A : Nat → Prop} {N : Nat} {post : jSS → Prop} (C : jC p s m args meth c cX0_probe 3 yX0_probe.cls wsX0_probe D (jT cI cJ cZ cO) A) (hr : meth.sig.returnType = none) (hG : gz A s) (a : jSS) (x2 : Int32) (y0 : Int32) (hw : wX0_probe_57 N a x2 y0 post) : jJ p l e rmX0_probe s m args below meth c 0 0 (MQ below (va_Qv post (jE D (jT cI cJ cZ cO) A (acells f cI cO Y)) A) args s 0 0 A) D A 3 (acells f cI cO Y a) [(1, .ref (f 0)), (2, .int x2)] 57 [.int y0, .ref (f 3)] := by
  unfold wX0_probe_57 at hw
  refine j_aload_n (pc := 57) C dX0_probe_57 0 rfl rfl ?_
  refine j_iload_n (pc := 58) C dX0_probe_58 1 rfl rfl ?_
  refine j_callv0 (pc := 59) C gz_ok hG 3 (mX0_enter hw) gX0_probe_X0_enter rfl rfl rfl (by decide +kernel) ⟨Nat.le_of_ble_eq_true rfl, Nat.le_of_ble_eq_true rfl⟩ 3 (c_at3 f cI cO Y a) rfl rfl rfl (Nat.le_of_ble_eq_true rfl) dX0_probe_59 ⟨Nat.le_refl _, Nat.le_refl _⟩ (fun a_11 hw => ?_)
  exact j_vret (pc := 62) C hr a_11 rfl hw dX0_probe_62
def wX0_probe (N : Nat) (a : jSS) (x2 : Int32) (post : jSS → Prop) : Prop := ((¬ (a.1 3 4) = ((-1))) → (((x2 < (a.1 3 4)) → (post a)) ∧ ((¬ x2 < (a.1 3 4)) → (∀ a_14 : jSS, a_14 = aP a 0 14 x2 → (((a_14.1 3 5) = 0) → (wX0_probe_57 N a_14 x2 0 post)) ∧ ((¬ (a_14.1 3 5) = 0) → (wX0_probe_57 N a_14 x2 2 post)))))) ∧ (((a.1 3 4) = ((-1))) → (((4 < (a.1 1 1)) → (post a)) ∧ ((¬ 4 < (a.1 1 1)) → (∀ v_17 : Int32, v_17 = x2 + 200 → ∀ a_18 : jSS, a_18 = aP a 3 4 v_17 → post a_18))))
set_option maxHeartbeats 4000000 in
set_option maxRecDepth 100000 in
theorem mX0_probe {l : Launch} {D : va_G} {cI cJ cZ cO : ClassId} {f : Nat → Nat} {Y : va_W} {N : Nat} {a : jSS} {x2 : Int32} {post : jSS → Prop} (hw : wX0_probe N a x2 post) : jMv l D (jT cI cJ cZ cO) gz yX0_probe wsX0_probe rmX0_probe [.ref (f 3), .ref (f 0), .int x2] (acells f cI cO Y a) post (acells f cI cO Y) 0 0 := by
  refine j_ofv (cc := cX0_probe) (maxL := 3) (ret := none) (by decide) rfl (Nat.le_of_ble_eq_true rfl) ?_
  intro p e s m args below meth c A C hr hnm hG
  refine j_sub (lv' := [(0, .ref (f 3)), (1, .ref (f 0)), (2, .int x2)]) [0, 1, 2] rfl ?_
  unfold wX0_probe at hw
  refine j_aload_n (pc := 0) C dX0_probe_0 0 rfl rfl ?_
  refine j_get (ref := RX0) (pc := 1) C hiX0_probe_X0 3 (c_at3 f cI cO Y a) rfl 4 (by decide) lkX0_probe_15 (c_fl3_4 f a) dX0_probe_1 ?_
  refine j_iconst (pc := 4) (v := (-1)) C dX0_probe_4 (by decide) ?_
  refine j_icmp_ne (pc := 5) C 31 dX0_probe_5 (by decide) (fun z_12 => ?_) (fun z_12 => ?_)
  · have hw := hw.1 z_12
    refine j_iload_n (pc := 31) C dX0_probe_31 2 rfl rfl ?_
    refine j_aload_n (pc := 32) C dX0_probe_32 0 rfl rfl ?_
    refine j_get (ref := RX0) (pc := 33) C hiX0_probe_X0 3 (c_at3 f cI cO Y a) rfl 4 (by decide) lkX0_probe_15 (c_fl3_4 f a) dX0_probe_33 ?_
    refine j_icmp_lt (pc := 36) C 62 dX0_probe_36 (by decide) (fun z_13 => ?_) (fun z_13 => ?_)
    · have hw := hw.1 z_13
      exact j_vret (pc := 62) C hr a rfl hw dX0_probe_62
    · have hw := hw.2 z_13
      refine j_aload_n (pc := 39) C dX0_probe_39 1 rfl rfl ?_
      refine j_iload_n (pc := 40) C dX0_probe_40 2 rfl rfl ?_
      refine j_put (pc := 41) C hiX0_probe_X5 tyX5 tyX5_ok nmX5 0 (c_at0 f cI cO Y a) rfl 14 (by decide) lkX0_probe_98 rfl rfl rfl (Nat.le_of_ble_eq_true rfl) dX0_probe_41 (j_ws (c_s0_14 f cI cO Y a x2) ?_)
      refine j_nmA (fun a_14 ea_14 => ?_)
      have hw := hw a_14 ea_14
      refine j_aload_n (pc := 44) C dX0_probe_44 0 rfl rfl ?_
      refine j_aload_n (pc := 45) C dX0_probe_45 0 rfl rfl ?_
      refine j_get (ref := RX0) (pc := 46) C hiX0_probe_X0 3 (c_at3 f cI cO Y a_14) rfl 5 (by decide) lkX0_probe_40 (c_fl3_5 f a_14) dX0_probe_46 ?_
      refine j_if_eq (pc := 49) C 56 dX0_probe_49 (by decide) (fun z_15 => ?_) (fun z_15 => ?_)
      · have hw := hw.1 z_15
        refine j_iconst (pc := 56) (v := 0) C dX0_probe_56 (by decide) ?_
        refine j_sub [1, 2] rfl ?_
        exact kX0_probe_57 C hr hG _ _ _ hw
      · have hw := hw.2 z_15
        refine j_iconst (pc := 52) (v := 2) C dX0_probe_52 (by decide) ?_
        refine j_goto (pc := 53) C 57 dX0_probe_53 (by decide) ?_
        refine j_sub [1, 2] rfl ?_
        exact kX0_probe_57 C hr hG _ _ _ hw
  · have hw := hw.2 z_12
    refine j_aload_n (pc := 8) C dX0_probe_8 1 rfl rfl ?_
    refine j_get (ref := RX5) (pc := 9) C hiX0_probe_X5 0 (c_at0 f cI cO Y a) rfl 0 (by decide) lkX0_probe_48 (c_fl0_0 f a) dX0_probe_9 ?_
    refine j_get (ref := RX3) (pc := 12) C hiX0_probe_X3 1 (c_at1 f cI cO Y a) rfl 1 (by decide) lkX0_probe_52 (c_fl1_1 f a) dX0_probe_12 ?_
    refine j_iconst (pc := 15) (v := 4) C dX0_probe_15 (by decide) ?_
    refine j_icmp_gt (pc := 16) C 62 dX0_probe_16 (by decide) (fun z_16 => ?_) (fun z_16 => ?_)
    · have hw := hw.1 z_16
      exact j_vret (pc := 62) C hr a rfl hw dX0_probe_62
    · have hw := hw.2 z_16
      refine j_aload_n (pc := 19) C dX0_probe_19 0 rfl rfl ?_
      refine j_iload_n (pc := 20) C dX0_probe_20 2 rfl rfl ?_
      refine j_sipush (pc := 21) (v := 200) C dX0_probe_21 (by decide) ?_
      refine j_iadd (pc := 24) C dX0_probe_24 ?_
      refine j_topi (fun v_17 ev_17 => ?_)
      have hw := hw v_17 ev_17
      refine j_put (pc := 25) C hiX0_probe_X0 tyX0 tyX0_ok nmX0 3 (c_at3 f cI cO Y a) rfl 4 (by decide) lkX0_probe_15 rfl rfl rfl (Nat.le_of_ble_eq_true rfl) dX0_probe_25 (j_ws (c_s3_4 f cI cO Y a v_17) ?_)
      refine j_nmA (fun a_18 ea_18 => ?_)
      have hw := hw a_18 ea_18
      refine j_goto (pc := 28) C 62 dX0_probe_28 (by decide) ?_
      exact j_vret (pc := 62) C hr a_18 rfl hw dX0_probe_62

def rmX0_follow : Room := { frames := 3, cells := 0, slots := 0, locals := 68 }
theorem hiX0_follow_X0 : ∀ w ∈ u_ws RX0 TX0 12, w ∈ wsX0_follow := by decide +kernel
theorem hiX0_follow_X5 : ∀ w ∈ u_ws RX5 TX5 16, w ∈ wsX0_follow := by decide +kernel
theorem hiX0_follow_X3 : ∀ w ∈ u_ws RX3 TX3 2, w ∈ wsX0_follow := by decide +kernel
theorem lkX0_follow_9 : Cond.fieldLink yX0_follow.cls 9 (TX0 0).1 (TX0 0).2.1 (TX0 0).2.2.1 ∈ wsX0_follow := by decide +kernel
theorem lkX0_follow_31 : Cond.fieldLink yX0_follow.cls 31 (TX5 12).1 (TX5 12).2.1 (TX5 12).2.2.1 ∈ wsX0_follow := by decide +kernel
theorem lkX0_follow_40 : Cond.fieldLink yX0_follow.cls 40 (TX0 5).1 (TX0 5).2.1 (TX0 5).2.2.1 ∈ wsX0_follow := by decide +kernel
theorem lkX0_follow_48 : Cond.fieldLink yX0_follow.cls 48 (TX5 0).1 (TX5 0).2.1 (TX5 0).2.2.1 ∈ wsX0_follow := by decide +kernel
theorem lkX0_follow_52 : Cond.fieldLink yX0_follow.cls 52 (TX3 1).1 (TX3 1).2.1 (TX3 1).2.2.1 ∈ wsX0_follow := by decide +kernel
theorem lkX0_follow_25 : Cond.fieldLink yX0_follow.cls 25 (TX0 1).1 (TX0 1).2.1 (TX0 1).2.2.1 ∈ wsX0_follow := by decide +kernel
def wX0_follow_117 (N : Nat) (a : jSS) (x2 : Int32) (x4 : Int32) (post : jSS → Prop) : Prop := ((¬ (a.1 3 0) = 3) → (((x4 = 0) → (post a)) ∧ ((¬ x4 = 0) → (wX0_enter N a 3 x2 (fun a_31 => post a_31))))) ∧ (((a.1 3 0) = 3) → (wX0_probe N a x2 (fun a_33 => post a_33)))
set_option maxHeartbeats 4000000 in
set_option maxRecDepth 100000 in
theorem kX0_follow_117 {p : Program} {l : Launch} {e : Env} {s : State} {m : MethodId} {args : Array Value} {below : List Frame} {meth : Method} {c : Code} {D : va_G} {cI cJ cZ cO : ClassId} {f : Nat → Nat} {Y : va_W} {A : Nat → Prop} {N : Nat} {post : jSS → Prop} (C : jC p s m args meth c cX0_follow 5 yX0_follow.cls wsX0_follow D (jT cI cJ cZ cO) A) (hr : meth.sig.returnType = none) (hG : gz A s) (a : jSS) (x2 : Int32) (x4 : Int32) (hw : wX0_follow_117 N a x2 x4 post) : jJ p l e rmX0_follow s m args below meth c 0 0 (MQ below (va_Qv post (jE D (jT cI cJ cZ cO) A (acells f cI cO Y)) A) args s 0 0 A) D A 5 (acells f cI cO Y a) [(0, .ref (f 3)), (1, .ref (f 0)), (2, .int x2), (4, .int x4)] 117 [] := by
  unfold wX0_follow_117 at hw
  obtain ⟨hNw, tg, hZ, hTt⟩ := id hG
  refine j_aload_n (pc := 117) C dX0_follow_117 0 rfl rfl ?_
  refine j_get (ref := RX0) (pc := 118) C hiX0_follow_X0 3 (c_at3 f cI cO Y a) rfl 0 (by decide) lkX0_follow_9 (c_fl3_0 f a) dX0_follow_118 ?_
  refine j_iconst (pc := 121) (v := 3) C dX0_follow_121 (by decide) ?_
  refine j_icmp_ne (pc := 122) C 134 dX0_follow_122 (by decide) (fun z_28 => ?_) (fun z_28 => ?_)
  · have hw := hw.1 z_28
    refine j_iload (pc := 134) C dX0_follow_134 3 rfl ?_
    refine j_if_eq (pc := 136) C 146 dX0_follow_136 (by decide) (fun z_29 => ?_) (fun z_29 => ?_)
    · have hw := hw.1 z_29
      exact j_vret (pc := 146) C hr a rfl hw dX0_follow_146
    · have hw := hw.2 z_29
      refine j_aload_n (pc := 139) C dX0_follow_139 0 rfl rfl ?_
      refine j_iconst (pc := 140) (v := 3) C dX0_follow_140 (by decide) ?_
      refine j_aload_n (pc := 141) C dX0_follow_141 1 rfl rfl ?_
      refine j_iload_n (pc := 142) C dX0_follow_142 2 rfl rfl ?_
      refine j_callv0 (pc := 143) C gz_ok hG 3 (mX0_enter hw) gX0_follow_X0_enter rfl rfl rfl (by decide +kernel) ⟨Nat.le_of_ble_eq_true rfl, Nat.le_of_ble_eq_true rfl⟩ 3 (c_at3 f cI cO Y a) rfl rfl rfl (Nat.le_of_ble_eq_true rfl) dX0_follow_143 ⟨Nat.le_refl _, Nat.le_refl _⟩ (fun a_31 hw => ?_)
      exact j_vret (pc := 146) C hr a_31 rfl hw dX0_follow_146
  · have hw := hw.2 z_28
    refine j_aload_n (pc := 125) C dX0_follow_125 0 rfl rfl ?_
    refine j_aload_n (pc := 126) C dX0_follow_126 1 rfl rfl ?_
    refine j_iload_n (pc := 127) C dX0_follow_127 2 rfl rfl ?_
    refine j_callv0 (pc := 128) C gz_ok hG 2 (mX0_probe hw) gX0_follow_X0_probe rfl rfl rfl (by decide +kernel) ⟨Nat.le_of_ble_eq_true rfl, Nat.le_of_ble_eq_true rfl⟩ 3 (c_at3 f cI cO Y a) rfl rfl rfl (Nat.le_of_ble_eq_true rfl) dX0_follow_128 ⟨Nat.le_refl _, Nat.le_refl _⟩ (fun a_33 hw => ?_)
    refine j_goto (pc := 131) C 146 dX0_follow_131 (by decide) ?_
    exact j_vret (pc := 146) C hr a_33 rfl hw dX0_follow_146
def wX0_follow_112 (N : Nat) (a : jSS) (x2 : Int32) (x4 : Int32) (y0 : Int32) (post : jSS → Prop) : Prop := wX0_beginPhase N a y0 x2 (fun a_35 => wX0_follow_117 N a_35 x2 x4 post)
set_option maxHeartbeats 4000000 in
set_option maxRecDepth 100000 in
theorem kX0_follow_112 {p : Program} {l : Launch} {e : Env} {s : State} {m : MethodId} {args : Array Value} {below : List Frame} {meth : Method} {c : Code} {D : va_G} {cI cJ cZ cO : ClassId} {f : Nat → Nat} {Y : va_W} {A : Nat → Prop} {N : Nat} {post : jSS → Prop} (C : jC p s m args meth c cX0_follow 5 yX0_follow.cls wsX0_follow D (jT cI cJ cZ cO) A) (hr : meth.sig.returnType = none) (hG : gz A s) (a : jSS) (x2 : Int32) (x4 : Int32) (y0 : Int32) (hw : wX0_follow_112 N a x2 x4 y0 post) : jJ p l e rmX0_follow s m args below meth c 0 0 (MQ below (va_Qv post (jE D (jT cI cJ cZ cO) A (acells f cI cO Y)) A) args s 0 0 A) D A 5 (acells f cI cO Y a) [(0, .ref (f 3)), (1, .ref (f 0)), (2, .int x2), (4, .int x4)] 112 [.int y0, .ref (f 3)] := by
  unfold wX0_follow_112 at hw
  obtain ⟨hNw, tg, hZ, hTt⟩ := id hG
  refine j_aload_n (pc := 112) C dX0_follow_112 1 rfl rfl ?_
  refine j_iload_n (pc := 113) C dX0_follow_113 2 rfl rfl ?_
  refine j_callv0 (pc := 114) C gz_ok hG 3 (mX0_beginPhase hw) gX0_follow_X0_beginPhase rfl rfl rfl (by decide +kernel) ⟨Nat.le_of_ble_eq_true rfl, Nat.le_of_ble_eq_true rfl⟩ 3 (c_at3 f cI cO Y a) rfl rfl rfl (Nat.le_of_ble_eq_true rfl) dX0_follow_114 ⟨Nat.le_refl _, Nat.le_refl _⟩ (fun a_35 hw => ?_)
  exact kX0_follow_117 C hr hG _ _ _ hw
def wX0_follow_71 (N : Nat) (a : jSS) (x2 : Int32) (x4 : Int32) (post : jSS → Prop) : Prop := ((¬ (a.1 3 0) = 2) → (wX0_follow_117 N a x2 x4 post)) ∧ (((a.1 3 0) = 2) → (wX0_phaseIsOver N a x2 (fun r_37 a_38 => ((r_37 = 0) → (wX0_follow_117 N a_38 x2 x4 post)) ∧ ((¬ r_37 = 0) → (((8 ≤ ((a_38.1 3 1) + 1)) → (wX0_follow_112 N a_38 x2 x4 0 post)) ∧ ((¬ 8 ≤ ((a_38.1 3 1) + 1)) → (wX0_follow_112 N a_38 x2 x4 ((a_38.1 3 1) + 1) post)))))))
set_option maxHeartbeats 4000000 in
set_option maxRecDepth 100000 in
theorem kX0_follow_71 {p : Program} {l : Launch} {e : Env} {s : State} {m : MethodId} {args : Array Value} {below : List Frame} {meth : Method} {c : Code} {D : va_G} {cI cJ cZ cO : ClassId} {f : Nat → Nat} {Y : va_W} {A : Nat → Prop} {N : Nat} {post : jSS → Prop} (C : jC p s m args meth c cX0_follow 5 yX0_follow.cls wsX0_follow D (jT cI cJ cZ cO) A) (hr : meth.sig.returnType = none) (hG : gz A s) (a : jSS) (x2 : Int32) (x4 : Int32) (hw : wX0_follow_71 N a x2 x4 post) : jJ p l e rmX0_follow s m args below meth c 0 0 (MQ below (va_Qv post (jE D (jT cI cJ cZ cO) A (acells f cI cO Y)) A) args s 0 0 A) D A 5 (acells f cI cO Y a) [(0, .ref (f 3)), (1, .ref (f 0)), (2, .int x2), (4, .int x4)] 71 [] := by
  unfold wX0_follow_71 at hw
  obtain ⟨hNw, tg, hZ, hTt⟩ := id hG
  refine j_aload_n (pc := 71) C dX0_follow_71 0 rfl rfl ?_
  refine j_get (ref := RX0) (pc := 72) C hiX0_follow_X0 3 (c_at3 f cI cO Y a) rfl 0 (by decide) lkX0_follow_9 (c_fl3_0 f a) dX0_follow_72 ?_
  refine j_iconst (pc := 75) (v := 2) C dX0_follow_75 (by decide) ?_
  refine j_icmp_ne (pc := 76) C 117 dX0_follow_76 (by decide) (fun z_36 => ?_) (fun z_36 => ?_)
  · have hw := hw.1 z_36
    exact kX0_follow_117 C hr hG _ _ _ hw
  · have hw := hw.2 z_36
    refine j_aload_n (pc := 79) C dX0_follow_79 0 rfl rfl ?_
    refine j_aload_n (pc := 80) C dX0_follow_80 1 rfl rfl ?_
    refine j_iload_n (pc := 81) C dX0_follow_81 2 rfl rfl ?_
    refine j_calli0 (pc := 82) C gz_ok hG 2 (mX0_phaseIsOver hw) gX0_follow_X0_phaseIsOver rfl rfl rfl (by decide +kernel) ⟨Nat.le_of_ble_eq_true rfl, Nat.le_of_ble_eq_true rfl⟩ 3 (c_at3 f cI cO Y a) rfl rfl rfl (Nat.le_of_ble_eq_true rfl) dX0_follow_82 ⟨Nat.le_refl _, Nat.le_refl _⟩ (fun r_37 a_38 hw => ?_)
    refine j_if_eq (pc := 85) C 117 dX0_follow_85 (by decide) (fun z_39 => ?_) (fun z_39 => ?_)
    · have hw := hw.1 z_39
      exact kX0_follow_117 C hr hG _ _ _ hw
    · have hw := hw.2 z_39
      refine j_aload_n (pc := 88) C dX0_follow_88 0 rfl rfl ?_
      refine j_aload_n (pc := 89) C dX0_follow_89 0 rfl rfl ?_
      refine j_get (ref := RX0) (pc := 90) C hiX0_follow_X0 3 (c_at3 f cI cO Y a_38) rfl 1 (by decide) lkX0_follow_25 (c_fl3_1 f a_38) dX0_follow_90 ?_
      refine j_iconst (pc := 93) (v := 1) C dX0_follow_93 (by decide) ?_
      refine j_iadd (pc := 94) C dX0_follow_94 ?_
      refine j_gets (pc := 95) C hZ hNw rfl dX0_follow_95 ?_
      refine j_tlen (pc := 98) C hTt dX0_follow_98 ?_
      refine j_icmp_ge (pc := 99) C 111 dX0_follow_99 (by decide) (fun z_40 => ?_) (fun z_40 => ?_)
      · have hw := hw.1 z_40
        refine j_iconst (pc := 111) (v := 0) C dX0_follow_111 (by decide) ?_
        exact kX0_follow_112 C hr hG _ _ _ _ hw
      · have hw := hw.2 z_40
        refine j_aload_n (pc := 102) C dX0_follow_102 0 rfl rfl ?_
        refine j_get (ref := RX0) (pc := 103) C hiX0_follow_X0 3 (c_at3 f cI cO Y a_38) rfl 1 (by decide) lkX0_follow_25 (c_fl3_1 f a_38) dX0_follow_103 ?_
        refine j_iconst (pc := 106) (v := 1) C dX0_follow_106 (by decide) ?_
        refine j_iadd (pc := 107) C dX0_follow_107 ?_
        refine j_goto (pc := 108) C 112 dX0_follow_108 (by decide) ?_
        exact kX0_follow_112 C hr hG _ _ _ _ hw
def wX0_follow_40 (N : Nat) (a : jSS) (x2 : Int32) (x4 : Int32) (post : jSS → Prop) : Prop := ((¬ (a.1 3 0) = 1) → (wX0_follow_71 N a x2 x4 post)) ∧ (((a.1 3 0) = 1) → (wX5_product N a (fun r_42 a_43 => ((0 < (lg_cmp ((a.1 1 1).toInt64) r_42)) → (wX0_follow_71 N a_43 x2 x4 post)) ∧ ((¬ 0 < (lg_cmp ((a.1 1 1).toInt64) r_42)) → (wX0_enter N a_43 2 x2 (fun a_46 => wX0_follow_71 N a_46 x2 x4 post))))))
set_option maxHeartbeats 4000000 in
set_option maxRecDepth 100000 in
theorem kX0_follow_40 {p : Program} {l : Launch} {e : Env} {s : State} {m : MethodId} {args : Array Value} {below : List Frame} {meth : Method} {c : Code} {D : va_G} {cI cJ cZ cO : ClassId} {f : Nat → Nat} {Y : va_W} {A : Nat → Prop} {N : Nat} {post : jSS → Prop} (C : jC p s m args meth c cX0_follow 5 yX0_follow.cls wsX0_follow D (jT cI cJ cZ cO) A) (hr : meth.sig.returnType = none) (hG : gz A s) (a : jSS) (x2 : Int32) (x4 : Int32) (hw : wX0_follow_40 N a x2 x4 post) : jJ p l e rmX0_follow s m args below meth c 0 0 (MQ below (va_Qv post (jE D (jT cI cJ cZ cO) A (acells f cI cO Y)) A) args s 0 0 A) D A 5 (acells f cI cO Y a) [(0, .ref (f 3)), (1, .ref (f 0)), (2, .int x2), (4, .int x4)] 40 [] := by
  unfold wX0_follow_40 at hw
  obtain ⟨hNw, tg, hZ, hTt⟩ := id hG
  refine j_aload_n (pc := 40) C dX0_follow_40 0 rfl rfl ?_
  refine j_get (ref := RX0) (pc := 41) C hiX0_follow_X0 3 (c_at3 f cI cO Y a) rfl 0 (by decide) lkX0_follow_9 (c_fl3_0 f a) dX0_follow_41 ?_
  refine j_iconst (pc := 44) (v := 1) C dX0_follow_44 (by decide) ?_
  refine j_icmp_ne (pc := 45) C 71 dX0_follow_45 (by decide) (fun z_41 => ?_) (fun z_41 => ?_)
  · have hw := hw.1 z_41
    exact kX0_follow_71 C hr hG _ _ _ hw
  · have hw := hw.2 z_41
    refine j_aload_n (pc := 48) C dX0_follow_48 1 rfl rfl ?_
    refine j_get (ref := RX5) (pc := 49) C hiX0_follow_X5 0 (c_at0 f cI cO Y a) rfl 0 (by decide) lkX0_follow_48 (c_fl0_0 f a) dX0_follow_49 ?_
    refine j_get (ref := RX3) (pc := 52) C hiX0_follow_X3 1 (c_at1 f cI cO Y a) rfl 1 (by decide) lkX0_follow_52 (c_fl1_1 f a) dX0_follow_52 ?_
    refine j_i2l (pc := 55) C dX0_follow_55 ?_
    refine j_aload_n (pc := 56) C dX0_follow_56 1 rfl rfl ?_
    refine j_calll0 (pc := 57) C gz_ok hG 0 (mX5_product hw) gX0_follow_X5_product rfl rfl rfl (by decide +kernel) ⟨Nat.le_of_ble_eq_true rfl, Nat.le_of_ble_eq_true rfl⟩ 0 (c_at0 f cI cO Y a) rfl rfl rfl (Nat.le_of_ble_eq_true rfl) dX0_follow_57 ⟨Nat.le_refl _, Nat.le_refl _⟩ (fun r_42 a_43 hw => ?_)
    refine j_lcmp (pc := 60) C dX0_follow_60 ?_
    refine j_if_gt (pc := 61) C 71 dX0_follow_61 (by decide) (fun z_44 => ?_) (fun z_44 => ?_)
    · have hw := hw.1 z_44
      exact kX0_follow_71 C hr hG _ _ _ hw
    · have hw := hw.2 z_44
      refine j_aload_n (pc := 64) C dX0_follow_64 0 rfl rfl ?_
      refine j_iconst (pc := 65) (v := 2) C dX0_follow_65 (by decide) ?_
      refine j_aload_n (pc := 66) C dX0_follow_66 1 rfl rfl ?_
      refine j_iload_n (pc := 67) C dX0_follow_67 2 rfl rfl ?_
      refine j_callv0 (pc := 68) C gz_ok hG 3 (mX0_enter hw) gX0_follow_X0_enter rfl rfl rfl (by decide +kernel) ⟨Nat.le_of_ble_eq_true rfl, Nat.le_of_ble_eq_true rfl⟩ 3 (c_at3 f cI cO Y a_43) rfl rfl rfl (Nat.le_of_ble_eq_true rfl) dX0_follow_68 ⟨Nat.le_refl _, Nat.le_refl _⟩ (fun a_46 hw => ?_)
      exact kX0_follow_71 C hr hG _ _ _ hw
def wX0_follow_19 (N : Nat) (a : jSS) (x2 : Int32) (x4 : Int32) (post : jSS → Prop) : Prop := ((¬ (a.1 3 0) = 0) → (wX0_follow_40 N a x2 x4 post)) ∧ (((a.1 3 0) = 0) → ((((a.1 3 5) = 0) → (wX0_follow_40 N a x2 x4 post)) ∧ ((¬ (a.1 3 5) = 0) → (wX0_enter N a 1 x2 (fun a_50 => wX0_follow_40 N a_50 x2 x4 post)))))
set_option maxHeartbeats 4000000 in
set_option maxRecDepth 100000 in
theorem kX0_follow_19 {p : Program} {l : Launch} {e : Env} {s : State} {m : MethodId} {args : Array Value} {below : List Frame} {meth : Method} {c : Code} {D : va_G} {cI cJ cZ cO : ClassId} {f : Nat → Nat} {Y : va_W} {A : Nat → Prop} {N : Nat} {post : jSS → Prop} (C : jC p s m args meth c cX0_follow 5 yX0_follow.cls wsX0_follow D (jT cI cJ cZ cO) A) (hr : meth.sig.returnType = none) (hG : gz A s) (a : jSS) (x2 : Int32) (x4 : Int32) (hw : wX0_follow_19 N a x2 x4 post) : jJ p l e rmX0_follow s m args below meth c 0 0 (MQ below (va_Qv post (jE D (jT cI cJ cZ cO) A (acells f cI cO Y)) A) args s 0 0 A) D A 5 (acells f cI cO Y a) [(0, .ref (f 3)), (1, .ref (f 0)), (2, .int x2), (4, .int x4)] 19 [] := by
  unfold wX0_follow_19 at hw
  obtain ⟨hNw, tg, hZ, hTt⟩ := id hG
  refine j_aload_n (pc := 19) C dX0_follow_19 0 rfl rfl ?_
  refine j_get (ref := RX0) (pc := 20) C hiX0_follow_X0 3 (c_at3 f cI cO Y a) rfl 0 (by decide) lkX0_follow_9 (c_fl3_0 f a) dX0_follow_20 ?_
  refine j_if_ne (pc := 23) C 40 dX0_follow_23 (by decide) (fun z_47 => ?_) (fun z_47 => ?_)
  · have hw := hw.1 z_47
    exact kX0_follow_40 C hr hG _ _ _ hw
  · have hw := hw.2 z_47
    refine j_aload_n (pc := 26) C dX0_follow_26 0 rfl rfl ?_
    refine j_get (ref := RX0) (pc := 27) C hiX0_follow_X0 3 (c_at3 f cI cO Y a) rfl 5 (by decide) lkX0_follow_40 (c_fl3_5 f a) dX0_follow_27 ?_
    refine j_if_eq (pc := 30) C 40 dX0_follow_30 (by decide) (fun z_48 => ?_) (fun z_48 => ?_)
    · have hw := hw.1 z_48
      exact kX0_follow_40 C hr hG _ _ _ hw
    · have hw := hw.2 z_48
      refine j_aload_n (pc := 33) C dX0_follow_33 0 rfl rfl ?_
      refine j_iconst (pc := 34) (v := 1) C dX0_follow_34 (by decide) ?_
      refine j_aload_n (pc := 35) C dX0_follow_35 1 rfl rfl ?_
      refine j_iload_n (pc := 36) C dX0_follow_36 2 rfl rfl ?_
      refine j_callv0 (pc := 37) C gz_ok hG 3 (mX0_enter hw) gX0_follow_X0_enter rfl rfl rfl (by decide +kernel) ⟨Nat.le_of_ble_eq_true rfl, Nat.le_of_ble_eq_true rfl⟩ 3 (c_at3 f cI cO Y a) rfl rfl rfl (Nat.le_of_ble_eq_true rfl) dX0_follow_37 ⟨Nat.le_refl _, Nat.le_refl _⟩ (fun a_50 hw => ?_)
      exact kX0_follow_40 C hr hG _ _ _ hw
def wX0_follow (N : Nat) (a : jSS) (x2 : Int32) (x3 : Int32) (x4 : Int32) (post : jSS → Prop) : Prop := ((¬ (a.1 3 0) = 0) → (wX0_follow_19 N a x2 x4 post)) ∧ (((a.1 3 0) = 0) → (((x3 = 0) → (wX0_follow_19 N a x2 x4 post)) ∧ ((¬ x3 = 0) → (wX0_watchTop N a (a.1 0 12) (fun a_54 => wX0_follow_19 N a_54 x2 x4 post)))))
set_option maxHeartbeats 4000000 in
set_option maxRecDepth 100000 in
theorem mX0_follow {l : Launch} {D : va_G} {cI cJ cZ cO : ClassId} {f : Nat → Nat} {Y : va_W} {N : Nat} {a : jSS} {x2 : Int32} {x3 : Int32} {x4 : Int32} {post : jSS → Prop} (hw : wX0_follow N a x2 x3 x4 post) : jMv l D (jT cI cJ cZ cO) gz yX0_follow wsX0_follow rmX0_follow [.ref (f 3), .ref (f 0), .int x2, .int x3, .int x4] (acells f cI cO Y a) post (acells f cI cO Y) 0 0 := by
  refine j_ofv (cc := cX0_follow) (maxL := 5) (ret := none) (by decide) rfl (Nat.le_of_ble_eq_true rfl) ?_
  intro p e s m args below meth c A C hr hnm hG
  obtain ⟨hNw, tg, hZ, hTt⟩ := id hG
  refine j_sub (lv' := [(0, .ref (f 3)), (1, .ref (f 0)), (2, .int x2), (3, .int x3), (4, .int x4)]) [0, 1, 2, 3, 4] rfl ?_
  unfold wX0_follow at hw
  refine j_aload_n (pc := 0) C dX0_follow_0 0 rfl rfl ?_
  refine j_get (ref := RX0) (pc := 1) C hiX0_follow_X0 3 (c_at3 f cI cO Y a) rfl 0 (by decide) lkX0_follow_9 (c_fl3_0 f a) dX0_follow_1 ?_
  refine j_if_ne (pc := 4) C 19 dX0_follow_4 (by decide) (fun z_51 => ?_) (fun z_51 => ?_)
  · have hw := hw.1 z_51
    refine j_sub [0, 1, 2, 4] rfl ?_
    exact kX0_follow_19 C hr hG _ _ _ hw
  · have hw := hw.2 z_51
    refine j_iload_n (pc := 7) C dX0_follow_7 3 rfl rfl ?_
    refine j_if_eq (pc := 8) C 19 dX0_follow_8 (by decide) (fun z_52 => ?_) (fun z_52 => ?_)
    · have hw := hw.1 z_52
      refine j_sub [0, 1, 2, 4] rfl ?_
      exact kX0_follow_19 C hr hG _ _ _ hw
    · have hw := hw.2 z_52
      refine j_aload_n (pc := 11) C dX0_follow_11 0 rfl rfl ?_
      refine j_aload_n (pc := 12) C dX0_follow_12 1 rfl rfl ?_
      refine j_get (ref := RX5) (pc := 13) C hiX0_follow_X5 0 (c_at0 f cI cO Y a) rfl 12 (by decide) lkX0_follow_31 (c_fl0_12 f a) dX0_follow_13 ?_
      refine j_callv0 (pc := 16) C gz_ok hG 1 (mX0_watchTop hw) gX0_follow_X0_watchTop rfl rfl rfl (by decide +kernel) ⟨Nat.le_of_ble_eq_true rfl, Nat.le_of_ble_eq_true rfl⟩ 3 (c_at3 f cI cO Y a) rfl rfl rfl (Nat.le_of_ble_eq_true rfl) dX0_follow_16 ⟨Nat.le_refl _, Nat.le_refl _⟩ (fun a_54 hw => ?_)
      refine j_sub [0, 1, 2, 4] rfl ?_
      exact kX0_follow_19 C hr hG _ _ _ hw

def rmX0_ticksToEnd : Room := { frames := 1, cells := 0, slots := 0, locals := 21 }
theorem hiX0_ticksToEnd_X0 : ∀ w ∈ u_ws RX0 TX0 12, w ∈ wsX0_ticksToEnd := by decide +kernel
theorem lkX0_ticksToEnd_9 : Cond.fieldLink yX0_ticksToEnd.cls 9 (TX0 0).1 (TX0 0).2.1 (TX0 0).2.2.1 ∈ wsX0_ticksToEnd := by decide +kernel
theorem lkX0_ticksToEnd_15 : Cond.fieldLink yX0_ticksToEnd.cls 15 (TX0 4).1 (TX0 4).2.1 (TX0 4).2.2.1 ∈ wsX0_ticksToEnd := by decide +kernel
def wX0_ticksToEnd (N : Nat) (a : jSS) (x1 : Int32) (post : Int32 → jSS → Prop) : Prop := ((¬ (a.1 3 0) = 3) → (post ((-9)) a)) ∧ (((a.1 3 0) = 3) → ((((a.1 3 4) = ((-1))) → (post ((-9)) a)) ∧ ((¬ (a.1 3 4) = ((-1))) → (∀ m_6 : Int32, m_6 = jmax 0 ((a.1 3 4) - x1) → post m_6 a))))
set_option maxHeartbeats 4000000 in
set_option maxRecDepth 100000 in
theorem mX0_ticksToEnd {l : Launch} {D : va_G} {cI cJ cZ cO : ClassId} {f : Nat → Nat} {Y : va_W} {N : Nat} {a : jSS} {x1 : Int32} {post : Int32 → jSS → Prop} (hw : wX0_ticksToEnd N a x1 post) : jMi l D (jT cI cJ cZ cO) gz yX0_ticksToEnd wsX0_ticksToEnd rmX0_ticksToEnd [.ref (f 3), .int x1] (acells f cI cO Y a) post (acells f cI cO Y) 0 0 := by
  refine j_ofi (cc := cX0_ticksToEnd) (maxL := 2) (ret := (some .int)) (by decide) rfl (Nat.le_of_ble_eq_true rfl) ?_
  intro p e s m args below meth c A C hr hnm hG
  refine j_sub (lv' := [(0, .ref (f 3)), (1, .int x1)]) [0, 1] rfl ?_
  unfold wX0_ticksToEnd at hw
  refine j_aload_n (pc := 0) C dX0_ticksToEnd_0 0 rfl rfl ?_
  refine j_get (ref := RX0) (pc := 1) C hiX0_ticksToEnd_X0 3 (c_at3 f cI cO Y a) rfl 0 (by decide) lkX0_ticksToEnd_9 (c_fl3_0 f a) dX0_ticksToEnd_1 ?_
  refine j_iconst (pc := 4) (v := 3) C dX0_ticksToEnd_4 (by decide) ?_
  refine j_icmp_ne (pc := 5) C 29 dX0_ticksToEnd_5 (by decide) (fun z_4 => ?_) (fun z_4 => ?_)
  · have hw := hw.1 z_4
    refine j_bipush (pc := 29) (v := (-9)) C dX0_ticksToEnd_29 (by decide) ?_
    exact j_iret (pc := 31) C hr a rfl hw dX0_ticksToEnd_31
  · have hw := hw.2 z_4
    refine j_aload_n (pc := 8) C dX0_ticksToEnd_8 0 rfl rfl ?_
    refine j_get (ref := RX0) (pc := 9) C hiX0_ticksToEnd_X0 3 (c_at3 f cI cO Y a) rfl 4 (by decide) lkX0_ticksToEnd_15 (c_fl3_4 f a) dX0_ticksToEnd_9 ?_
    refine j_iconst (pc := 12) (v := (-1)) C dX0_ticksToEnd_12 (by decide) ?_
    refine j_icmp_eq (pc := 13) C 29 dX0_ticksToEnd_13 (by decide) (fun z_5 => ?_) (fun z_5 => ?_)
    · have hw := hw.1 z_5
      refine j_bipush (pc := 29) (v := (-9)) C dX0_ticksToEnd_29 (by decide) ?_
      exact j_iret (pc := 31) C hr a rfl hw dX0_ticksToEnd_31
    · have hw := hw.2 z_5
      refine j_iconst (pc := 16) (v := 0) C dX0_ticksToEnd_16 (by decide) ?_
      refine j_aload_n (pc := 17) C dX0_ticksToEnd_17 0 rfl rfl ?_
      refine j_get (ref := RX0) (pc := 18) C hiX0_ticksToEnd_X0 3 (c_at3 f cI cO Y a) rfl 4 (by decide) lkX0_ticksToEnd_15 (c_fl3_4 f a) dX0_ticksToEnd_18 ?_
      refine j_iload_n (pc := 21) C dX0_ticksToEnd_21 1 rfl rfl ?_
      refine j_isub (pc := 22) C dX0_ticksToEnd_22 ?_
      refine j_mmax (pc := 23) C ⟨by decide +kernel, by decide +kernel, by decide +kernel, by decide +kernel⟩ ⟨Nat.le_of_ble_eq_true rfl, Nat.le_of_ble_eq_true rfl⟩ ⟨Nat.le_refl _, Nat.le_refl _⟩ dX0_ticksToEnd_23 ?_
      refine j_topi (fun m_6 em_6 => ?_)
      have hw := hw m_6 em_6
      refine j_goto (pc := 26) C 31 dX0_ticksToEnd_26 (by decide) ?_
      exact j_iret (pc := 31) C hr a rfl hw dX0_ticksToEnd_31

def rmX5_window : Room := { frames := 1, cells := 0, slots := 0, locals := 23 }
theorem hiX5_window_X5 : ∀ w ∈ u_ws RX5 TX5 16, w ∈ wsX5_window := by decide +kernel
theorem hiX5_window_X0 : ∀ w ∈ u_ws RX0 TX0 12, w ∈ wsX5_window := by decide +kernel
theorem lkX5_window_28 : Cond.fieldLink yX5_window.cls 28 (TX5 2).1 (TX5 2).2.1 (TX5 2).2.2.1 ∈ wsX5_window := by decide +kernel
theorem lkX5_window_41 : Cond.fieldLink yX5_window.cls 41 (TX0 0).1 (TX0 0).2.1 (TX0 0).2.2.1 ∈ wsX5_window := by decide +kernel
theorem lkX5_window_36 : Cond.fieldLink yX5_window.cls 36 (TX5 12).1 (TX5 12).2.1 (TX5 12).2.2.1 ∈ wsX5_window := by decide +kernel
theorem lkX5_window_32 : Cond.fieldLink yX5_window.cls 32 (TX5 13).1 (TX5 13).2.1 (TX5 13).2.2.1 ∈ wsX5_window := by decide +kernel
def wX5_window_31 (N : Nat) (a : jSS)  (post : Int64 → jSS → Prop) : Prop := post 10 a
set_option maxHeartbeats 4000000 in
set_option maxRecDepth 100000 in
theorem kX5_window_31 {p : Program} {l : Launch} {e : Env} {s : State} {m : MethodId} {args : Array Value} {below : List Frame} {meth : Method} {c : Code} {D : va_G} {cI cJ cZ cO : ClassId} {f : Nat → Nat} {Y : va_W} {A : Nat → Prop} {N : Nat} {post : Int64 → jSS → Prop} (C : jC p s m args meth c cX5_window 3 yX5_window.cls wsX5_window D (jT cI cJ cZ cO) A) (hr : meth.sig.returnType = (some .long)) (hG : gz A s) (a : jSS)  (hw : wX5_window_31 N a post) : jJ p l e rmX5_window s m args below meth c 0 0 (MQ below (va_Ql post (jE D (jT cI cJ cZ cO) A (acells f cI cO Y)) A) args s 0 0 A) D A 3 (acells f cI cO Y a) [] 31 [] := by
  unfold wX5_window_31 at hw
  refine j_ldc2 (pc := 31) (v := 10) C dX5_window_31 (by decide +kernel) ?_
  exact j_lret (pc := 34) C hr a rfl hw dX5_window_34
def wX5_window_69 (N : Nat) (a : jSS) (y0 : Int64) (post : Int64 → jSS → Prop) : Prop := ∀ m_10 : Int64, m_10 = jmaxl 4 y0 → post m_10 a
set_option maxHeartbeats 4000000 in
set_option maxRecDepth 100000 in
theorem kX5_window_69 {p : Program} {l : Launch} {e : Env} {s : State} {m : MethodId} {args : Array Value} {below : List Frame} {meth : Method} {c : Code} {D : va_G} {cI cJ cZ cO : ClassId} {f : Nat → Nat} {Y : va_W} {A : Nat → Prop} {N : Nat} {post : Int64 → jSS → Prop} (C : jC p s m args meth c cX5_window 3 yX5_window.cls wsX5_window D (jT cI cJ cZ cO) A) (hr : meth.sig.returnType = (some .long)) (hG : gz A s) (a : jSS) (y0 : Int64) (hw : wX5_window_69 N a y0 post) : jJ p l e rmX5_window s m args below meth c 0 0 (MQ below (va_Ql post (jE D (jT cI cJ cZ cO) A (acells f cI cO Y)) A) args s 0 0 A) D A 3 (acells f cI cO Y a) [] 69 [.long y0] := by
  unfold wX5_window_69 at hw
  refine j_lstore_n (pc := 69) (lv' := [(1, .long y0)]) C [0] dX5_window_69 rfl (by decide) rfl ?_
  refine j_ldc2 (pc := 70) (v := 4) C dX5_window_70 (by decide +kernel) ?_
  refine j_lload_n (pc := 73) C dX5_window_73 0 rfl rfl ?_
  refine j_mmaxl (pc := 74) C ⟨by decide +kernel, by decide +kernel, by decide +kernel, by decide +kernel⟩ ⟨Nat.le_of_ble_eq_true rfl, Nat.le_of_ble_eq_true rfl⟩ ⟨Nat.le_refl _, Nat.le_refl _⟩ dX5_window_74 ?_
  refine j_topl (fun m_10 em_10 => ?_)
  have hw := hw m_10 em_10
  exact j_lret (pc := 77) C hr a rfl hw dX5_window_77
def wX5_window (N : Nat) (a : jSS)  (post : Int64 → jSS → Prop) : Prop := ((¬ (a.1 3 0) = 3) → ((((a.1 0 12) = 0) → (wX5_window_31 N a post)) ∧ ((¬ (a.1 0 12) = 0) → (((¬ (a.1 0 13) = ((-9))) → (((¬ (a.1 3 0) = 2) → (wX5_product N a (fun r_15 a_16 => wX5_window_69 N a_16 ((289 * r_15) / 100) post))) ∧ (((a.1 3 0) = 2) → (wX5_product N a (fun r_17 a_18 => wX5_window_69 N a_18 (2 * r_17) post))))) ∧ (((a.1 0 13) = ((-9))) → (wX5_window_31 N a post)))))) ∧ (((a.1 3 0) = 3) → (post 4 a))
set_option maxHeartbeats 4000000 in
set_option maxRecDepth 100000 in
theorem mX5_window {l : Launch} {D : va_G} {cI cJ cZ cO : ClassId} {f : Nat → Nat} {Y : va_W} {N : Nat} {a : jSS}  {post : Int64 → jSS → Prop} (hw : wX5_window N a post) : jMl l D (jT cI cJ cZ cO) gz yX5_window wsX5_window rmX5_window [.ref (f 0)] (acells f cI cO Y a) post (acells f cI cO Y) 0 0 := by
  refine j_ofl (cc := cX5_window) (maxL := 3) (ret := (some .long)) (by decide) rfl (Nat.le_of_ble_eq_true rfl) ?_
  intro p e s m args below meth c A C hr hnm hG
  refine j_sub (lv' := [(0, .ref (f 0))]) [0] rfl ?_
  unfold wX5_window at hw
  refine j_aload_n (pc := 0) C dX5_window_0 0 rfl rfl ?_
  refine j_get (ref := RX5) (pc := 1) C hiX5_window_X5 0 (c_at0 f cI cO Y a) rfl 2 (by decide) lkX5_window_28 (c_fl0_2 f a) dX5_window_1 ?_
  refine j_get (ref := RX0) (pc := 4) C hiX5_window_X0 3 (c_at3 f cI cO Y a) rfl 0 (by decide) lkX5_window_41 (c_fl3_0 f a) dX5_window_4 ?_
  refine j_iconst (pc := 7) (v := 3) C dX5_window_7 (by decide) ?_
  refine j_icmp_ne (pc := 8) C 15 dX5_window_8 (by decide) (fun z_11 => ?_) (fun z_11 => ?_)
  · have hw := hw.1 z_11
    refine j_aload_n (pc := 15) C dX5_window_15 0 rfl rfl ?_
    refine j_get (ref := RX5) (pc := 16) C hiX5_window_X5 0 (c_at0 f cI cO Y a) rfl 12 (by decide) lkX5_window_36 (c_fl0_12 f a) dX5_window_16 ?_
    refine j_if_eq (pc := 19) C 31 dX5_window_19 (by decide) (fun z_12 => ?_) (fun z_12 => ?_)
    · have hw := hw.1 z_12
      refine j_sub [] rfl ?_
      exact kX5_window_31 C hr hG _ hw
    · have hw := hw.2 z_12
      refine j_aload_n (pc := 22) C dX5_window_22 0 rfl rfl ?_
      refine j_get (ref := RX5) (pc := 23) C hiX5_window_X5 0 (c_at0 f cI cO Y a) rfl 13 (by decide) lkX5_window_32 (c_fl0_13 f a) dX5_window_23 ?_
      refine j_bipush (pc := 26) (v := (-9)) C dX5_window_26 (by decide) ?_
      refine j_icmp_ne (pc := 28) C 35 dX5_window_28 (by decide) (fun z_13 => ?_) (fun z_13 => ?_)
      · have hw := hw.1 z_13
        refine j_aload_n (pc := 35) C dX5_window_35 0 rfl rfl ?_
        refine j_get (ref := RX5) (pc := 36) C hiX5_window_X5 0 (c_at0 f cI cO Y a) rfl 2 (by decide) lkX5_window_28 (c_fl0_2 f a) dX5_window_36 ?_
        refine j_get (ref := RX0) (pc := 39) C hiX5_window_X0 3 (c_at3 f cI cO Y a) rfl 0 (by decide) lkX5_window_41 (c_fl3_0 f a) dX5_window_39 ?_
        refine j_iconst (pc := 42) (v := 2) C dX5_window_42 (by decide) ?_
        refine j_icmp_ne (pc := 43) C 57 dX5_window_43 (by decide) (fun z_14 => ?_) (fun z_14 => ?_)
        · have hw := hw.1 z_14
          refine j_ldc2 (pc := 57) (v := 289) C dX5_window_57 (by decide +kernel) ?_
          refine j_aload_n (pc := 60) C dX5_window_60 0 rfl rfl ?_
          refine j_calll0 (pc := 61) C gz_ok hG 0 (mX5_product hw) gX5_window_X5_product rfl rfl rfl (by decide +kernel) ⟨Nat.le_of_ble_eq_true rfl, Nat.le_of_ble_eq_true rfl⟩ 0 (c_at0 f cI cO Y a) rfl rfl rfl (Nat.le_of_ble_eq_true rfl) dX5_window_61 ⟨Nat.le_refl _, Nat.le_refl _⟩ (fun r_15 a_16 hw => ?_)
          refine j_lmul (pc := 64) C dX5_window_64 ?_
          refine j_ldc2 (pc := 65) (v := 100) C dX5_window_65 (by decide +kernel) ?_
          refine j_ldiv (pc := 68) C dX5_window_68 (by decide) ?_
          refine j_sub [] rfl ?_
          exact kX5_window_69 C hr hG _ _ hw
        · have hw := hw.2 z_14
          refine j_ldc2 (pc := 46) (v := 2) C dX5_window_46 (by decide +kernel) ?_
          refine j_aload_n (pc := 49) C dX5_window_49 0 rfl rfl ?_
          refine j_calll0 (pc := 50) C gz_ok hG 0 (mX5_product hw) gX5_window_X5_product rfl rfl rfl (by decide +kernel) ⟨Nat.le_of_ble_eq_true rfl, Nat.le_of_ble_eq_true rfl⟩ 0 (c_at0 f cI cO Y a) rfl rfl rfl (Nat.le_of_ble_eq_true rfl) dX5_window_50 ⟨Nat.le_refl _, Nat.le_refl _⟩ (fun r_17 a_18 hw => ?_)
          refine j_lmul (pc := 53) C dX5_window_53 ?_
          refine j_goto (pc := 54) C 69 dX5_window_54 (by decide) ?_
          refine j_sub [] rfl ?_
          exact kX5_window_69 C hr hG _ _ hw
      · have hw := hw.2 z_13
        refine j_sub [] rfl ?_
        exact kX5_window_31 C hr hG _ hw
  · have hw := hw.2 z_11
    refine j_ldc2 (pc := 11) (v := 4) C dX5_window_11 (by decide +kernel) ?_
    exact j_lret (pc := 14) C hr a rfl hw dX5_window_14

def rmX5_isFree : Room := { frames := 0, cells := 0, slots := 0, locals := 0 }
theorem hiX5_isFree_X5 : ∀ w ∈ u_ws RX5 TX5 16, w ∈ wsX5_isFree := by decide +kernel
theorem hiX5_isFree_X3 : ∀ w ∈ u_ws RX3 TX3 2, w ∈ wsX5_isFree := by decide +kernel
theorem lkX5_isFree_12 : Cond.fieldLink yX5_isFree.cls 12 (TX5 0).1 (TX5 0).2.1 (TX5 0).2.2.1 ∈ wsX5_isFree := by decide +kernel
theorem lkX5_isFree_81 : Cond.fieldLink yX5_isFree.cls 81 (TX3 1).1 (TX3 1).2.1 (TX3 1).2.2.1 ∈ wsX5_isFree := by decide +kernel
theorem lkX5_isFree_90 : Cond.fieldLink yX5_isFree.cls 90 (TX5 15).1 (TX5 15).2.1 (TX5 15).2.2.1 ∈ wsX5_isFree := by decide +kernel
def wX5_isFree (N : Nat) (a : jSS) (x1 : Int64) (x3 : Int32) (post : Int32 → jSS → Prop) : Prop := ((0 ≤ (lg_cmp ((a.1 1 1).toInt64) x1)) → (post 0 a)) ∧ ((¬ 0 ≤ (lg_cmp ((a.1 1 1).toInt64) x1)) → (((0 < (lg_cmp a.2.1 (1000 * x3.toInt64))) → (post 0 a)) ∧ ((¬ 0 < (lg_cmp a.2.1 (1000 * x3.toInt64))) → (post 1 a))))
set_option maxHeartbeats 4000000 in
set_option maxRecDepth 100000 in
theorem mX5_isFree {l : Launch} {D : va_G} {cI cJ cZ cO : ClassId} {f : Nat → Nat} {Y : va_W} {N : Nat} {a : jSS} {x1 : Int64} {x3 : Int32} {post : Int32 → jSS → Prop} (hw : wX5_isFree N a x1 x3 post) : jMi l D (jT cI cJ cZ cO) gz yX5_isFree wsX5_isFree rmX5_isFree [.ref (f 0), .long x1, .int x3] (acells f cI cO Y a) post (acells f cI cO Y) 0 0 := by
  refine j_ofi (cc := cX5_isFree) (maxL := 4) (ret := (some .boolean)) (by decide) rfl (Nat.le_of_ble_eq_true rfl) ?_
  intro p e s m args below meth c A C hr hnm hG
  refine j_sub (lv' := [(0, .ref (f 0)), (1, .long x1), (3, .int x3)]) [0, 1, 2] rfl ?_
  unfold wX5_isFree at hw
  refine j_aload_n (pc := 0) C dX5_isFree_0 0 rfl rfl ?_
  refine j_get (ref := RX5) (pc := 1) C hiX5_isFree_X5 0 (c_at0 f cI cO Y a) rfl 0 (by decide) lkX5_isFree_12 (c_fl0_0 f a) dX5_isFree_1 ?_
  refine j_get (ref := RX3) (pc := 4) C hiX5_isFree_X3 1 (c_at1 f cI cO Y a) rfl 1 (by decide) lkX5_isFree_81 (c_fl1_1 f a) dX5_isFree_4 ?_
  refine j_i2l (pc := 7) C dX5_isFree_7 ?_
  refine j_lload_n (pc := 8) C dX5_isFree_8 1 rfl rfl ?_
  refine j_lcmp (pc := 9) C dX5_isFree_9 ?_
  refine j_if_ge (pc := 10) C 31 dX5_isFree_10 (by decide) (fun z_3 => ?_) (fun z_3 => ?_)
  · have hw := hw.1 z_3
    refine j_iconst (pc := 31) (v := 0) C dX5_isFree_31 (by decide) ?_
    exact j_zret (pc := 32) C hr (by decide) a rfl hw dX5_isFree_32
  · have hw := hw.2 z_3
    refine j_aload_n (pc := 13) C dX5_isFree_13 0 rfl rfl ?_
    refine j_get (ref := RX5) (pc := 14) C hiX5_isFree_X5 0 (c_at0 f cI cO Y a) rfl 15 (by decide) lkX5_isFree_90 (c_fl0_15 f a) dX5_isFree_14 ?_
    refine j_ldc2 (pc := 17) (v := 1000) C dX5_isFree_17 (by decide +kernel) ?_
    refine j_iload_n (pc := 20) C dX5_isFree_20 2 rfl rfl ?_
    refine j_i2l (pc := 21) C dX5_isFree_21 ?_
    refine j_lmul (pc := 22) C dX5_isFree_22 ?_
    refine j_lcmp (pc := 23) C dX5_isFree_23 ?_
    refine j_if_gt (pc := 24) C 31 dX5_isFree_24 (by decide) (fun z_4 => ?_) (fun z_4 => ?_)
    · have hw := hw.1 z_4
      refine j_iconst (pc := 31) (v := 0) C dX5_isFree_31 (by decide) ?_
      exact j_zret (pc := 32) C hr (by decide) a rfl hw dX5_isFree_32
    · have hw := hw.2 z_4
      refine j_iconst (pc := 27) (v := 1) C dX5_isFree_27 (by decide) ?_
      refine j_goto (pc := 28) C 32 dX5_isFree_28 (by decide) ?_
      exact j_zret (pc := 32) C hr (by decide) a rfl hw dX5_isFree_32

def rmX5_putOffNext : Room := { frames := 1, cells := 0, slots := 0, locals := 23 }
theorem hiX5_putOffNext_X5 : ∀ w ∈ u_ws RX5 TX5 16, w ∈ wsX5_putOffNext := by decide +kernel
theorem lkX5_putOffNext_36 : Cond.fieldLink yX5_putOffNext.cls 36 (TX5 12).1 (TX5 12).2.1 (TX5 12).2.2.1 ∈ wsX5_putOffNext := by decide +kernel
theorem lkX5_putOffNext_28 : Cond.fieldLink yX5_putOffNext.cls 28 (TX5 2).1 (TX5 2).2.1 (TX5 2).2.2.1 ∈ wsX5_putOffNext := by decide +kernel
theorem lkX5_putOffNext_90 : Cond.fieldLink yX5_putOffNext.cls 90 (TX5 15).1 (TX5 15).2.1 (TX5 15).2.2.1 ∈ wsX5_putOffNext := by decide +kernel
def wX5_putOffNext (N : Nat) (a : jSS) (x1 : Int32) (post : jSS → Prop) : Prop := wX0_gain N a (fun r_9 a_10 => ∀ x2_11 : Int64, x2_11 = ((a.1 0 12).toInt64) * r_9.toInt64 → (((lg_cmp x2_11 0) ≤ 0) → (post a_10)) ∧ ((¬ (lg_cmp x2_11 0) ≤ 0) → (∀ m_13 : Int64, m_13 = jmaxl a_10.2.1 (1000 * x1.toInt64) → (¬ x2_11 = 0) ∧ ∀ v_15 : Int64, v_15 = m_13 + (100000000 / x2_11) → ∀ a_16 : jSS, a_16 = aN a_10 v_15 → post a_16)))
set_option maxHeartbeats 4000000 in
set_option maxRecDepth 100000 in
theorem mX5_putOffNext {l : Launch} {D : va_G} {cI cJ cZ cO : ClassId} {f : Nat → Nat} {Y : va_W} {N : Nat} {a : jSS} {x1 : Int32} {post : jSS → Prop} (hw : wX5_putOffNext N a x1 post) : jMv l D (jT cI cJ cZ cO) gz yX5_putOffNext wsX5_putOffNext rmX5_putOffNext [.ref (f 0), .int x1] (acells f cI cO Y a) post (acells f cI cO Y) 0 0 := by
  refine j_ofv (cc := cX5_putOffNext) (maxL := 4) (ret := none) (by decide) rfl (Nat.le_of_ble_eq_true rfl) ?_
  intro p e s m args below meth c A C hr hnm hG
  refine j_sub (lv' := [(0, .ref (f 0)), (1, .int x1)]) [0, 1] rfl ?_
  unfold wX5_putOffNext at hw
  refine j_aload_n (pc := 0) C dX5_putOffNext_0 0 rfl rfl ?_
  refine j_get (ref := RX5) (pc := 1) C hiX5_putOffNext_X5 0 (c_at0 f cI cO Y a) rfl 12 (by decide) lkX5_putOffNext_36 (c_fl0_12 f a) dX5_putOffNext_1 ?_
  refine j_i2l (pc := 4) C dX5_putOffNext_4 ?_
  refine j_aload_n (pc := 5) C dX5_putOffNext_5 0 rfl rfl ?_
  refine j_get (ref := RX5) (pc := 6) C hiX5_putOffNext_X5 0 (c_at0 f cI cO Y a) rfl 2 (by decide) lkX5_putOffNext_28 (c_fl0_2 f a) dX5_putOffNext_6 ?_
  refine j_calli0 (pc := 9) C gz_ok hG 0 (mX0_gain hw) gX5_putOffNext_X0_gain rfl rfl rfl (by decide +kernel) ⟨Nat.le_of_ble_eq_true rfl, Nat.le_of_ble_eq_true rfl⟩ 3 (c_at3 f cI cO Y a) rfl rfl rfl (Nat.le_of_ble_eq_true rfl) dX5_putOffNext_9 ⟨Nat.le_refl _, Nat.le_refl _⟩ (fun r_9 a_10 hw => ?_)
  refine j_i2l (pc := 12) C dX5_putOffNext_12 ?_
  refine j_lmul (pc := 13) C dX5_putOffNext_13 ?_
  refine j_topl (fun x2_11 ex2_11 => ?_)
  have hw := hw x2_11 ex2_11
  refine j_lstore_n (pc := 14) (lv' := [(0, .ref (f 0)), (1, .int x1), (2, .long x2_11)]) C [1, 2, 0] dX5_putOffNext_14 rfl (by decide) rfl ?_
  refine j_lload_n (pc := 15) C dX5_putOffNext_15 2 rfl rfl ?_
  refine j_lconst (pc := 16) (v := 0) C dX5_putOffNext_16 (by decide) ?_
  refine j_lcmp (pc := 17) C dX5_putOffNext_17 ?_
  refine j_if_le (pc := 18) C 44 dX5_putOffNext_18 (by decide) (fun z_12 => ?_) (fun z_12 => ?_)
  · have hw := hw.1 z_12
    exact j_vret (pc := 44) C hr a_10 rfl hw dX5_putOffNext_44
  · have hw := hw.2 z_12
    refine j_aload_n (pc := 21) C dX5_putOffNext_21 0 rfl rfl ?_
    refine j_aload_n (pc := 22) C dX5_putOffNext_22 0 rfl rfl ?_
    refine j_get (ref := RX5) (pc := 23) C hiX5_putOffNext_X5 0 (c_at0 f cI cO Y a_10) rfl 15 (by decide) lkX5_putOffNext_90 (c_fl0_15 f a_10) dX5_putOffNext_23 ?_
    refine j_ldc2 (pc := 26) (v := 1000) C dX5_putOffNext_26 (by decide +kernel) ?_
    refine j_iload_n (pc := 29) C dX5_putOffNext_29 1 rfl rfl ?_
    refine j_i2l (pc := 30) C dX5_putOffNext_30 ?_
    refine j_lmul (pc := 31) C dX5_putOffNext_31 ?_
    refine j_mmaxl (pc := 32) C ⟨by decide +kernel, by decide +kernel, by decide +kernel, by decide +kernel⟩ ⟨Nat.le_of_ble_eq_true rfl, Nat.le_of_ble_eq_true rfl⟩ ⟨Nat.le_refl _, Nat.le_refl _⟩ dX5_putOffNext_32 ?_
    refine j_topl (fun m_13 em_13 => ?_)
    have hw := hw m_13 em_13
    refine j_ldc2 (pc := 35) (v := 100000000) C dX5_putOffNext_35 (by decide +kernel) ?_
    refine j_lload_n (pc := 38) C dX5_putOffNext_38 2 rfl rfl ?_
    obtain ⟨h_14, hw⟩ := hw
    refine j_ldiv (pc := 39) C dX5_putOffNext_39 h_14 ?_
    refine j_ladd (pc := 40) C dX5_putOffNext_40 ?_
    refine j_topl (fun v_15 ev_15 => ?_)
    have hw := hw v_15 ev_15
    refine j_put (pc := 41) C hiX5_putOffNext_X5 tyX5 tyX5_ok nmX5 0 (c_at0 f cI cO Y a_10) rfl 15 (by decide) lkX5_putOffNext_90 rfl rfl rfl (Nat.le_of_ble_eq_true rfl) dX5_putOffNext_41 (j_ws (c_s0_15 f cI cO Y a_10 v_15) ?_)
    refine j_nmA (fun a_16 ea_16 => ?_)
    have hw := hw a_16 ea_16
    exact j_vret (pc := 44) C hr a_16 rfl hw dX5_putOffNext_44

def rmX3_at : Room := { frames := 0, cells := 0, slots := 0, locals := 0 }
theorem hiX3_at_X3 : ∀ w ∈ u_ws RX3 TX3 2, w ∈ wsX3_at := by decide +kernel
theorem lkX3_at_17 : Cond.fieldLink yX3_at.cls 17 (TX3 1).1 (TX3 1).2.1 (TX3 1).2.2.1 ∈ wsX3_at := by decide +kernel
theorem lkX3_at_11 : Cond.fieldLink yX3_at.cls 11 (TX3 0).1 (TX3 0).2.1 (TX3 0).2.2.1 ∈ wsX3_at := by decide +kernel
def wX3_at (N : Nat) (a : jSS) (x1 : Int32) (post : Option Nat → jSS → Prop) : Prop := ((x1 < 0) → (post none a)) ∧ ((¬ x1 < 0) → ((((a.1 1 1) ≤ x1) → (post none a)) ∧ ((¬ (a.1 1 1) ≤ x1) → (((262 ≤ x1) → (post none a)) ∧ ((¬ 262 ≤ x1) → (vp_in x1 262 ∧ ((a.2.2 x1.toNatClampNeg = none) → (post none a)) ∧ (∀ q_12 : Nat, a.2.2 x1.toNatClampNeg = some q_12 → (post (some q_12) a))))))))
set_option maxHeartbeats 4000000 in
set_option maxRecDepth 100000 in
theorem mX3_at {l : Launch} {D : va_G} {cI cJ cZ cO : ClassId} {f : Nat → Nat} {Y : va_W} {N : Nat} {a : jSS} {x1 : Int32} {post : Option Nat → jSS → Prop} (hw : wX3_at N a x1 post) : jMq l D (jT cI cJ cZ cO) gz yX3_at wsX3_at rmX3_at [.ref (f 1), .int x1] (acells f cI cO Y a) post (acells f cI cO Y) 0 0 := by
  refine j_ofq (cc := cX3_at) (maxL := 2) (ret := (some (.object "ModelSender$Letter"))) (by decide) rfl (Nat.le_of_ble_eq_true rfl) ?_
  intro p e s m args below meth c A C hr hnm hG
  refine j_sub (lv' := [(0, .ref (f 1)), (1, .int x1)]) [0, 1] rfl ?_
  unfold wX3_at at hw
  refine j_iload_n (pc := 0) C dX3_at_0 1 rfl rfl ?_
  refine j_if_lt (pc := 1) C 30 dX3_at_1 (by decide) (fun z_7 => ?_) (fun z_7 => ?_)
  · have hw := hw.1 z_7
    refine j_aconst_null (pc := 30) C dX3_at_30 ?_
    exact j_aretN (pc := 31) C hr a rfl hw dX3_at_31
  · have hw := hw.2 z_7
    refine j_iload_n (pc := 4) C dX3_at_4 1 rfl rfl ?_
    refine j_aload_n (pc := 5) C dX3_at_5 0 rfl rfl ?_
    refine j_get (ref := RX3) (pc := 6) C hiX3_at_X3 1 (c_at1 f cI cO Y a) rfl 1 (by decide) lkX3_at_17 (c_fl1_1 f a) dX3_at_6 ?_
    refine j_icmp_ge (pc := 9) C 30 dX3_at_9 (by decide) (fun z_8 => ?_) (fun z_8 => ?_)
    · have hw := hw.1 z_8
      refine j_aconst_null (pc := 30) C dX3_at_30 ?_
      exact j_aretN (pc := 31) C hr a rfl hw dX3_at_31
    · have hw := hw.2 z_8
      refine j_iload_n (pc := 12) C dX3_at_12 1 rfl rfl ?_
      refine j_aload_n (pc := 13) C dX3_at_13 0 rfl rfl ?_
      refine j_get (ref := RX3) (pc := 14) C hiX3_at_X3 1 (c_at1 f cI cO Y a) rfl 0 (by decide) lkX3_at_11 (c_fl1_0 f a) dX3_at_14 ?_
      refine j_alen (pc := 17) (v := 262) C 9 3 (c_at9 f cI cO Y a) rfl rfl dX3_at_17 ?_
      refine j_icmp_ge (pc := 18) C 30 dX3_at_18 (by decide) (fun z_9 => ?_) (fun z_9 => ?_)
      · have hw := hw.1 z_9
        refine j_aconst_null (pc := 30) C dX3_at_30 ?_
        exact j_aretN (pc := 31) C hr a rfl hw dX3_at_31
      · have hw := hw.2 z_9
        refine j_aload_n (pc := 21) C dX3_at_21 0 rfl rfl ?_
        refine j_get (ref := RX3) (pc := 22) C hiX3_at_X3 1 (c_at1 f cI cO Y a) rfl 0 (by decide) lkX3_at_11 (c_fl1_0 f a) dX3_at_22 ?_
        refine j_iload_n (pc := 25) C dX3_at_25 1 rfl rfl ?_
        obtain ⟨h_10, hw⟩ := hw
        refine j_aald (pc := 26) C 9 3 (c_at9 f cI cO Y a) rfl h_10 dX3_at_26 ?_
        refine j_opt (fun z_11 => ?_) (fun q_12 z_11 => ?_)
        · have hw := hw.1 z_11
          refine j_goto (pc := 27) C 31 dX3_at_27 (by decide) ?_
          exact j_aretN (pc := 31) C hr a rfl hw dX3_at_31
        · have hw := hw.2 q_12 z_11
          refine j_goto (pc := 27) C 31 dX3_at_27 (by decide) ?_
          exact j_aret (pc := 31) C hr a rfl hw dX3_at_31

def rmX3_add : Room := { frames := 0, cells := 0, slots := 0, locals := 0 }
theorem hiX3_add_X3 : ∀ w ∈ u_ws RX3 TX3 2, w ∈ wsX3_add := by decide +kernel
theorem lkX3_add_17 : Cond.fieldLink yX3_add.cls 17 (TX3 1).1 (TX3 1).2.1 (TX3 1).2.2.1 ∈ wsX3_add := by decide +kernel
theorem lkX3_add_11 : Cond.fieldLink yX3_add.cls 11 (TX3 0).1 (TX3 0).2.1 (TX3 0).2.2.1 ∈ wsX3_add := by decide +kernel
def wX3_add (N : Nat) (a : jSS)  (post : jSS → Prop) : Prop := ((262 ≤ (a.1 1 1)) → (post a)) ∧ ((¬ 262 ≤ (a.1 1 1)) → (∀ v_5 : Int32, v_5 = (a.1 1 1) + 1 → ∀ a_6 : jSS, a_6 = aP a 1 1 v_5 → post a_6))
set_option maxHeartbeats 4000000 in
set_option maxRecDepth 100000 in
theorem mX3_add {l : Launch} {D : va_G} {cI cJ cZ cO : ClassId} {f : Nat → Nat} {Y : va_W} {N : Nat} {a : jSS}  {post : jSS → Prop} (hw : wX3_add N a post) : jMv l D (jT cI cJ cZ cO) gz yX3_add wsX3_add rmX3_add [.ref (f 1)] (acells f cI cO Y a) post (acells f cI cO Y) 0 0 := by
  refine j_ofv (cc := cX3_add) (maxL := 1) (ret := none) (by decide) rfl (Nat.le_of_ble_eq_true rfl) ?_
  intro p e s m args below meth c A C hr hnm hG
  refine j_sub (lv' := [(0, .ref (f 1))]) [0] rfl ?_
  unfold wX3_add at hw
  refine j_aload_n (pc := 0) C dX3_add_0 0 rfl rfl ?_
  refine j_get (ref := RX3) (pc := 1) C hiX3_add_X3 1 (c_at1 f cI cO Y a) rfl 1 (by decide) lkX3_add_17 (c_fl1_1 f a) dX3_add_1 ?_
  refine j_aload_n (pc := 4) C dX3_add_4 0 rfl rfl ?_
  refine j_get (ref := RX3) (pc := 5) C hiX3_add_X3 1 (c_at1 f cI cO Y a) rfl 0 (by decide) lkX3_add_11 (c_fl1_0 f a) dX3_add_5 ?_
  refine j_alen (pc := 8) (v := 262) C 9 3 (c_at9 f cI cO Y a) rfl rfl dX3_add_8 ?_
  refine j_icmp_ge (pc := 9) C 22 dX3_add_9 (by decide) (fun z_4 => ?_) (fun z_4 => ?_)
  · have hw := hw.1 z_4
    exact j_vret (pc := 22) C hr a rfl hw dX3_add_22
  · have hw := hw.2 z_4
    refine j_aload_n (pc := 12) C dX3_add_12 0 rfl rfl ?_
    refine j_dup (pc := 13) C dX3_add_13 rfl ?_
    refine j_get (ref := RX3) (pc := 14) C hiX3_add_X3 1 (c_at1 f cI cO Y a) rfl 1 (by decide) lkX3_add_17 (c_fl1_1 f a) dX3_add_14 ?_
    refine j_iconst (pc := 17) (v := 1) C dX3_add_17 (by decide) ?_
    refine j_iadd (pc := 18) C dX3_add_18 ?_
    refine j_topi (fun v_5 ev_5 => ?_)
    have hw := hw v_5 ev_5
    refine j_put (pc := 19) C hiX3_add_X3 tyX3 tyX3_ok nmX3 1 (c_at1 f cI cO Y a) rfl 1 (by decide) lkX3_add_17 rfl rfl rfl (Nat.le_of_ble_eq_true rfl) dX3_add_19 (j_ws (c_s1_1 f cI cO Y a v_5) ?_)
    refine j_nmA (fun a_6 ea_6 => ?_)
    have hw := hw a_6 ea_6
    exact j_vret (pc := 22) C hr a_6 rfl hw dX3_add_22

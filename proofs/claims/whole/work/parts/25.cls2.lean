def rmX1_serve : Room := { frames := 0, cells := 0, slots := 0, locals := 0 }
theorem hiX1_serve_X1 : ∀ w ∈ u_ws RX1 TX1 12, w ∈ wsX1_serve := by decide +kernel
theorem lkX1_serve_41 : Cond.fieldLink yX1_serve.cls 41 (TX1 3).1 (TX1 3).2.1 (TX1 3).2.2.1 ∈ wsX1_serve := by decide +kernel
theorem lkX1_serve_9 : Cond.fieldLink yX1_serve.cls 9 (TX1 0).1 (TX1 0).2.1 (TX1 0).2.2.1 ∈ wsX1_serve := by decide +kernel
theorem lkX1_serve_63 : Cond.fieldLink yX1_serve.cls 63 (TX1 4).1 (TX1 4).2.1 (TX1 4).2.2.1 ∈ wsX1_serve := by decide +kernel
def wX1_serve (N : Nat) (a : jSS) (b : jGS) (x1 : Option Nat) (x2 : Int32) (post : jSS → jGS → Prop) : Prop := ((x1 = none) → (∀ b_7 : jGS, b_7 = gS b none → ∀ v_8 : Int32, v_8 = x2 + (gI b_7 0) → ∀ b_9 : jGS, b_9 = gP b_7 4 v_8 → post a b_9)) ∧ (∀ q9 : Nat, x1 = some q9 → (∀ b_10 : jGS, b_10 = gS b (some q9) → ∀ v_11 : Int32, v_11 = x2 + (gI b_10 0) → ∀ b_12 : jGS, b_12 = gP b_10 4 v_11 → post a b_12))
set_option maxHeartbeats 4000000 in
set_option maxRecDepth 100000 in
theorem mX1_serve {l : Launch} {D : va_G} {cI cJ cZ cO : ClassId} {f : Nat → Nat} {h : Nat → Nat} {Y : va_W} {N : Nat} {a : jSS} {b : jGS} {x1 : Option Nat} {x2 : Int32} {post : jSS → jGS → Prop} (hw : wX1_serve N a b x1 x2 post) : jMv l D (jT cI cJ cZ cO) gz yX1_serve wsX1_serve rmX1_serve [.ref (h 0), va_rf x1, .int x2] (acells f cI cO (bY h cO Y b) a) (fun (u : jSS × jGS) => post u.1 u.2) (bF f h cI cO Y) 0 0 := by
  refine j_ofv (cc := cX1_serve) (maxL := 3) (ret := none) (by decide) rfl (by cases x1 <;> exact Nat.le_of_ble_eq_true rfl) ?_
  intro p e s m args below meth c A C hr hnm hG
  unfold wX1_serve at hw
  rcases x1 with _ | q9
  · have hw := hw.1 rfl
    refine j_sub (lv' := [(0, .ref (h 0)), (1, .null), (2, .int x2)]) [0, 1, 2] rfl ?_
    refine j_aload_n (pc := 0) C dX1_serve_0 0 rfl rfl ?_
    refine j_aload_nN (pc := 1) C dX1_serve_1 1 rfl rfl ?_
    refine j_put (pc := 2) C hiX1_serve_X1 tyX1 tyX1_ok nmX1 10 (c_at10 f h cI cO Y a b) rfl 3 (by decide) lkX1_serve_41 rfl rfl rfl (Nat.le_of_ble_eq_true rfl) dX1_serve_2 (j_ws (c_s10_3N f h cI cO Y a b) ?_)
    refine j_nmB (fun b_7 eb_7 => ?_)
    have hw := hw b_7 eb_7
    refine j_aload_n (pc := 5) C dX1_serve_5 0 rfl rfl ?_
    refine j_iload_n (pc := 6) C dX1_serve_6 2 rfl rfl ?_
    refine j_aload_n (pc := 7) C dX1_serve_7 0 rfl rfl ?_
    refine j_get (ref := RX1) (pc := 8) C hiX1_serve_X1 10 (c_at10 f h cI cO Y a b_7) rfl 0 (by decide) lkX1_serve_9 (c_fl10_0 h b_7) dX1_serve_8 ?_
    refine j_iadd (pc := 11) C dX1_serve_11 ?_
    refine j_topi (fun v_8 ev_8 => ?_)
    have hw := hw v_8 ev_8
    refine j_put (pc := 12) C hiX1_serve_X1 tyX1 tyX1_ok nmX1 10 (c_at10 f h cI cO Y a b_7) rfl 4 (by decide) lkX1_serve_63 rfl rfl rfl (Nat.le_of_ble_eq_true rfl) dX1_serve_12 (j_ws (c_s10_4 f h cI cO Y a b_7 v_8) ?_)
    refine j_nmB (fun b_9 eb_9 => ?_)
    have hw := hw b_9 eb_9
    exact j_vret (pc := 15) C hr (a, b_9) rfl hw dX1_serve_15
  · have hw := hw.2 q9 rfl
    refine j_sub (lv' := [(0, .ref (h 0)), (1, .ref q9), (2, .int x2)]) [0, 1, 2] rfl ?_
    refine j_aload_n (pc := 0) C dX1_serve_0 0 rfl rfl ?_
    refine j_aload_n (pc := 1) C dX1_serve_1 1 rfl rfl ?_
    refine j_put (pc := 2) C hiX1_serve_X1 tyX1 tyX1_ok nmX1 10 (c_at10 f h cI cO Y a b) rfl 3 (by decide) lkX1_serve_41 rfl rfl rfl (Nat.le_of_ble_eq_true rfl) dX1_serve_2 (j_ws (c_s10_3 f h cI cO Y a b q9) ?_)
    refine j_nmB (fun b_10 eb_10 => ?_)
    have hw := hw b_10 eb_10
    refine j_aload_n (pc := 5) C dX1_serve_5 0 rfl rfl ?_
    refine j_iload_n (pc := 6) C dX1_serve_6 2 rfl rfl ?_
    refine j_aload_n (pc := 7) C dX1_serve_7 0 rfl rfl ?_
    refine j_get (ref := RX1) (pc := 8) C hiX1_serve_X1 10 (c_at10 f h cI cO Y a b_10) rfl 0 (by decide) lkX1_serve_9 (c_fl10_0 h b_10) dX1_serve_8 ?_
    refine j_iadd (pc := 11) C dX1_serve_11 ?_
    refine j_topi (fun v_11 ev_11 => ?_)
    have hw := hw v_11 ev_11
    refine j_put (pc := 12) C hiX1_serve_X1 tyX1 tyX1_ok nmX1 10 (c_at10 f h cI cO Y a b_10) rfl 4 (by decide) lkX1_serve_63 rfl rfl rfl (Nat.le_of_ble_eq_true rfl) dX1_serve_12 (j_ws (c_s10_4 f h cI cO Y a b_10 v_11) ?_)
    refine j_nmB (fun b_12 eb_12 => ?_)
    have hw := hw b_12 eb_12
    exact j_vret (pc := 15) C hr (a, b_12) rfl hw dX1_serve_15

def rmX1_admit : Room := { frames := 1, cells := 0, slots := 0, locals := 22 }
theorem hiX1_admit_X1 : ∀ w ∈ u_ws RX1 TX1 12, w ∈ wsX1_admit := by decide +kernel
theorem lkX1_admit_41 : Cond.fieldLink yX1_admit.cls 41 (TX1 3).1 (TX1 3).2.1 (TX1 3).2.2.1 ∈ wsX1_admit := by decide +kernel
theorem lkX1_admit_48 : Cond.fieldLink yX1_admit.cls 48 (TX1 6).1 (TX1 6).2.1 (TX1 6).2.2.1 ∈ wsX1_admit := by decide +kernel
theorem lkX1_admit_51 : Cond.fieldLink yX1_admit.cls 51 (TX1 7).1 (TX1 7).2.1 (TX1 7).2.2.1 ∈ wsX1_admit := by decide +kernel
theorem lkX1_admit_23 : Cond.fieldLink yX1_admit.cls 23 (TX1 5).1 (TX1 5).2.1 (TX1 5).2.2.1 ∈ wsX1_admit := by decide +kernel
theorem lkX1_admit_15 : Cond.fieldLink yX1_admit.cls 15 (TX1 1).1 (TX1 1).2.1 (TX1 1).2.2.1 ∈ wsX1_admit := by decide +kernel
theorem lkX1_admit_54 : Cond.fieldLink yX1_admit.cls 54 (TX1 8).1 (TX1 8).2.1 (TX1 8).2.2.1 ∈ wsX1_admit := by decide +kernel
def wX1_admit_42 (N : Nat) (a : jSS) (b : jGS) (x1 : Nat) (x3 : Int32) (post : Int32 → jSS → jGS → Prop) : Prop := (((gI b 1) ≤ (gI b 7)) → (post 0 a b)) ∧ ((¬ (gI b 1) ≤ (gI b 7)) → (((x3 < 0) → (post 0 a b)) ∧ ((¬ x3 < 0) → (((x3 < 60) → (x1 ∈ gLP b ∧ vp_in x3 60 ∧ ∀ b_24 : jGS, b_24 = gL b x3.toNatClampNeg (some x1) → ∀ v_25 : Int32, v_25 = (gI b_24 7) + 1 → ∀ b_26 : jGS, b_26 = gP b_24 7 v_25 → ∀ m_27 : Int32, m_27 = jmax (gI b_26 8) (gI b_26 7) → ∀ b_28 : jGS, b_28 = gP b_26 8 m_27 → post 1 a b_28)) ∧ ((¬ x3 < 60) → (post 0 a b))))))
set_option maxHeartbeats 4000000 in
set_option maxRecDepth 100000 in
theorem kX1_admit_42 {p : Program} {l : Launch} {e : Env} {s : State} {m : MethodId} {args : Array Value} {below : List Frame} {meth : Method} {c : Code} {D : va_G} {cI cJ cZ cO : ClassId} {f : Nat → Nat} {h : Nat → Nat} {Y : va_W} {A : Nat → Prop} {N : Nat} {post : Int32 → jSS → jGS → Prop} (C : jC p s m args meth c cX1_admit 4 yX1_admit.cls wsX1_admit D (jT cI cJ cZ cO) A) (hr : meth.sig.returnType = (some .boolean)) (hG : gz A s) (a : jSS) (b : jGS) (x1 : Nat) (x3 : Int32) (hw : wX1_admit_42 N a b x1 x3 post) : jJ p l e rmX1_admit s m args below meth c 0 0 (MQ below (va_Qi (fun r (u : jSS × jGS) => post r u.1 u.2) (jE D (jT cI cJ cZ cO) A (bF f h cI cO Y)) A) args s 0 0 A) D A 4 (acells f cI cO (bY h cO Y b) a) [(0, .ref (h 0)), (1, .ref x1), (3, .int x3)] 42 [] := by
  unfold wX1_admit_42 at hw
  refine j_aload_n (pc := 42) C dX1_admit_42 0 rfl rfl ?_
  refine j_get (ref := RX1) (pc := 43) C hiX1_admit_X1 10 (c_at10 f h cI cO Y a b) rfl 7 (by decide) lkX1_admit_51 (c_fl10_7 h b) dX1_admit_43 ?_
  refine j_aload_n (pc := 46) C dX1_admit_46 0 rfl rfl ?_
  refine j_get (ref := RX1) (pc := 47) C hiX1_admit_X1 10 (c_at10 f h cI cO Y a b) rfl 1 (by decide) lkX1_admit_15 (c_fl10_1 h b) dX1_admit_47 ?_
  refine j_icmp_ge (pc := 50) C 66 dX1_admit_50 (by decide) (fun z_19 => ?_) (fun z_19 => ?_)
  · have hw := hw.1 z_19
    refine j_iconst (pc := 66) (v := 0) C dX1_admit_66 (by decide) ?_
    exact j_zret (pc := 67) C hr (by decide) (a, b) rfl hw dX1_admit_67
  · have hw := hw.2 z_19
    refine j_iload_n (pc := 53) C dX1_admit_53 2 rfl rfl ?_
    refine j_if_lt (pc := 54) C 66 dX1_admit_54 (by decide) (fun z_20 => ?_) (fun z_20 => ?_)
    · have hw := hw.1 z_20
      refine j_iconst (pc := 66) (v := 0) C dX1_admit_66 (by decide) ?_
      exact j_zret (pc := 67) C hr (by decide) (a, b) rfl hw dX1_admit_67
    · have hw := hw.2 z_20
      refine j_iload_n (pc := 57) C dX1_admit_57 2 rfl rfl ?_
      refine j_aload_n (pc := 58) C dX1_admit_58 0 rfl rfl ?_
      refine j_get (ref := RX1) (pc := 59) C hiX1_admit_X1 10 (c_at10 f h cI cO Y a b) rfl 5 (by decide) lkX1_admit_23 (c_fl10_5 h b) dX1_admit_59 ?_
      refine j_alen (pc := 62) (v := 60) C 11 3 (c_at11 f h cI cO Y a b) rfl rfl dX1_admit_62 ?_
      refine j_icmp_lt (pc := 63) C 68 dX1_admit_63 (by decide) (fun z_21 => ?_) (fun z_21 => ?_)
      · have hw := hw.1 z_21
        refine j_aload_n (pc := 68) C dX1_admit_68 0 rfl rfl ?_
        refine j_get (ref := RX1) (pc := 69) C hiX1_admit_X1 10 (c_at10 f h cI cO Y a b) rfl 5 (by decide) lkX1_admit_23 (c_fl10_5 h b) dX1_admit_69 ?_
        refine j_iload_n (pc := 72) C dX1_admit_72 2 rfl rfl ?_
        refine j_aload_n (pc := 73) C dX1_admit_73 1 rfl rfl ?_
        obtain ⟨h_22, hw⟩ := hw
        obtain ⟨h_23, hw⟩ := hw
        refine j_aast (pc := 74) C 11 3 (c_at11 f h cI cO Y a b) rfl (c_poolv f h cI cO Y a b h_22) h_23 dX1_admit_74 (j_ws (c_s11 f h cI cO Y a b x3.toNatClampNeg (some x1)) ?_)
        refine j_nmB (fun b_24 eb_24 => ?_)
        have hw := hw b_24 eb_24
        refine j_aload_n (pc := 75) C dX1_admit_75 0 rfl rfl ?_
        refine j_dup (pc := 76) C dX1_admit_76 rfl ?_
        refine j_get (ref := RX1) (pc := 77) C hiX1_admit_X1 10 (c_at10 f h cI cO Y a b_24) rfl 7 (by decide) lkX1_admit_51 (c_fl10_7 h b_24) dX1_admit_77 ?_
        refine j_iconst (pc := 80) (v := 1) C dX1_admit_80 (by decide) ?_
        refine j_iadd (pc := 81) C dX1_admit_81 ?_
        refine j_topi (fun v_25 ev_25 => ?_)
        have hw := hw v_25 ev_25
        refine j_put (pc := 82) C hiX1_admit_X1 tyX1 tyX1_ok nmX1 10 (c_at10 f h cI cO Y a b_24) rfl 7 (by decide) lkX1_admit_51 rfl rfl rfl (Nat.le_of_ble_eq_true rfl) dX1_admit_82 (j_ws (c_s10_7 f h cI cO Y a b_24 v_25) ?_)
        refine j_nmB (fun b_26 eb_26 => ?_)
        have hw := hw b_26 eb_26
        refine j_aload_n (pc := 85) C dX1_admit_85 0 rfl rfl ?_
        refine j_aload_n (pc := 86) C dX1_admit_86 0 rfl rfl ?_
        refine j_get (ref := RX1) (pc := 87) C hiX1_admit_X1 10 (c_at10 f h cI cO Y a b_26) rfl 8 (by decide) lkX1_admit_54 (c_fl10_8 h b_26) dX1_admit_87 ?_
        refine j_aload_n (pc := 90) C dX1_admit_90 0 rfl rfl ?_
        refine j_get (ref := RX1) (pc := 91) C hiX1_admit_X1 10 (c_at10 f h cI cO Y a b_26) rfl 7 (by decide) lkX1_admit_51 (c_fl10_7 h b_26) dX1_admit_91 ?_
        refine j_mmax (pc := 94) C ⟨by decide +kernel, by decide +kernel, by decide +kernel, by decide +kernel⟩ ⟨Nat.le_of_ble_eq_true rfl, Nat.le_of_ble_eq_true rfl⟩ ⟨Nat.le_refl _, Nat.le_refl _⟩ dX1_admit_94 ?_
        refine j_topi (fun m_27 em_27 => ?_)
        have hw := hw m_27 em_27
        refine j_put (pc := 97) C hiX1_admit_X1 tyX1 tyX1_ok nmX1 10 (c_at10 f h cI cO Y a b_26) rfl 8 (by decide) lkX1_admit_54 rfl rfl rfl (Nat.le_of_ble_eq_true rfl) dX1_admit_97 (j_ws (c_s10_8 f h cI cO Y a b_26 m_27) ?_)
        refine j_nmB (fun b_28 eb_28 => ?_)
        have hw := hw b_28 eb_28
        refine j_iconst (pc := 100) (v := 1) C dX1_admit_100 (by decide) ?_
        exact j_zret (pc := 101) C hr (by decide) (a, b_28) rfl hw dX1_admit_101
      · have hw := hw.2 z_21
        refine j_iconst (pc := 66) (v := 0) C dX1_admit_66 (by decide) ?_
        exact j_zret (pc := 67) C hr (by decide) (a, b) rfl hw dX1_admit_67
def wX1_admit (N : Nat) (a : jSS) (b : jGS) (x1 : Nat) (x2 : Int32) (post : Int32 → jSS → jGS → Prop) : Prop := ((gV b = none) → (wX1_serve N a b (some x1) x2 (fun a_32 b_33 => post 1 a_32 b_33))) ∧ (∀ q_30 : Nat, gV b = some q_30 → (∀ x3_34 : Int32, x3_34 = (gI b 6) + (gI b 7) → ((x3_34 < 60) → (wX1_admit_42 N a b x1 x3_34 post)) ∧ ((¬ x3_34 < 60) → (∀ x3_36 : Int32, x3_36 = x3_34 - 60 → wX1_admit_42 N a b x1 x3_36 post))))
set_option maxHeartbeats 4000000 in
set_option maxRecDepth 100000 in
theorem mX1_admit {l : Launch} {D : va_G} {cI cJ cZ cO : ClassId} {f : Nat → Nat} {h : Nat → Nat} {Y : va_W} {N : Nat} {a : jSS} {b : jGS} {x1 : Nat} {x2 : Int32} {post : Int32 → jSS → jGS → Prop} (hw : wX1_admit N a b x1 x2 post) : jMi l D (jT cI cJ cZ cO) gz yX1_admit wsX1_admit rmX1_admit [.ref (h 0), .ref x1, .int x2] (acells f cI cO (bY h cO Y b) a) (fun r (u : jSS × jGS) => post r u.1 u.2) (bF f h cI cO Y) 0 0 := by
  refine j_ofi (cc := cX1_admit) (maxL := 4) (ret := (some .boolean)) (by decide) rfl (Nat.le_of_ble_eq_true rfl) ?_
  intro p e s m args below meth c A C hr hnm hG
  refine j_sub (lv' := [(0, .ref (h 0)), (1, .ref x1), (2, .int x2)]) [0, 1, 2] rfl ?_
  unfold wX1_admit at hw
  refine j_aload_n (pc := 0) C dX1_admit_0 0 rfl rfl ?_
  refine j_get (ref := RX1) (pc := 1) C hiX1_admit_X1 10 (c_at10 f h cI cO Y a b) rfl 3 (by decide) lkX1_admit_41 (c_fl10_3 h b) dX1_admit_1 ?_
  refine j_opt (fun z_29 => ?_) (fun q_30 z_29 => ?_)
  · have hw := hw.1 z_29
    refine j_ifnonnullN (pc := 4) C dX1_admit_4 ?_
    refine j_aload_n (pc := 7) C dX1_admit_7 0 rfl rfl ?_
    refine j_aload_n (pc := 8) C dX1_admit_8 1 rfl rfl ?_
    refine j_iload_n (pc := 9) C dX1_admit_9 2 rfl rfl ?_
    refine j_callvB (pc := 10) C gz_ok hG 2 (mX1_serve hw) gX1_admit_X1_serve rfl rfl rfl (by decide +kernel) ⟨Nat.le_of_ble_eq_true rfl, Nat.le_of_ble_eq_true rfl⟩ 10 (c_at10 f h cI cO Y a b) rfl rfl rfl (Nat.le_of_ble_eq_true rfl) dX1_admit_10 ⟨Nat.le_refl _, Nat.le_refl _⟩ (fun a_32 b_33 hw => ?_)
    refine j_iconst (pc := 13) (v := 1) C dX1_admit_13 (by decide) ?_
    exact j_zret (pc := 14) C hr (by decide) (a_32, b_33) rfl hw dX1_admit_14
  · have hw := hw.2 q_30 z_29
    refine j_ifnonnull (pc := 4) C 15 dX1_admit_4 (by decide) ?_
    refine j_aload_n (pc := 15) C dX1_admit_15 0 rfl rfl ?_
    refine j_get (ref := RX1) (pc := 16) C hiX1_admit_X1 10 (c_at10 f h cI cO Y a b) rfl 6 (by decide) lkX1_admit_48 (c_fl10_6 h b) dX1_admit_16 ?_
    refine j_aload_n (pc := 19) C dX1_admit_19 0 rfl rfl ?_
    refine j_get (ref := RX1) (pc := 20) C hiX1_admit_X1 10 (c_at10 f h cI cO Y a b) rfl 7 (by decide) lkX1_admit_51 (c_fl10_7 h b) dX1_admit_20 ?_
    refine j_iadd (pc := 23) C dX1_admit_23 ?_
    refine j_topi (fun x3_34 ex3_34 => ?_)
    have hw := hw x3_34 ex3_34
    refine j_istore_n (pc := 24) (lv' := [(0, .ref (h 0)), (1, .ref x1), (2, .int x2), (3, .int x3_34)]) C [1, 2, 3, 0] dX1_admit_24 rfl (by decide) rfl ?_
    refine j_iload_n (pc := 25) C dX1_admit_25 3 rfl rfl ?_
    refine j_aload_n (pc := 26) C dX1_admit_26 0 rfl rfl ?_
    refine j_get (ref := RX1) (pc := 27) C hiX1_admit_X1 10 (c_at10 f h cI cO Y a b) rfl 5 (by decide) lkX1_admit_23 (c_fl10_5 h b) dX1_admit_27 ?_
    refine j_alen (pc := 30) (v := 60) C 11 3 (c_at11 f h cI cO Y a b) rfl rfl dX1_admit_30 ?_
    refine j_icmp_lt (pc := 31) C 42 dX1_admit_31 (by decide) (fun z_35 => ?_) (fun z_35 => ?_)
    · have hw := hw.1 z_35
      refine j_sub [0, 1, 3] rfl ?_
      exact kX1_admit_42 C hr hG _ _ _ _ hw
    · have hw := hw.2 z_35
      refine j_iload_n (pc := 34) C dX1_admit_34 3 rfl rfl ?_
      refine j_aload_n (pc := 35) C dX1_admit_35 0 rfl rfl ?_
      refine j_get (ref := RX1) (pc := 36) C hiX1_admit_X1 10 (c_at10 f h cI cO Y a b) rfl 5 (by decide) lkX1_admit_23 (c_fl10_5 h b) dX1_admit_36 ?_
      refine j_alen (pc := 39) (v := 60) C 11 3 (c_at11 f h cI cO Y a b) rfl rfl dX1_admit_39 ?_
      refine j_isub (pc := 40) C dX1_admit_40 ?_
      refine j_topi (fun x3_36 ex3_36 => ?_)
      have hw := hw x3_36 ex3_36
      refine j_istore_n (pc := 41) (lv' := [(0, .ref (h 0)), (1, .ref x1), (2, .int x2), (3, .int x3_36)]) C [1, 2, 3, 0] dX1_admit_41 rfl (by decide) rfl ?_
      refine j_sub [0, 1, 3] rfl ?_
      exact kX1_admit_42 C hr hG _ _ _ _ hw

def rmX1_admitGuest : Room := { frames := 2, cells := 0, slots := 0, locals := 45 }
theorem hiX1_admitGuest_X1 : ∀ w ∈ u_ws RX1 TX1 12, w ∈ wsX1_admitGuest := by decide +kernel
theorem lkX1_admitGuest_30 : Cond.fieldLink yX1_admitGuest.cls 30 (TX1 11).1 (TX1 11).2.1 (TX1 11).2.2.1 ∈ wsX1_admitGuest := by decide +kernel
theorem lkX1_admitGuest_38 : Cond.fieldLink yX1_admitGuest.cls 38 (TX1 10).1 (TX1 10).2.1 (TX1 10).2.2.1 ∈ wsX1_admitGuest := by decide +kernel
def wX1_admitGuest (N : Nat) (gu : Nat) (a : jSS) (b : jGS) (x1 : Int32) (post : jSS → jGS → Prop) : Prop := wX1_admit N a b gu x1 (fun r_7 a_8 b_9 => ((¬ r_7 = 0) → (post a_8 b_9)) ∧ ((r_7 = 0) → (∀ v_11 : Int32, v_11 = (gI b_9 10) + 1 → ∀ b_12 : jGS, b_12 = gP b_9 10 v_11 → post a_8 b_12)))
set_option maxHeartbeats 4000000 in
set_option maxRecDepth 100000 in
theorem mX1_admitGuest {l : Launch} {D : va_G} {cI cJ cZ cO : ClassId} {f : Nat → Nat} {h : Nat → Nat} {Y : va_W} {N : Nat} {a : jSS} {b : jGS} {x1 : Int32} {post : jSS → jGS → Prop} (hw : wX1_admitGuest N (h 2) a b x1 post) : jMv l D (jT cI cJ cZ cO) gz yX1_admitGuest wsX1_admitGuest rmX1_admitGuest [.ref (h 0), .int x1] (acells f cI cO (bY h cO Y b) a) (fun (u : jSS × jGS) => post u.1 u.2) (bF f h cI cO Y) 0 0 := by
  refine j_ofv (cc := cX1_admitGuest) (maxL := 2) (ret := none) (by decide) rfl (Nat.le_of_ble_eq_true rfl) ?_
  intro p e s m args below meth c A C hr hnm hG
  refine j_sub (lv' := [(0, .ref (h 0)), (1, .int x1)]) [0, 1] rfl ?_
  unfold wX1_admitGuest at hw
  refine j_aload_n (pc := 0) C dX1_admitGuest_0 0 rfl rfl ?_
  refine j_aload_n (pc := 1) C dX1_admitGuest_1 0 rfl rfl ?_
  refine j_get (ref := RX1) (pc := 2) C hiX1_admitGuest_X1 10 (c_at10 f h cI cO Y a b) rfl 11 (by decide) lkX1_admitGuest_30 (c_fl10_11 h b) dX1_admitGuest_2 ?_
  refine j_iload_n (pc := 5) C dX1_admitGuest_5 1 rfl rfl ?_
  refine j_calliB (pc := 6) C gz_ok hG 2 (mX1_admit hw) gX1_admitGuest_X1_admit rfl rfl rfl (by decide +kernel) ⟨Nat.le_of_ble_eq_true rfl, Nat.le_of_ble_eq_true rfl⟩ 10 (c_at10 f h cI cO Y a b) rfl rfl rfl (Nat.le_of_ble_eq_true rfl) dX1_admitGuest_6 ⟨Nat.le_refl _, Nat.le_refl _⟩ (fun r_7 a_8 b_9 hw => ?_)
  refine j_if_ne (pc := 9) C 22 dX1_admitGuest_9 (by decide) (fun z_10 => ?_) (fun z_10 => ?_)
  · have hw := hw.1 z_10
    exact j_vret (pc := 22) C hr (a_8, b_9) rfl hw dX1_admitGuest_22
  · have hw := hw.2 z_10
    refine j_aload_n (pc := 12) C dX1_admitGuest_12 0 rfl rfl ?_
    refine j_dup (pc := 13) C dX1_admitGuest_13 rfl ?_
    refine j_get (ref := RX1) (pc := 14) C hiX1_admitGuest_X1 10 (c_at10 f h cI cO Y a_8 b_9) rfl 10 (by decide) lkX1_admitGuest_38 (c_fl10_10 h b_9) dX1_admitGuest_14 ?_
    refine j_iconst (pc := 17) (v := 1) C dX1_admitGuest_17 (by decide) ?_
    refine j_iadd (pc := 18) C dX1_admitGuest_18 ?_
    refine j_topi (fun v_11 ev_11 => ?_)
    have hw := hw v_11 ev_11
    refine j_put (pc := 19) C hiX1_admitGuest_X1 tyX1 tyX1_ok nmX1 10 (c_at10 f h cI cO Y a_8 b_9) rfl 10 (by decide) lkX1_admitGuest_38 rfl rfl rfl (Nat.le_of_ble_eq_true rfl) dX1_admitGuest_19 (j_ws (c_s10_10 f h cI cO Y a_8 b_9 v_11) ?_)
    refine j_nmB (fun b_12 eb_12 => ?_)
    have hw := hw b_12 eb_12
    exact j_vret (pc := 22) C hr (a_8, b_12) rfl hw dX1_admitGuest_22

def rmX1_serveFirstWaiting : Room := { frames := 1, cells := 0, slots := 0, locals := 22 }
theorem hiX1_serveFirstWaiting_X1 : ∀ w ∈ u_ws RX1 TX1 12, w ∈ wsX1_serveFirstWaiting := by decide +kernel
theorem lkX1_serveFirstWaiting_51 : Cond.fieldLink yX1_serveFirstWaiting.cls 51 (TX1 7).1 (TX1 7).2.1 (TX1 7).2.2.1 ∈ wsX1_serveFirstWaiting := by decide +kernel
theorem lkX1_serveFirstWaiting_48 : Cond.fieldLink yX1_serveFirstWaiting.cls 48 (TX1 6).1 (TX1 6).2.1 (TX1 6).2.2.1 ∈ wsX1_serveFirstWaiting := by decide +kernel
theorem lkX1_serveFirstWaiting_23 : Cond.fieldLink yX1_serveFirstWaiting.cls 23 (TX1 5).1 (TX1 5).2.1 (TX1 5).2.2.1 ∈ wsX1_serveFirstWaiting := by decide +kernel
def wX1_serveFirstWaiting_76 (N : Nat) (a : jSS) (b : jGS) (y0 : Int32) (post : jSS → jGS → Prop) : Prop := ∀ b_22 : jGS, b_22 = gP b 6 y0 → ∀ v_23 : Int32, v_23 = (gI b_22 7) - 1 → ∀ b_24 : jGS, b_24 = gP b_22 7 v_23 → post a b_24
set_option maxHeartbeats 4000000 in
set_option maxRecDepth 100000 in
theorem kX1_serveFirstWaiting_76 {p : Program} {l : Launch} {e : Env} {s : State} {m : MethodId} {args : Array Value} {below : List Frame} {meth : Method} {c : Code} {D : va_G} {cI cJ cZ cO : ClassId} {f : Nat → Nat} {h : Nat → Nat} {Y : va_W} {A : Nat → Prop} {N : Nat} {post : jSS → jGS → Prop} (C : jC p s m args meth c cX1_serveFirstWaiting 2 yX1_serveFirstWaiting.cls wsX1_serveFirstWaiting D (jT cI cJ cZ cO) A) (hr : meth.sig.returnType = none) (hG : gz A s) (a : jSS) (b : jGS) (y0 : Int32) (hw : wX1_serveFirstWaiting_76 N a b y0 post) : jJ p l e rmX1_serveFirstWaiting s m args below meth c 0 0 (MQ below (va_Qv (fun (u : jSS × jGS) => post u.1 u.2) (jE D (jT cI cJ cZ cO) A (bF f h cI cO Y)) A) args s 0 0 A) D A 2 (acells f cI cO (bY h cO Y b) a) [(0, .ref (h 0))] 76 [.int y0, .ref (h 0)] := by
  unfold wX1_serveFirstWaiting_76 at hw
  refine j_put (pc := 76) C hiX1_serveFirstWaiting_X1 tyX1 tyX1_ok nmX1 10 (c_at10 f h cI cO Y a b) rfl 6 (by decide) lkX1_serveFirstWaiting_48 rfl rfl rfl (Nat.le_of_ble_eq_true rfl) dX1_serveFirstWaiting_76 (j_ws (c_s10_6 f h cI cO Y a b y0) ?_)
  refine j_nmB (fun b_22 eb_22 => ?_)
  have hw := hw b_22 eb_22
  refine j_aload_n (pc := 79) C dX1_serveFirstWaiting_79 0 rfl rfl ?_
  refine j_dup (pc := 80) C dX1_serveFirstWaiting_80 rfl ?_
  refine j_get (ref := RX1) (pc := 81) C hiX1_serveFirstWaiting_X1 10 (c_at10 f h cI cO Y a b_22) rfl 7 (by decide) lkX1_serveFirstWaiting_51 (c_fl10_7 h b_22) dX1_serveFirstWaiting_81 ?_
  refine j_iconst (pc := 84) (v := 1) C dX1_serveFirstWaiting_84 (by decide) ?_
  refine j_isub (pc := 85) C dX1_serveFirstWaiting_85 ?_
  refine j_topi (fun v_23 ev_23 => ?_)
  have hw := hw v_23 ev_23
  refine j_put (pc := 86) C hiX1_serveFirstWaiting_X1 tyX1 tyX1_ok nmX1 10 (c_at10 f h cI cO Y a b_22) rfl 7 (by decide) lkX1_serveFirstWaiting_51 rfl rfl rfl (Nat.le_of_ble_eq_true rfl) dX1_serveFirstWaiting_86 (j_ws (c_s10_7 f h cI cO Y a b_22 v_23) ?_)
  refine j_nmB (fun b_24 eb_24 => ?_)
  have hw := hw b_24 eb_24
  exact j_vret (pc := 89) C hr (a, b_24) rfl hw dX1_serveFirstWaiting_89
def wX1_serveFirstWaiting (N : Nat) (a : jSS) (b : jGS) (x1 : Int32) (post : jSS → jGS → Prop) : Prop := (((gI b 7) ≤ 0) → (post a b)) ∧ ((¬ (gI b 7) ≤ 0) → ((((gI b 6) < 0) → (post a b)) ∧ ((¬ (gI b 6) < 0) → ((((gI b 6) < 60) → (vp_in (gI b 6) 60 ∧ ((gLn b (gI b 6).toNatClampNeg = none) → (wX1_serve N a b none x1 (fun a_32 b_33 => vp_in (gI b_33 6) 60 ∧ ∀ b_35 : jGS, b_35 = gL b_33 (gI b_33 6).toNatClampNeg none → ((60 ≤ ((gI b_35 6) + 1)) → (wX1_serveFirstWaiting_76 N a_32 b_35 0 post)) ∧ ((¬ 60 ≤ ((gI b_35 6) + 1)) → (wX1_serveFirstWaiting_76 N a_32 b_35 ((gI b_35 6) + 1) post))))) ∧ (∀ q_30 : Nat, gLn b (gI b 6).toNatClampNeg = some q_30 → (wX1_serve N a b (some q_30) x1 (fun a_38 b_39 => vp_in (gI b_39 6) 60 ∧ ∀ b_41 : jGS, b_41 = gL b_39 (gI b_39 6).toNatClampNeg none → ((60 ≤ ((gI b_41 6) + 1)) → (wX1_serveFirstWaiting_76 N a_38 b_41 0 post)) ∧ ((¬ 60 ≤ ((gI b_41 6) + 1)) → (wX1_serveFirstWaiting_76 N a_38 b_41 ((gI b_41 6) + 1) post))))))) ∧ ((¬ (gI b 6) < 60) → (post a b))))))
set_option maxHeartbeats 4000000 in
set_option maxRecDepth 100000 in
theorem mX1_serveFirstWaiting {l : Launch} {D : va_G} {cI cJ cZ cO : ClassId} {f : Nat → Nat} {h : Nat → Nat} {Y : va_W} {N : Nat} {a : jSS} {b : jGS} {x1 : Int32} {post : jSS → jGS → Prop} (hw : wX1_serveFirstWaiting N a b x1 post) : jMv l D (jT cI cJ cZ cO) gz yX1_serveFirstWaiting wsX1_serveFirstWaiting rmX1_serveFirstWaiting [.ref (h 0), .int x1] (acells f cI cO (bY h cO Y b) a) (fun (u : jSS × jGS) => post u.1 u.2) (bF f h cI cO Y) 0 0 := by
  refine j_ofv (cc := cX1_serveFirstWaiting) (maxL := 2) (ret := none) (by decide) rfl (Nat.le_of_ble_eq_true rfl) ?_
  intro p e s m args below meth c A C hr hnm hG
  refine j_sub (lv' := [(0, .ref (h 0)), (1, .int x1)]) [0, 1] rfl ?_
  unfold wX1_serveFirstWaiting at hw
  refine j_aload_n (pc := 0) C dX1_serveFirstWaiting_0 0 rfl rfl ?_
  refine j_get (ref := RX1) (pc := 1) C hiX1_serveFirstWaiting_X1 10 (c_at10 f h cI cO Y a b) rfl 7 (by decide) lkX1_serveFirstWaiting_51 (c_fl10_7 h b) dX1_serveFirstWaiting_1 ?_
  refine j_if_le (pc := 4) C 26 dX1_serveFirstWaiting_4 (by decide) (fun z_25 => ?_) (fun z_25 => ?_)
  · have hw := hw.1 z_25
    exact j_vret (pc := 26) C hr (a, b) rfl hw dX1_serveFirstWaiting_26
  · have hw := hw.2 z_25
    refine j_aload_n (pc := 7) C dX1_serveFirstWaiting_7 0 rfl rfl ?_
    refine j_get (ref := RX1) (pc := 8) C hiX1_serveFirstWaiting_X1 10 (c_at10 f h cI cO Y a b) rfl 6 (by decide) lkX1_serveFirstWaiting_48 (c_fl10_6 h b) dX1_serveFirstWaiting_8 ?_
    refine j_if_lt (pc := 11) C 26 dX1_serveFirstWaiting_11 (by decide) (fun z_26 => ?_) (fun z_26 => ?_)
    · have hw := hw.1 z_26
      exact j_vret (pc := 26) C hr (a, b) rfl hw dX1_serveFirstWaiting_26
    · have hw := hw.2 z_26
      refine j_aload_n (pc := 14) C dX1_serveFirstWaiting_14 0 rfl rfl ?_
      refine j_get (ref := RX1) (pc := 15) C hiX1_serveFirstWaiting_X1 10 (c_at10 f h cI cO Y a b) rfl 6 (by decide) lkX1_serveFirstWaiting_48 (c_fl10_6 h b) dX1_serveFirstWaiting_15 ?_
      refine j_aload_n (pc := 18) C dX1_serveFirstWaiting_18 0 rfl rfl ?_
      refine j_get (ref := RX1) (pc := 19) C hiX1_serveFirstWaiting_X1 10 (c_at10 f h cI cO Y a b) rfl 5 (by decide) lkX1_serveFirstWaiting_23 (c_fl10_5 h b) dX1_serveFirstWaiting_19 ?_
      refine j_alen (pc := 22) (v := 60) C 11 3 (c_at11 f h cI cO Y a b) rfl rfl dX1_serveFirstWaiting_22 ?_
      refine j_icmp_lt (pc := 23) C 27 dX1_serveFirstWaiting_23 (by decide) (fun z_27 => ?_) (fun z_27 => ?_)
      · have hw := hw.1 z_27
        refine j_aload_n (pc := 27) C dX1_serveFirstWaiting_27 0 rfl rfl ?_
        refine j_aload_n (pc := 28) C dX1_serveFirstWaiting_28 0 rfl rfl ?_
        refine j_get (ref := RX1) (pc := 29) C hiX1_serveFirstWaiting_X1 10 (c_at10 f h cI cO Y a b) rfl 5 (by decide) lkX1_serveFirstWaiting_23 (c_fl10_5 h b) dX1_serveFirstWaiting_29 ?_
        refine j_aload_n (pc := 32) C dX1_serveFirstWaiting_32 0 rfl rfl ?_
        refine j_get (ref := RX1) (pc := 33) C hiX1_serveFirstWaiting_X1 10 (c_at10 f h cI cO Y a b) rfl 6 (by decide) lkX1_serveFirstWaiting_48 (c_fl10_6 h b) dX1_serveFirstWaiting_33 ?_
        obtain ⟨h_28, hw⟩ := hw
        refine j_aald (pc := 36) C 11 3 (c_at11 f h cI cO Y a b) rfl h_28 dX1_serveFirstWaiting_36 ?_
        refine j_opt (fun z_29 => ?_) (fun q_30 z_29 => ?_)
        · have hw := hw.1 z_29
          refine j_iload_n (pc := 37) C dX1_serveFirstWaiting_37 1 rfl rfl ?_
          refine j_callvB (pc := 38) C gz_ok hG 2 (mX1_serve hw) gX1_serveFirstWaiting_X1_serve rfl rfl rfl (by decide +kernel) ⟨Nat.le_of_ble_eq_true rfl, Nat.le_of_ble_eq_true rfl⟩ 10 (c_at10 f h cI cO Y a b) rfl rfl rfl (Nat.le_of_ble_eq_true rfl) dX1_serveFirstWaiting_38 ⟨Nat.le_refl _, Nat.le_refl _⟩ (fun a_32 b_33 hw => ?_)
          refine j_aload_n (pc := 41) C dX1_serveFirstWaiting_41 0 rfl rfl ?_
          refine j_get (ref := RX1) (pc := 42) C hiX1_serveFirstWaiting_X1 10 (c_at10 f h cI cO Y a_32 b_33) rfl 5 (by decide) lkX1_serveFirstWaiting_23 (c_fl10_5 h b_33) dX1_serveFirstWaiting_42 ?_
          refine j_aload_n (pc := 45) C dX1_serveFirstWaiting_45 0 rfl rfl ?_
          refine j_get (ref := RX1) (pc := 46) C hiX1_serveFirstWaiting_X1 10 (c_at10 f h cI cO Y a_32 b_33) rfl 6 (by decide) lkX1_serveFirstWaiting_48 (c_fl10_6 h b_33) dX1_serveFirstWaiting_46 ?_
          refine j_aconst_null (pc := 49) C dX1_serveFirstWaiting_49 ?_
          obtain ⟨h_34, hw⟩ := hw
          refine j_aastN (pc := 50) C 11 3 (c_at11 f h cI cO Y a_32 b_33) rfl h_34 dX1_serveFirstWaiting_50 (j_ws (c_s11 f h cI cO Y a_32 b_33 (gI b_33 6).toNatClampNeg none) ?_)
          refine j_nmB (fun b_35 eb_35 => ?_)
          have hw := hw b_35 eb_35
          refine j_aload_n (pc := 51) C dX1_serveFirstWaiting_51 0 rfl rfl ?_
          refine j_aload_n (pc := 52) C dX1_serveFirstWaiting_52 0 rfl rfl ?_
          refine j_get (ref := RX1) (pc := 53) C hiX1_serveFirstWaiting_X1 10 (c_at10 f h cI cO Y a_32 b_35) rfl 6 (by decide) lkX1_serveFirstWaiting_48 (c_fl10_6 h b_35) dX1_serveFirstWaiting_53 ?_
          refine j_iconst (pc := 56) (v := 1) C dX1_serveFirstWaiting_56 (by decide) ?_
          refine j_iadd (pc := 57) C dX1_serveFirstWaiting_57 ?_
          refine j_aload_n (pc := 58) C dX1_serveFirstWaiting_58 0 rfl rfl ?_
          refine j_get (ref := RX1) (pc := 59) C hiX1_serveFirstWaiting_X1 10 (c_at10 f h cI cO Y a_32 b_35) rfl 5 (by decide) lkX1_serveFirstWaiting_23 (c_fl10_5 h b_35) dX1_serveFirstWaiting_59 ?_
          refine j_alen (pc := 62) (v := 60) C 11 3 (c_at11 f h cI cO Y a_32 b_35) rfl rfl dX1_serveFirstWaiting_62 ?_
          refine j_icmp_ge (pc := 63) C 75 dX1_serveFirstWaiting_63 (by decide) (fun z_36 => ?_) (fun z_36 => ?_)
          · have hw := hw.1 z_36
            refine j_iconst (pc := 75) (v := 0) C dX1_serveFirstWaiting_75 (by decide) ?_
            refine j_sub [0] rfl ?_
            exact kX1_serveFirstWaiting_76 C hr hG _ _ _ hw
          · have hw := hw.2 z_36
            refine j_aload_n (pc := 66) C dX1_serveFirstWaiting_66 0 rfl rfl ?_
            refine j_get (ref := RX1) (pc := 67) C hiX1_serveFirstWaiting_X1 10 (c_at10 f h cI cO Y a_32 b_35) rfl 6 (by decide) lkX1_serveFirstWaiting_48 (c_fl10_6 h b_35) dX1_serveFirstWaiting_67 ?_
            refine j_iconst (pc := 70) (v := 1) C dX1_serveFirstWaiting_70 (by decide) ?_
            refine j_iadd (pc := 71) C dX1_serveFirstWaiting_71 ?_
            refine j_goto (pc := 72) C 76 dX1_serveFirstWaiting_72 (by decide) ?_
            refine j_sub [0] rfl ?_
            exact kX1_serveFirstWaiting_76 C hr hG _ _ _ hw
        · have hw := hw.2 q_30 z_29
          refine j_iload_n (pc := 37) C dX1_serveFirstWaiting_37 1 rfl rfl ?_
          refine j_callvB (pc := 38) C gz_ok hG 2 (mX1_serve hw) gX1_serveFirstWaiting_X1_serve rfl rfl rfl (by decide +kernel) ⟨Nat.le_of_ble_eq_true rfl, Nat.le_of_ble_eq_true rfl⟩ 10 (c_at10 f h cI cO Y a b) rfl rfl rfl (Nat.le_of_ble_eq_true rfl) dX1_serveFirstWaiting_38 ⟨Nat.le_refl _, Nat.le_refl _⟩ (fun a_38 b_39 hw => ?_)
          refine j_aload_n (pc := 41) C dX1_serveFirstWaiting_41 0 rfl rfl ?_
          refine j_get (ref := RX1) (pc := 42) C hiX1_serveFirstWaiting_X1 10 (c_at10 f h cI cO Y a_38 b_39) rfl 5 (by decide) lkX1_serveFirstWaiting_23 (c_fl10_5 h b_39) dX1_serveFirstWaiting_42 ?_
          refine j_aload_n (pc := 45) C dX1_serveFirstWaiting_45 0 rfl rfl ?_
          refine j_get (ref := RX1) (pc := 46) C hiX1_serveFirstWaiting_X1 10 (c_at10 f h cI cO Y a_38 b_39) rfl 6 (by decide) lkX1_serveFirstWaiting_48 (c_fl10_6 h b_39) dX1_serveFirstWaiting_46 ?_
          refine j_aconst_null (pc := 49) C dX1_serveFirstWaiting_49 ?_
          obtain ⟨h_40, hw⟩ := hw
          refine j_aastN (pc := 50) C 11 3 (c_at11 f h cI cO Y a_38 b_39) rfl h_40 dX1_serveFirstWaiting_50 (j_ws (c_s11 f h cI cO Y a_38 b_39 (gI b_39 6).toNatClampNeg none) ?_)
          refine j_nmB (fun b_41 eb_41 => ?_)
          have hw := hw b_41 eb_41
          refine j_aload_n (pc := 51) C dX1_serveFirstWaiting_51 0 rfl rfl ?_
          refine j_aload_n (pc := 52) C dX1_serveFirstWaiting_52 0 rfl rfl ?_
          refine j_get (ref := RX1) (pc := 53) C hiX1_serveFirstWaiting_X1 10 (c_at10 f h cI cO Y a_38 b_41) rfl 6 (by decide) lkX1_serveFirstWaiting_48 (c_fl10_6 h b_41) dX1_serveFirstWaiting_53 ?_
          refine j_iconst (pc := 56) (v := 1) C dX1_serveFirstWaiting_56 (by decide) ?_
          refine j_iadd (pc := 57) C dX1_serveFirstWaiting_57 ?_
          refine j_aload_n (pc := 58) C dX1_serveFirstWaiting_58 0 rfl rfl ?_
          refine j_get (ref := RX1) (pc := 59) C hiX1_serveFirstWaiting_X1 10 (c_at10 f h cI cO Y a_38 b_41) rfl 5 (by decide) lkX1_serveFirstWaiting_23 (c_fl10_5 h b_41) dX1_serveFirstWaiting_59 ?_
          refine j_alen (pc := 62) (v := 60) C 11 3 (c_at11 f h cI cO Y a_38 b_41) rfl rfl dX1_serveFirstWaiting_62 ?_
          refine j_icmp_ge (pc := 63) C 75 dX1_serveFirstWaiting_63 (by decide) (fun z_42 => ?_) (fun z_42 => ?_)
          · have hw := hw.1 z_42
            refine j_iconst (pc := 75) (v := 0) C dX1_serveFirstWaiting_75 (by decide) ?_
            refine j_sub [0] rfl ?_
            exact kX1_serveFirstWaiting_76 C hr hG _ _ _ hw
          · have hw := hw.2 z_42
            refine j_aload_n (pc := 66) C dX1_serveFirstWaiting_66 0 rfl rfl ?_
            refine j_get (ref := RX1) (pc := 67) C hiX1_serveFirstWaiting_X1 10 (c_at10 f h cI cO Y a_38 b_41) rfl 6 (by decide) lkX1_serveFirstWaiting_48 (c_fl10_6 h b_41) dX1_serveFirstWaiting_67 ?_
            refine j_iconst (pc := 70) (v := 1) C dX1_serveFirstWaiting_70 (by decide) ?_
            refine j_iadd (pc := 71) C dX1_serveFirstWaiting_71 ?_
            refine j_goto (pc := 72) C 76 dX1_serveFirstWaiting_72 (by decide) ?_
            refine j_sub [0] rfl ?_
            exact kX1_serveFirstWaiting_76 C hr hG _ _ _ hw
      · have hw := hw.2 z_27
        exact j_vret (pc := 26) C hr (a, b) rfl hw dX1_serveFirstWaiting_26

def rmX3_remove : Room := { frames := 1, cells := 0, slots := 0, locals := 21 }
theorem hiX3_remove_X3 : ∀ w ∈ u_ws RX3 TX3 2, w ∈ wsX3_remove := by decide +kernel
theorem lkX3_remove_17 : Cond.fieldLink yX3_remove.cls 17 (TX3 1).1 (TX3 1).2.1 (TX3 1).2.2.1 ∈ wsX3_remove := by decide +kernel
theorem lkX3_remove_11 : Cond.fieldLink yX3_remove.cls 11 (TX3 0).1 (TX3 0).2.1 (TX3 0).2.2.1 ∈ wsX3_remove := by decide +kernel
def wX3_remove_54 (N : Nat) (a : jSS) (b : jGS) (x2 : Nat) (post : jSS → jGS → Prop) : Prop := ∀ v_22 : Int32, v_22 = (a.1 1 1) - 1 → ∀ a_23 : jSS, a_23 = aP a 1 1 v_22 → x2 ∈ gLP b ∧ vp_in (a_23.1 1 1) 262 ∧ ∀ a_26 : jSS, a_26 = aL a_23 (a_23.1 1 1).toNatClampNeg (some x2) → post a_26 b
set_option maxHeartbeats 4000000 in
set_option maxRecDepth 100000 in
theorem kX3_remove_54 {p : Program} {l : Launch} {e : Env} {s : State} {m : MethodId} {args : Array Value} {below : List Frame} {meth : Method} {c : Code} {D : va_G} {cI cJ cZ cO : ClassId} {f : Nat → Nat} {h : Nat → Nat} {Y : va_W} {A : Nat → Prop} {N : Nat} {post : jSS → jGS → Prop} (C : jC p s m args meth c cX3_remove 4 yX3_remove.cls wsX3_remove D (jT cI cJ cZ cO) A) (hr : meth.sig.returnType = none) (hG : gz A s) (a : jSS) (b : jGS) (x2 : Nat) (hw : wX3_remove_54 N a b x2 post) : jJ p l e rmX3_remove s m args below meth c 0 0 (MQ below (va_Qv (fun (u : jSS × jGS) => post u.1 u.2) (jE D (jT cI cJ cZ cO) A (bF f h cI cO Y)) A) args s 0 0 A) D A 4 (acells f cI cO (bY h cO Y b) a) [(0, .ref (f 1)), (2, .ref x2)] 54 [] := by
  unfold wX3_remove_54 at hw
  refine j_aload_n (pc := 54) C dX3_remove_54 0 rfl rfl ?_
  refine j_dup (pc := 55) C dX3_remove_55 rfl ?_
  refine j_get (ref := RX3) (pc := 56) C hiX3_remove_X3 1 (c_at1 f cI cO (bY h cO Y b) a) rfl 1 (by decide) lkX3_remove_17 (c_fl1_1 f a) dX3_remove_56 ?_
  refine j_iconst (pc := 59) (v := 1) C dX3_remove_59 (by decide) ?_
  refine j_isub (pc := 60) C dX3_remove_60 ?_
  refine j_topi (fun v_22 ev_22 => ?_)
  have hw := hw v_22 ev_22
  refine j_put (pc := 61) C hiX3_remove_X3 tyX3 tyX3_ok nmX3 1 (c_at1 f cI cO (bY h cO Y b) a) rfl 1 (by decide) lkX3_remove_17 rfl rfl rfl (Nat.le_of_ble_eq_true rfl) dX3_remove_61 (j_ws (c_s1_1 f cI cO (bY h cO Y b) a v_22) ?_)
  refine j_nmA (fun a_23 ea_23 => ?_)
  have hw := hw a_23 ea_23
  refine j_aload_n (pc := 64) C dX3_remove_64 0 rfl rfl ?_
  refine j_get (ref := RX3) (pc := 65) C hiX3_remove_X3 1 (c_at1 f cI cO (bY h cO Y b) a_23) rfl 0 (by decide) lkX3_remove_11 (c_fl1_0 f a_23) dX3_remove_65 ?_
  refine j_aload_n (pc := 68) C dX3_remove_68 0 rfl rfl ?_
  refine j_get (ref := RX3) (pc := 69) C hiX3_remove_X3 1 (c_at1 f cI cO (bY h cO Y b) a_23) rfl 1 (by decide) lkX3_remove_17 (c_fl1_1 f a_23) dX3_remove_69 ?_
  refine j_aload_n (pc := 72) C dX3_remove_72 1 rfl rfl ?_
  obtain ⟨h_24, hw⟩ := hw
  obtain ⟨h_25, hw⟩ := hw
  refine j_aast (pc := 73) C 9 3 (c_at9 f cI cO (bY h cO Y b) a_23) rfl (c_poolv f h cI cO Y a_23 b h_24) h_25 dX3_remove_73 (j_ws (c_s9 f cI cO (bY h cO Y b) a_23 (a_23.1 1 1).toNatClampNeg (some x2)) ?_)
  refine j_nmA (fun a_26 ea_26 => ?_)
  have hw := hw a_26 ea_26
  exact j_vret (pc := 74) C hr (a_26, b) rfl hw dX3_remove_74
def wX3_remove_13 (N : Nat) : Nat → jSS → jGS → Nat → Int32 → (jSS → jGS → Prop) → Prop
  | 0, _, _, _, _, _ => False
  | n + 1, a, b, x2, x3, post => (((a.1 1 1) ≤ (x3 + 1)) → (wX3_remove_54 N a b x2 post)) ∧ ((¬ (a.1 1 1) ≤ (x3 + 1)) → (((262 ≤ (x3 + 1)) → (wX3_remove_54 N a b x2 post)) ∧ ((¬ 262 ≤ (x3 + 1)) → (vp_in (x3 + 1) 262 ∧ ((a.2.2 (x3 + 1).toNatClampNeg = none) → (vp_in x3 262 ∧ ∀ a_33 : jSS, a_33 = aL a x3.toNatClampNeg none → ∀ x3_34 : Int32, x3_34 = x3 + 1 → wX3_remove_13 N n a_33 b x2 x3_34 post)) ∧ (∀ q_31 : Nat, a.2.2 (x3 + 1).toNatClampNeg = some q_31 → (q_31 ∈ gLP b ∧ vp_in x3 262 ∧ ∀ a_37 : jSS, a_37 = aL a x3.toNatClampNeg (some q_31) → ∀ x3_38 : Int32, x3_38 = x3 + 1 → wX3_remove_13 N n a_37 b x2 x3_38 post))))))
set_option maxHeartbeats 4000000 in
set_option maxRecDepth 100000 in
theorem kX3_remove_13 {p : Program} {l : Launch} {e : Env} {s : State} {m : MethodId} {args : Array Value} {below : List Frame} {meth : Method} {c : Code} {D : va_G} {cI cJ cZ cO : ClassId} {f : Nat → Nat} {h : Nat → Nat} {Y : va_W} {A : Nat → Prop} {N : Nat} {post : jSS → jGS → Prop} (C : jC p s m args meth c cX3_remove 4 yX3_remove.cls wsX3_remove D (jT cI cJ cZ cO) A) (hr : meth.sig.returnType = none) (hG : gz A s) : ∀ (n : Nat) (a : jSS) (b : jGS) (x2 : Nat) (x3 : Int32), wX3_remove_13 N n a b x2 x3 post → jJ p l e rmX3_remove s m args below meth c 0 0 (MQ below (va_Qv (fun (u : jSS × jGS) => post u.1 u.2) (jE D (jT cI cJ cZ cO) A (bF f h cI cO Y)) A) args s 0 0 A) D A 4 (acells f cI cO (bY h cO Y b) a) [(0, .ref (f 1)), (2, .ref x2), (3, .int x3)] 13 [] := by
  intro n
  induction n with
  | zero =>
    intro a b x2 x3 hw
    exact False.elim hw
  | succ n ih =>
    intro a b x2 x3 hw
    unfold wX3_remove_13 at hw
    refine j_iload_n (pc := 13) C dX3_remove_13 2 rfl rfl ?_
    refine j_iconst (pc := 14) (v := 1) C dX3_remove_14 (by decide) ?_
    refine j_iadd (pc := 15) C dX3_remove_15 ?_
    refine j_aload_n (pc := 16) C dX3_remove_16 0 rfl rfl ?_
    refine j_get (ref := RX3) (pc := 17) C hiX3_remove_X3 1 (c_at1 f cI cO (bY h cO Y b) a) rfl 1 (by decide) lkX3_remove_17 (c_fl1_1 f a) dX3_remove_17 ?_
    refine j_icmp_ge (pc := 20) C 54 dX3_remove_20 (by decide) (fun z_27 => ?_) (fun z_27 => ?_)
    · have hw := hw.1 z_27
      refine j_sub [0, 1] rfl ?_
      exact kX3_remove_54 C hr hG _ _ _ hw
    · have hw := hw.2 z_27
      refine j_iload_n (pc := 23) C dX3_remove_23 2 rfl rfl ?_
      refine j_iconst (pc := 24) (v := 1) C dX3_remove_24 (by decide) ?_
      refine j_iadd (pc := 25) C dX3_remove_25 ?_
      refine j_aload_n (pc := 26) C dX3_remove_26 0 rfl rfl ?_
      refine j_get (ref := RX3) (pc := 27) C hiX3_remove_X3 1 (c_at1 f cI cO (bY h cO Y b) a) rfl 0 (by decide) lkX3_remove_11 (c_fl1_0 f a) dX3_remove_27 ?_
      refine j_alen (pc := 30) (v := 262) C 9 3 (c_at9 f cI cO (bY h cO Y b) a) rfl rfl dX3_remove_30 ?_
      refine j_icmp_ge (pc := 31) C 54 dX3_remove_31 (by decide) (fun z_28 => ?_) (fun z_28 => ?_)
      · have hw := hw.1 z_28
        refine j_sub [0, 1] rfl ?_
        exact kX3_remove_54 C hr hG _ _ _ hw
      · have hw := hw.2 z_28
        refine j_aload_n (pc := 34) C dX3_remove_34 0 rfl rfl ?_
        refine j_get (ref := RX3) (pc := 35) C hiX3_remove_X3 1 (c_at1 f cI cO (bY h cO Y b) a) rfl 0 (by decide) lkX3_remove_11 (c_fl1_0 f a) dX3_remove_35 ?_
        refine j_iload_n (pc := 38) C dX3_remove_38 2 rfl rfl ?_
        refine j_aload_n (pc := 39) C dX3_remove_39 0 rfl rfl ?_
        refine j_get (ref := RX3) (pc := 40) C hiX3_remove_X3 1 (c_at1 f cI cO (bY h cO Y b) a) rfl 0 (by decide) lkX3_remove_11 (c_fl1_0 f a) dX3_remove_40 ?_
        refine j_iload_n (pc := 43) C dX3_remove_43 2 rfl rfl ?_
        refine j_iconst (pc := 44) (v := 1) C dX3_remove_44 (by decide) ?_
        refine j_iadd (pc := 45) C dX3_remove_45 ?_
        obtain ⟨h_29, hw⟩ := hw
        refine j_aald (pc := 46) C 9 3 (c_at9 f cI cO (bY h cO Y b) a) rfl h_29 dX3_remove_46 ?_
        refine j_opt (fun z_30 => ?_) (fun q_31 z_30 => ?_)
        · have hw := hw.1 z_30
          obtain ⟨h_32, hw⟩ := hw
          refine j_aastN (pc := 47) C 9 3 (c_at9 f cI cO (bY h cO Y b) a) rfl h_32 dX3_remove_47 (j_ws (c_s9 f cI cO (bY h cO Y b) a x3.toNatClampNeg none) ?_)
          refine j_nmA (fun a_33 ea_33 => ?_)
          have hw := hw a_33 ea_33
          obtain ⟨x3_34, ex3_34⟩ : ∃ y : Int32, y = x3 + 1 := ⟨_, rfl⟩
          have hw := hw x3_34 ex3_34
          refine j_iinc (pc := 48) (v := x3_34) (lv' := [(0, .ref (f 1)), (2, .ref x2), (3, .int x3_34)]) C [1, 2, 0] 2 dX3_remove_48 rfl (by rw [ex3_34]; rfl) (by decide) rfl ?_
          refine j_goto (pc := 51) C 13 dX3_remove_51 (by decide) ?_
          exact ih _ _ _ _ hw
        · have hw := hw.2 q_31 z_30
          obtain ⟨h_35, hw⟩ := hw
          obtain ⟨h_36, hw⟩ := hw
          refine j_aast (pc := 47) C 9 3 (c_at9 f cI cO (bY h cO Y b) a) rfl (c_poolv f h cI cO Y a b h_35) h_36 dX3_remove_47 (j_ws (c_s9 f cI cO (bY h cO Y b) a x3.toNatClampNeg (some q_31)) ?_)
          refine j_nmA (fun a_37 ea_37 => ?_)
          have hw := hw a_37 ea_37
          obtain ⟨x3_38, ex3_38⟩ : ∃ y : Int32, y = x3 + 1 := ⟨_, rfl⟩
          have hw := hw x3_38 ex3_38
          refine j_iinc (pc := 48) (v := x3_38) (lv' := [(0, .ref (f 1)), (2, .ref x2), (3, .int x3_38)]) C [1, 2, 0] 2 dX3_remove_48 rfl (by rw [ex3_38]; rfl) (by decide) rfl ?_
          refine j_goto (pc := 51) C 13 dX3_remove_51 (by decide) ?_
          exact ih _ _ _ _ hw
def wX3_remove (N : Nat) (a : jSS) (b : jGS) (x1 : Int32) (post : jSS → jGS → Prop) : Prop := wX3_at N a x1 (fun r_39 a_40 => ((r_39 = none) → (post a_40 b)) ∧ (∀ q_42 : Nat, r_39 = some q_42 → (wX3_remove_13 N N a_40 b q_42 x1 post)))
set_option maxHeartbeats 4000000 in
set_option maxRecDepth 100000 in
theorem mX3_remove {l : Launch} {D : va_G} {cI cJ cZ cO : ClassId} {f : Nat → Nat} {h : Nat → Nat} {Y : va_W} {N : Nat} {a : jSS} {b : jGS} {x1 : Int32} {post : jSS → jGS → Prop} (hw : wX3_remove N a b x1 post) : jMv l D (jT cI cJ cZ cO) gz yX3_remove wsX3_remove rmX3_remove [.ref (f 1), .int x1] (acells f cI cO (bY h cO Y b) a) (fun (u : jSS × jGS) => post u.1 u.2) (bF f h cI cO Y) 0 0 := by
  refine j_ofv (cc := cX3_remove) (maxL := 4) (ret := none) (by decide) rfl (Nat.le_of_ble_eq_true rfl) ?_
  intro p e s m args below meth c A C hr hnm hG
  refine j_sub (lv' := [(0, .ref (f 1)), (1, .int x1)]) [0, 1] rfl ?_
  unfold wX3_remove at hw
  refine j_aload_n (pc := 0) C dX3_remove_0 0 rfl rfl ?_
  refine j_iload_n (pc := 1) C dX3_remove_1 1 rfl rfl ?_
  refine j_callq0 (pc := 2) C gz_ok hG 1 (mX3_at hw) gX3_remove_X3_at rfl rfl rfl (by decide +kernel) ⟨Nat.le_of_ble_eq_true rfl, Nat.le_of_ble_eq_true rfl⟩ 1 (c_at1 f cI cO (bY h cO Y b) a) rfl rfl rfl (Nat.le_of_ble_eq_true rfl) dX3_remove_2 ⟨Nat.le_refl _, Nat.le_refl _⟩ (fun r_39 a_40 hw => ?_)
  refine j_opt (fun z_41 => ?_) (fun q_42 z_41 => ?_)
  · have hw := hw.1 z_41
    refine j_astore_nN (pc := 5) (lv' := [(0, .ref (f 1)), (1, .int x1), (2, .null)]) C [1, 2, 0] dX3_remove_5 rfl (by decide) rfl ?_
    refine j_aload_nN (pc := 6) C dX3_remove_6 2 rfl rfl ?_
    refine j_ifnonnullN (pc := 7) C dX3_remove_7 ?_
    exact j_vret (pc := 10) C hr (a_40, b) rfl hw dX3_remove_10
  · have hw := hw.2 q_42 z_41
    refine j_astore_n (pc := 5) (lv' := [(0, .ref (f 1)), (1, .int x1), (2, .ref q_42)]) C [1, 2, 0] dX3_remove_5 rfl (by decide) rfl ?_
    refine j_aload_n (pc := 6) C dX3_remove_6 2 rfl rfl ?_
    refine j_ifnonnull (pc := 7) C 11 dX3_remove_7 (by decide) ?_
    refine j_iload_n (pc := 11) C dX3_remove_11 1 rfl rfl ?_
    refine j_istore_n (pc := 12) (lv' := [(0, .ref (f 1)), (1, .int x1), (2, .ref q_42), (3, .int x1)]) C [1, 2, 3, 0] dX3_remove_12 rfl (by decide) rfl ?_
    refine j_sub [0, 2, 3] rfl ?_
    exact kX3_remove_13 C hr hG N _ _ _ _ hw

def rmX5_learnRate : Room := { frames := 3, cells := 0, slots := 0, locals := 64 }
theorem hiX5_learnRate_X5 : ∀ w ∈ u_ws RX5 TX5 16, w ∈ wsX5_learnRate := by decide +kernel
theorem hiX5_learnRate_X2 : ∀ w ∈ u_ws RX2 TX2 8, w ∈ wsX5_learnRate := by decide +kernel
theorem lkX5_learnRate_78 : Cond.fieldLink yX5_learnRate.cls 78 (TX5 7).1 (TX5 7).2.1 (TX5 7).2.2.1 ∈ wsX5_learnRate := by decide +kernel
theorem lkX5_learnRate_110 : Cond.fieldLink yX5_learnRate.cls 110 (TX2 3).1 (TX2 3).2.1 (TX2 3).2.2.1 ∈ wsX5_learnRate := by decide +kernel
theorem lkX5_learnRate_111 : Cond.fieldLink yX5_learnRate.cls 111 (TX2 4).1 (TX2 4).2.1 (TX2 4).2.2.1 ∈ wsX5_learnRate := by decide +kernel
theorem lkX5_learnRate_112 : Cond.fieldLink yX5_learnRate.cls 112 (TX2 5).1 (TX2 5).2.1 (TX2 5).2.2.1 ∈ wsX5_learnRate := by decide +kernel
theorem lkX5_learnRate_36 : Cond.fieldLink yX5_learnRate.cls 36 (TX5 12).1 (TX5 12).2.1 (TX5 12).2.2.1 ∈ wsX5_learnRate := by decide +kernel
theorem lkX5_learnRate_21 : Cond.fieldLink yX5_learnRate.cls 21 (TX5 1).1 (TX5 1).2.1 (TX5 1).2.2.1 ∈ wsX5_learnRate := by decide +kernel
def wX5_learnRate_48 (N : Nat) (a : jSS) (b : jGS)  (post : jSS → jGS → Prop) : Prop := wX4_greatestOfAll N a (fun r_14 a_15 => ∀ a_16 : jSS, a_16 = aP a_15 0 12 r_14 → post a_16 b)
set_option maxHeartbeats 4000000 in
set_option maxRecDepth 100000 in
theorem kX5_learnRate_48 {p : Program} {l : Launch} {e : Env} {s : State} {m : MethodId} {args : Array Value} {below : List Frame} {meth : Method} {c : Code} {D : va_G} {cI cJ cZ cO : ClassId} {f : Nat → Nat} {h : Nat → Nat} {Y : va_W} {A : Nat → Prop} {N : Nat} {post : jSS → jGS → Prop} (C : jC p s m args meth c cX5_learnRate 4 yX5_learnRate.cls wsX5_learnRate D (jT cI cJ cZ cO) A) (hr : meth.sig.returnType = none) (hG : gz A s) (a : jSS) (b : jGS)  (hw : wX5_learnRate_48 N a b post) : jJ p l e rmX5_learnRate s m args below meth c 0 0 (MQ below (va_Qv (fun (u : jSS × jGS) => post u.1 u.2) (jE D (jT cI cJ cZ cO) A (bF f h cI cO Y)) A) args s 0 0 A) D A 4 (acells f cI cO (bY h cO Y b) a) [(0, .ref (f 0))] 48 [] := by
  unfold wX5_learnRate_48 at hw
  refine j_aload_n (pc := 48) C dX5_learnRate_48 0 rfl rfl ?_
  refine j_aload_n (pc := 49) C dX5_learnRate_49 0 rfl rfl ?_
  refine j_get (ref := RX5) (pc := 50) C hiX5_learnRate_X5 0 (c_at0 f cI cO (bY h cO Y b) a) rfl 1 (by decide) lkX5_learnRate_21 (c_fl0_1 f a) dX5_learnRate_50 ?_
  refine j_calli0 (pc := 53) C gz_ok hG 0 (mX4_greatestOfAll hw) gX5_learnRate_X4_greatestOfAll rfl rfl rfl (by decide +kernel) ⟨Nat.le_of_ble_eq_true rfl, Nat.le_of_ble_eq_true rfl⟩ 2 (c_at2 f cI cO (bY h cO Y b) a) rfl rfl rfl (Nat.le_of_ble_eq_true rfl) dX5_learnRate_53 ⟨Nat.le_refl _, Nat.le_refl _⟩ (fun r_14 a_15 hw => ?_)
  refine j_put (pc := 56) C hiX5_learnRate_X5 tyX5 tyX5_ok nmX5 0 (c_at0 f cI cO (bY h cO Y b) a_15) rfl 12 (by decide) lkX5_learnRate_36 rfl rfl rfl (Nat.le_of_ble_eq_true rfl) dX5_learnRate_56 (j_ws (c_s0_12 f cI cO (bY h cO Y b) a_15 r_14) ?_)
  refine j_nmA (fun a_16 ea_16 => ?_)
  have hw := hw a_16 ea_16
  exact j_vret (pc := 59) C hr (a_16, b) rfl hw dX5_learnRate_59
def wX5_learnRate_40 (N : Nat) (a : jSS) (b : jGS) (x3 : Int32) (post : jSS → jGS → Prop) : Prop := wX4_keep N a x3 (fun a_18 => wX5_learnRate_48 N a_18 b post)
set_option maxHeartbeats 4000000 in
set_option maxRecDepth 100000 in
theorem kX5_learnRate_40 {p : Program} {l : Launch} {e : Env} {s : State} {m : MethodId} {args : Array Value} {below : List Frame} {meth : Method} {c : Code} {D : va_G} {cI cJ cZ cO : ClassId} {f : Nat → Nat} {h : Nat → Nat} {Y : va_W} {A : Nat → Prop} {N : Nat} {post : jSS → jGS → Prop} (C : jC p s m args meth c cX5_learnRate 4 yX5_learnRate.cls wsX5_learnRate D (jT cI cJ cZ cO) A) (hr : meth.sig.returnType = none) (hG : gz A s) (a : jSS) (b : jGS) (x3 : Int32) (hw : wX5_learnRate_40 N a b x3 post) : jJ p l e rmX5_learnRate s m args below meth c 0 0 (MQ below (va_Qv (fun (u : jSS × jGS) => post u.1 u.2) (jE D (jT cI cJ cZ cO) A (bF f h cI cO Y)) A) args s 0 0 A) D A 4 (acells f cI cO (bY h cO Y b) a) [(0, .ref (f 0)), (3, .int x3)] 40 [] := by
  unfold wX5_learnRate_40 at hw
  refine j_aload_n (pc := 40) C dX5_learnRate_40 0 rfl rfl ?_
  refine j_get (ref := RX5) (pc := 41) C hiX5_learnRate_X5 0 (c_at0 f cI cO (bY h cO Y b) a) rfl 1 (by decide) lkX5_learnRate_21 (c_fl0_1 f a) dX5_learnRate_41 ?_
  refine j_iload_n (pc := 44) C dX5_learnRate_44 1 rfl rfl ?_
  refine j_callv0 (pc := 45) C gz_ok hG 1 (mX4_keep hw) gX5_learnRate_X4_keep rfl rfl rfl (by decide +kernel) ⟨Nat.le_of_ble_eq_true rfl, Nat.le_of_ble_eq_true rfl⟩ 2 (c_at2 f cI cO (bY h cO Y b) a) rfl rfl rfl (Nat.le_of_ble_eq_true rfl) dX5_learnRate_45 ⟨Nat.le_refl _, Nat.le_refl _⟩ (fun a_18 hw => ?_)
  refine j_sub [0] rfl ?_
  exact kX5_learnRate_48 C hr hG _ _ hw
def wX5_learnRate (N : Nat) (a : jSS) (b : jGS) (x1 : Nat) (x2 : Int32) (post : jSS → jGS → Prop) : Prop := x1 ∈ gLP b ∧ x1 ∈ gLP b ∧ ∀ m_21 : Int32, m_21 = jmax 1 (x2 - (gF b x1 4)) → (¬ m_21 = 0) ∧ ∀ x3_23 : Int32, x3_23 = (1000 * ((a.1 0 7) - (gF b x1 3))) / m_21 → x1 ∈ gLP b ∧ (((gF b x1 5) = 0) → (wX5_learnRate_40 N a b x3_23 post)) ∧ ((¬ (gF b x1 5) = 0) → (((x3_23 < (a.1 0 12)) → (wX5_learnRate_48 N a b post)) ∧ ((¬ x3_23 < (a.1 0 12)) → (wX5_learnRate_40 N a b x3_23 post))))
set_option maxHeartbeats 4000000 in
set_option maxRecDepth 100000 in
theorem mX5_learnRate {l : Launch} {D : va_G} {cI cJ cZ cO : ClassId} {f : Nat → Nat} {h : Nat → Nat} {Y : va_W} {N : Nat} {a : jSS} {b : jGS} {x1 : Nat} {x2 : Int32} {post : jSS → jGS → Prop} (hw : wX5_learnRate N a b x1 x2 post) : jMv l D (jT cI cJ cZ cO) gz yX5_learnRate wsX5_learnRate rmX5_learnRate [.ref (f 0), .ref x1, .int x2] (acells f cI cO (bY h cO Y b) a) (fun (u : jSS × jGS) => post u.1 u.2) (bF f h cI cO Y) 0 0 := by
  refine j_ofv (cc := cX5_learnRate) (maxL := 4) (ret := none) (by decide) rfl (Nat.le_of_ble_eq_true rfl) ?_
  intro p e s m args below meth c A C hr hnm hG
  refine j_sub (lv' := [(0, .ref (f 0)), (1, .ref x1), (2, .int x2)]) [0, 1, 2] rfl ?_
  unfold wX5_learnRate at hw
  refine j_sipush (pc := 0) (v := 1000) C dX5_learnRate_0 (by decide) ?_
  refine j_aload_n (pc := 3) C dX5_learnRate_3 0 rfl rfl ?_
  refine j_get (ref := RX5) (pc := 4) C hiX5_learnRate_X5 0 (c_at0 f cI cO (bY h cO Y b) a) rfl 7 (by decide) lkX5_learnRate_78 (c_fl0_7 f a) dX5_learnRate_4 ?_
  refine j_aload_n (pc := 7) C dX5_learnRate_7 1 rfl rfl ?_
  obtain ⟨h_19, hw⟩ := hw
  refine j_getL (pc := 8) C h_19 hiX5_learnRate_X2 3 (by decide) lkX5_learnRate_110 (c_flL_3 b x1) dX5_learnRate_8 ?_
  refine j_isub (pc := 11) C dX5_learnRate_11 ?_
  refine j_imul (pc := 12) C dX5_learnRate_12 ?_
  refine j_iconst (pc := 13) (v := 1) C dX5_learnRate_13 (by decide) ?_
  refine j_iload_n (pc := 14) C dX5_learnRate_14 2 rfl rfl ?_
  refine j_aload_n (pc := 15) C dX5_learnRate_15 1 rfl rfl ?_
  obtain ⟨h_20, hw⟩ := hw
  refine j_getL (pc := 16) C h_20 hiX5_learnRate_X2 4 (by decide) lkX5_learnRate_111 (c_flL_4 b x1) dX5_learnRate_16 ?_
  refine j_isub (pc := 19) C dX5_learnRate_19 ?_
  refine j_mmax (pc := 20) C ⟨by decide +kernel, by decide +kernel, by decide +kernel, by decide +kernel⟩ ⟨Nat.le_of_ble_eq_true rfl, Nat.le_of_ble_eq_true rfl⟩ ⟨Nat.le_refl _, Nat.le_refl _⟩ dX5_learnRate_20 ?_
  refine j_topi (fun m_21 em_21 => ?_)
  have hw := hw m_21 em_21
  obtain ⟨h_22, hw⟩ := hw
  refine j_idiv (pc := 23) C dX5_learnRate_23 h_22 ?_
  refine j_topi (fun x3_23 ex3_23 => ?_)
  have hw := hw x3_23 ex3_23
  refine j_istore_n (pc := 24) (lv' := [(0, .ref (f 0)), (1, .ref x1), (2, .int x2), (3, .int x3_23)]) C [1, 2, 3, 0] dX5_learnRate_24 rfl (by decide) rfl ?_
  refine j_aload_n (pc := 25) C dX5_learnRate_25 1 rfl rfl ?_
  obtain ⟨h_24, hw⟩ := hw
  refine j_getL (pc := 26) C h_24 hiX5_learnRate_X2 5 (by decide) lkX5_learnRate_112 (c_flL_5 b x1) dX5_learnRate_26 ?_
  refine j_if_eq (pc := 29) C 40 dX5_learnRate_29 (by decide) (fun z_25 => ?_) (fun z_25 => ?_)
  · have hw := hw.1 z_25
    refine j_sub [0, 3] rfl ?_
    exact kX5_learnRate_40 C hr hG _ _ _ hw
  · have hw := hw.2 z_25
    refine j_iload_n (pc := 32) C dX5_learnRate_32 3 rfl rfl ?_
    refine j_aload_n (pc := 33) C dX5_learnRate_33 0 rfl rfl ?_
    refine j_get (ref := RX5) (pc := 34) C hiX5_learnRate_X5 0 (c_at0 f cI cO (bY h cO Y b) a) rfl 12 (by decide) lkX5_learnRate_36 (c_fl0_12 f a) dX5_learnRate_34 ?_
    refine j_icmp_lt (pc := 37) C 48 dX5_learnRate_37 (by decide) (fun z_26 => ?_) (fun z_26 => ?_)
    · have hw := hw.1 z_26
      refine j_sub [0] rfl ?_
      exact kX5_learnRate_48 C hr hG _ _ hw
    · have hw := hw.2 z_26
      refine j_sub [0, 3] rfl ?_
      exact kX5_learnRate_40 C hr hG _ _ _ hw

def rmX5_take : Room := { frames := 4, cells := 0, slots := 0, locals := 92 }
theorem hiX5_take_X5 : ∀ w ∈ u_ws RX5 TX5 16, w ∈ wsX5_take := by decide +kernel
theorem hiX5_take_X2 : ∀ w ∈ u_ws RX2 TX2 8, w ∈ wsX5_take := by decide +kernel
theorem lkX5_take_78 : Cond.fieldLink yX5_take.cls 78 (TX5 7).1 (TX5 7).2.1 (TX5 7).2.2.1 ∈ wsX5_take := by decide +kernel
theorem lkX5_take_98 : Cond.fieldLink yX5_take.cls 98 (TX5 8).1 (TX5 8).2.1 (TX5 8).2.2.1 ∈ wsX5_take := by decide +kernel
theorem lkX5_take_87 : Cond.fieldLink yX5_take.cls 87 (TX5 9).1 (TX5 9).2.1 (TX5 9).2.2.1 ∈ wsX5_take := by decide +kernel
theorem lkX5_take_110 : Cond.fieldLink yX5_take.cls 110 (TX2 3).1 (TX2 3).2.1 (TX2 3).2.2.1 ∈ wsX5_take := by decide +kernel
theorem lkX5_take_154 : Cond.fieldLink yX5_take.cls 154 (TX5 11).1 (TX5 11).2.1 (TX5 11).2.2.1 ∈ wsX5_take := by decide +kernel
theorem lkX5_take_157 : Cond.fieldLink yX5_take.cls 157 (TX5 10).1 (TX5 10).2.1 (TX5 10).2.2.1 ∈ wsX5_take := by decide +kernel
theorem lkX5_take_21 : Cond.fieldLink yX5_take.cls 21 (TX5 1).1 (TX5 1).2.1 (TX5 1).2.2.1 ∈ wsX5_take := by decide +kernel
theorem lkX5_take_32 : Cond.fieldLink yX5_take.cls 32 (TX5 13).1 (TX5 13).2.1 (TX5 13).2.2.1 ∈ wsX5_take := by decide +kernel
theorem lkX5_take_166 : Cond.fieldLink yX5_take.cls 166 (TX5 14).1 (TX5 14).2.1 (TX5 14).2.2.1 ∈ wsX5_take := by decide +kernel
theorem lkX5_take_109 : Cond.fieldLink yX5_take.cls 109 (TX2 2).1 (TX2 2).2.1 (TX2 2).2.2.1 ∈ wsX5_take := by decide +kernel
theorem lkX5_take_28 : Cond.fieldLink yX5_take.cls 28 (TX5 2).1 (TX5 2).2.1 (TX5 2).2.2.1 ∈ wsX5_take := by decide +kernel
theorem lkX5_take_112 : Cond.fieldLink yX5_take.cls 112 (TX2 5).1 (TX2 5).2.1 (TX2 5).2.2.1 ∈ wsX5_take := by decide +kernel
def wX5_take_182 (N : Nat) (a : jSS) (b : jGS) (x4 : Int32) (y0 : Int32) (y1 : Int32) (post : jSS → jGS → Prop) : Prop := wX0_follow N a y1 y0 x4 (fun a_34 => post a_34 b)
set_option maxHeartbeats 4000000 in
set_option maxRecDepth 100000 in
theorem kX5_take_182 {p : Program} {l : Launch} {e : Env} {s : State} {m : MethodId} {args : Array Value} {below : List Frame} {meth : Method} {c : Code} {D : va_G} {cI cJ cZ cO : ClassId} {f : Nat → Nat} {h : Nat → Nat} {Y : va_W} {A : Nat → Prop} {N : Nat} {post : jSS → jGS → Prop} (C : jC p s m args meth c cX5_take 6 yX5_take.cls wsX5_take D (jT cI cJ cZ cO) A) (hr : meth.sig.returnType = none) (hG : gz A s) (a : jSS) (b : jGS) (x4 : Int32) (y0 : Int32) (y1 : Int32) (hw : wX5_take_182 N a b x4 y0 y1 post) : jJ p l e rmX5_take s m args below meth c 0 0 (MQ below (va_Qv (fun (u : jSS × jGS) => post u.1 u.2) (jE D (jT cI cJ cZ cO) A (bF f h cI cO Y)) A) args s 0 0 A) D A 6 (acells f cI cO (bY h cO Y b) a) [(4, .int x4)] 182 [.int y0, .int y1, .ref (f 0), .ref (f 3)] := by
  unfold wX5_take_182 at hw
  refine j_iload (pc := 182) C dX5_take_182 0 rfl ?_
  refine j_callv0 (pc := 184) C gz_ok hG 4 (mX0_follow hw) gX5_take_X0_follow rfl rfl rfl (by decide +kernel) ⟨Nat.le_of_ble_eq_true rfl, Nat.le_of_ble_eq_true rfl⟩ 3 (c_at3 f cI cO (bY h cO Y b) a) rfl rfl rfl (Nat.le_of_ble_eq_true rfl) dX5_take_184 ⟨Nat.le_refl _, Nat.le_refl _⟩ (fun a_34 hw => ?_)
  exact j_vret (pc := 187) C hr (a_34, b) rfl hw dX5_take_187
def wX5_take_181 (N : Nat) (a : jSS) (b : jGS) (x4 : Int32) (y0 : Int32) (post : jSS → jGS → Prop) : Prop := wX5_take_182 N a b x4 0 y0 post
set_option maxHeartbeats 4000000 in
set_option maxRecDepth 100000 in
theorem kX5_take_181 {p : Program} {l : Launch} {e : Env} {s : State} {m : MethodId} {args : Array Value} {below : List Frame} {meth : Method} {c : Code} {D : va_G} {cI cJ cZ cO : ClassId} {f : Nat → Nat} {h : Nat → Nat} {Y : va_W} {A : Nat → Prop} {N : Nat} {post : jSS → jGS → Prop} (C : jC p s m args meth c cX5_take 6 yX5_take.cls wsX5_take D (jT cI cJ cZ cO) A) (hr : meth.sig.returnType = none) (hG : gz A s) (a : jSS) (b : jGS) (x4 : Int32) (y0 : Int32) (hw : wX5_take_181 N a b x4 y0 post) : jJ p l e rmX5_take s m args below meth c 0 0 (MQ below (va_Qv (fun (u : jSS × jGS) => post u.1 u.2) (jE D (jT cI cJ cZ cO) A (bF f h cI cO Y)) A) args s 0 0 A) D A 6 (acells f cI cO (bY h cO Y b) a) [(4, .int x4)] 181 [.int y0, .ref (f 0), .ref (f 3)] := by
  unfold wX5_take_181 at hw
  refine j_iconst (pc := 181) (v := 0) C dX5_take_181 (by decide) ?_
  exact kX5_take_182 C hr hG _ _ _ _ _ hw
def wX5_take_160 (N : Nat) (a : jSS) (b : jGS) (x1 : Nat) (x2 : Int32) (x3 : Int32) (x4 : Int32) (post : jSS → jGS → Prop) : Prop := ((x3 = 0) → (wX5_take_181 N a b x4 x2 post)) ∧ ((¬ x3 = 0) → (x1 ∈ gLP b ∧ ((¬ (gF b x1 5) = 0) → (wX5_take_181 N a b x4 x2 post)) ∧ (((gF b x1 5) = 0) → (wX5_take_182 N a b x4 1 x2 post))))
set_option maxHeartbeats 4000000 in
set_option maxRecDepth 100000 in
theorem kX5_take_160 {p : Program} {l : Launch} {e : Env} {s : State} {m : MethodId} {args : Array Value} {below : List Frame} {meth : Method} {c : Code} {D : va_G} {cI cJ cZ cO : ClassId} {f : Nat → Nat} {h : Nat → Nat} {Y : va_W} {A : Nat → Prop} {N : Nat} {post : jSS → jGS → Prop} (C : jC p s m args meth c cX5_take 6 yX5_take.cls wsX5_take D (jT cI cJ cZ cO) A) (hr : meth.sig.returnType = none) (hG : gz A s) (a : jSS) (b : jGS) (x1 : Nat) (x2 : Int32) (x3 : Int32) (x4 : Int32) (hw : wX5_take_160 N a b x1 x2 x3 x4 post) : jJ p l e rmX5_take s m args below meth c 0 0 (MQ below (va_Qv (fun (u : jSS × jGS) => post u.1 u.2) (jE D (jT cI cJ cZ cO) A (bF f h cI cO Y)) A) args s 0 0 A) D A 6 (acells f cI cO (bY h cO Y b) a) [(0, .ref (f 0)), (1, .ref x1), (2, .int x2), (3, .int x3), (4, .int x4)] 160 [] := by
  unfold wX5_take_160 at hw
  refine j_aload_n (pc := 160) C dX5_take_160 0 rfl rfl ?_
  refine j_get (ref := RX5) (pc := 161) C hiX5_take_X5 0 (c_at0 f cI cO (bY h cO Y b) a) rfl 2 (by decide) lkX5_take_28 (c_fl0_2 f a) dX5_take_161 ?_
  refine j_aload_n (pc := 164) C dX5_take_164 0 rfl rfl ?_
  refine j_iload_n (pc := 165) C dX5_take_165 2 rfl rfl ?_
  refine j_iload_n (pc := 166) C dX5_take_166 3 rfl rfl ?_
  refine j_if_eq (pc := 167) C 181 dX5_take_167 (by decide) (fun z_35 => ?_) (fun z_35 => ?_)
  · have hw := hw.1 z_35
    refine j_sub [4] rfl ?_
    exact kX5_take_181 C hr hG _ _ _ _ hw
  · have hw := hw.2 z_35
    refine j_aload_n (pc := 170) C dX5_take_170 1 rfl rfl ?_
    obtain ⟨h_36, hw⟩ := hw
    refine j_getL (pc := 171) C h_36 hiX5_take_X2 5 (by decide) lkX5_take_112 (c_flL_5 b x1) dX5_take_171 ?_
    refine j_if_ne (pc := 174) C 181 dX5_take_174 (by decide) (fun z_37 => ?_) (fun z_37 => ?_)
    · have hw := hw.1 z_37
      refine j_sub [4] rfl ?_
      exact kX5_take_181 C hr hG _ _ _ _ hw
    · have hw := hw.2 z_37
      refine j_iconst (pc := 177) (v := 1) C dX5_take_177 (by decide) ?_
      refine j_goto (pc := 178) C 182 dX5_take_178 (by decide) ?_
      refine j_sub [4] rfl ?_
      exact kX5_take_182 C hr hG _ _ _ _ _ hw
def wX5_take_149 (N : Nat) (a : jSS) (b : jGS) (x1 : Nat) (x2 : Int32) (x3 : Int32) (x4 : Int32) (x5 : Int32) (post : jSS → jGS → Prop) : Prop := ∀ a_38 : jSS, a_38 = aP a 0 13 x5 → ∀ a_39 : jSS, a_39 = aP a_38 0 14 x2 → wX5_take_160 N a_39 b x1 x2 x3 x4 post
set_option maxHeartbeats 4000000 in
set_option maxRecDepth 100000 in
theorem kX5_take_149 {p : Program} {l : Launch} {e : Env} {s : State} {m : MethodId} {args : Array Value} {below : List Frame} {meth : Method} {c : Code} {D : va_G} {cI cJ cZ cO : ClassId} {f : Nat → Nat} {h : Nat → Nat} {Y : va_W} {A : Nat → Prop} {N : Nat} {post : jSS → jGS → Prop} (C : jC p s m args meth c cX5_take 6 yX5_take.cls wsX5_take D (jT cI cJ cZ cO) A) (hr : meth.sig.returnType = none) (hG : gz A s) (a : jSS) (b : jGS) (x1 : Nat) (x2 : Int32) (x3 : Int32) (x4 : Int32) (x5 : Int32) (hw : wX5_take_149 N a b x1 x2 x3 x4 x5 post) : jJ p l e rmX5_take s m args below meth c 0 0 (MQ below (va_Qv (fun (u : jSS × jGS) => post u.1 u.2) (jE D (jT cI cJ cZ cO) A (bF f h cI cO Y)) A) args s 0 0 A) D A 6 (acells f cI cO (bY h cO Y b) a) [(0, .ref (f 0)), (1, .ref x1), (2, .int x2), (3, .int x3), (4, .int x4), (5, .int x5)] 149 [] := by
  unfold wX5_take_149 at hw
  refine j_aload_n (pc := 149) C dX5_take_149 0 rfl rfl ?_
  refine j_iload (pc := 150) C dX5_take_150 5 rfl ?_
  refine j_put (pc := 152) C hiX5_take_X5 tyX5 tyX5_ok nmX5 0 (c_at0 f cI cO (bY h cO Y b) a) rfl 13 (by decide) lkX5_take_32 rfl rfl rfl (Nat.le_of_ble_eq_true rfl) dX5_take_152 (j_ws (c_s0_13 f cI cO (bY h cO Y b) a x5) ?_)
  refine j_nmA (fun a_38 ea_38 => ?_)
  have hw := hw a_38 ea_38
  refine j_aload_n (pc := 155) C dX5_take_155 0 rfl rfl ?_
  refine j_iload_n (pc := 156) C dX5_take_156 2 rfl rfl ?_
  refine j_put (pc := 157) C hiX5_take_X5 tyX5 tyX5_ok nmX5 0 (c_at0 f cI cO (bY h cO Y b) a_38) rfl 14 (by decide) lkX5_take_166 rfl rfl rfl (Nat.le_of_ble_eq_true rfl) dX5_take_157 (j_ws (c_s0_14 f cI cO (bY h cO Y b) a_38 x2) ?_)
  refine j_nmA (fun a_39 ea_39 => ?_)
  have hw := hw a_39 ea_39
  refine j_sub [0, 1, 2, 3, 4] rfl ?_
  exact kX5_take_160 C hr hG _ _ _ _ _ _ hw
def wX5_take_116 (N : Nat) (a : jSS) (b : jGS) (x1 : Nat) (x2 : Int32) (x3 : Int32) (y0 : Int32) (post : jSS → jGS → Prop) : Prop := x1 ∈ gLP b ∧ ∀ x5_41 : Int32, x5_41 = x2 - (gF b x1 2) → (((a.1 0 13) = ((-9))) → (wX5_take_149 N a b x1 x2 x3 y0 x5_41 post)) ∧ ((¬ (a.1 0 13) = ((-9))) → (((¬ y0 = 0) → (wX5_take_149 N a b x1 x2 x3 y0 x5_41 post)) ∧ ((y0 = 0) → ((((a.1 0 13) < x5_41) → (wX5_take_160 N a b x1 x2 x3 y0 post)) ∧ ((¬ (a.1 0 13) < x5_41) → (wX5_take_149 N a b x1 x2 x3 y0 x5_41 post))))))
set_option maxHeartbeats 4000000 in
set_option maxRecDepth 100000 in
theorem kX5_take_116 {p : Program} {l : Launch} {e : Env} {s : State} {m : MethodId} {args : Array Value} {below : List Frame} {meth : Method} {c : Code} {D : va_G} {cI cJ cZ cO : ClassId} {f : Nat → Nat} {h : Nat → Nat} {Y : va_W} {A : Nat → Prop} {N : Nat} {post : jSS → jGS → Prop} (C : jC p s m args meth c cX5_take 6 yX5_take.cls wsX5_take D (jT cI cJ cZ cO) A) (hr : meth.sig.returnType = none) (hG : gz A s) (a : jSS) (b : jGS) (x1 : Nat) (x2 : Int32) (x3 : Int32) (y0 : Int32) (hw : wX5_take_116 N a b x1 x2 x3 y0 post) : jJ p l e rmX5_take s m args below meth c 0 0 (MQ below (va_Qv (fun (u : jSS × jGS) => post u.1 u.2) (jE D (jT cI cJ cZ cO) A (bF f h cI cO Y)) A) args s 0 0 A) D A 6 (acells f cI cO (bY h cO Y b) a) [(0, .ref (f 0)), (1, .ref x1), (2, .int x2), (3, .int x3)] 116 [.int y0] := by
  unfold wX5_take_116 at hw
  refine j_istore (pc := 116) (lv' := [(0, .ref (f 0)), (1, .ref x1), (2, .int x2), (3, .int x3), (4, .int y0)]) C [1, 2, 3, 4, 0] dX5_take_116 (by decide) rfl ?_
  refine j_iload_n (pc := 118) C dX5_take_118 2 rfl rfl ?_
  refine j_aload_n (pc := 119) C dX5_take_119 1 rfl rfl ?_
  obtain ⟨h_40, hw⟩ := hw
  refine j_getL (pc := 120) C h_40 hiX5_take_X2 2 (by decide) lkX5_take_109 (c_flL_2 b x1) dX5_take_120 ?_
  refine j_isub (pc := 123) C dX5_take_123 ?_
  refine j_topi (fun x5_41 ex5_41 => ?_)
  have hw := hw x5_41 ex5_41
  refine j_istore (pc := 124) (lv' := [(0, .ref (f 0)), (1, .ref x1), (2, .int x2), (3, .int x3), (4, .int y0), (5, .int x5_41)]) C [1, 2, 3, 4, 5, 0] dX5_take_124 (by decide) rfl ?_
  refine j_aload_n (pc := 126) C dX5_take_126 0 rfl rfl ?_
  refine j_get (ref := RX5) (pc := 127) C hiX5_take_X5 0 (c_at0 f cI cO (bY h cO Y b) a) rfl 13 (by decide) lkX5_take_32 (c_fl0_13 f a) dX5_take_127 ?_
  refine j_bipush (pc := 130) (v := (-9)) C dX5_take_130 (by decide) ?_
  refine j_icmp_eq (pc := 132) C 149 dX5_take_132 (by decide) (fun z_42 => ?_) (fun z_42 => ?_)
  · have hw := hw.1 z_42
    exact kX5_take_149 C hr hG _ _ _ _ _ _ _ hw
  · have hw := hw.2 z_42
    refine j_iload (pc := 135) C dX5_take_135 4 rfl ?_
    refine j_if_ne (pc := 137) C 149 dX5_take_137 (by decide) (fun z_43 => ?_) (fun z_43 => ?_)
    · have hw := hw.1 z_43
      exact kX5_take_149 C hr hG _ _ _ _ _ _ _ hw
    · have hw := hw.2 z_43
      refine j_iload (pc := 140) C dX5_take_140 5 rfl ?_
      refine j_aload_n (pc := 142) C dX5_take_142 0 rfl rfl ?_
      refine j_get (ref := RX5) (pc := 143) C hiX5_take_X5 0 (c_at0 f cI cO (bY h cO Y b) a) rfl 13 (by decide) lkX5_take_32 (c_fl0_13 f a) dX5_take_143 ?_
      refine j_icmp_gt (pc := 146) C 160 dX5_take_146 (by decide) (fun z_44 => ?_) (fun z_44 => ?_)
      · have hw := hw.1 z_44
        refine j_sub [0, 1, 2, 3, 4] rfl ?_
        exact kX5_take_160 C hr hG _ _ _ _ _ _ hw
      · have hw := hw.2 z_44
        exact kX5_take_149 C hr hG _ _ _ _ _ _ _ hw
def wX5_take_115 (N : Nat) (a : jSS) (b : jGS) (x1 : Nat) (x2 : Int32) (x3 : Int32) (post : jSS → jGS → Prop) : Prop := wX5_take_116 N a b x1 x2 x3 0 post
set_option maxHeartbeats 4000000 in
set_option maxRecDepth 100000 in
theorem kX5_take_115 {p : Program} {l : Launch} {e : Env} {s : State} {m : MethodId} {args : Array Value} {below : List Frame} {meth : Method} {c : Code} {D : va_G} {cI cJ cZ cO : ClassId} {f : Nat → Nat} {h : Nat → Nat} {Y : va_W} {A : Nat → Prop} {N : Nat} {post : jSS → jGS → Prop} (C : jC p s m args meth c cX5_take 6 yX5_take.cls wsX5_take D (jT cI cJ cZ cO) A) (hr : meth.sig.returnType = none) (hG : gz A s) (a : jSS) (b : jGS) (x1 : Nat) (x2 : Int32) (x3 : Int32) (hw : wX5_take_115 N a b x1 x2 x3 post) : jJ p l e rmX5_take s m args below meth c 0 0 (MQ below (va_Qv (fun (u : jSS × jGS) => post u.1 u.2) (jE D (jT cI cJ cZ cO) A (bF f h cI cO Y)) A) args s 0 0 A) D A 6 (acells f cI cO (bY h cO Y b) a) [(0, .ref (f 0)), (1, .ref x1), (2, .int x2), (3, .int x3)] 115 [] := by
  unfold wX5_take_115 at hw
  refine j_iconst (pc := 115) (v := 0) C dX5_take_115 (by decide) ?_
  exact kX5_take_116 C hr hG _ _ _ _ _ _ hw
def wX5_take_84 (N : Nat) (a : jSS) (b : jGS) (x1 : Nat) (x2 : Int32) (x3 : Int32) (post : jSS → jGS → Prop) : Prop := wX5_learnRate N a b x1 x2 (fun a_46 b_47 => (((a_46.1 0 13) = ((-9))) → (wX5_take_115 N a_46 b_47 x1 x2 x3 post)) ∧ ((¬ (a_46.1 0 13) = ((-9))) → ((((x2 - (a_46.1 0 14)) ≤ 1000) → (wX5_take_115 N a_46 b_47 x1 x2 x3 post)) ∧ ((¬ (x2 - (a_46.1 0 14)) ≤ 1000) → (wX5_take_116 N a_46 b_47 x1 x2 x3 1 post)))))
set_option maxHeartbeats 4000000 in
set_option maxRecDepth 100000 in
theorem kX5_take_84 {p : Program} {l : Launch} {e : Env} {s : State} {m : MethodId} {args : Array Value} {below : List Frame} {meth : Method} {c : Code} {D : va_G} {cI cJ cZ cO : ClassId} {f : Nat → Nat} {h : Nat → Nat} {Y : va_W} {A : Nat → Prop} {N : Nat} {post : jSS → jGS → Prop} (C : jC p s m args meth c cX5_take 6 yX5_take.cls wsX5_take D (jT cI cJ cZ cO) A) (hr : meth.sig.returnType = none) (hG : gz A s) (a : jSS) (b : jGS) (x1 : Nat) (x2 : Int32) (x3 : Int32) (hw : wX5_take_84 N a b x1 x2 x3 post) : jJ p l e rmX5_take s m args below meth c 0 0 (MQ below (va_Qv (fun (u : jSS × jGS) => post u.1 u.2) (jE D (jT cI cJ cZ cO) A (bF f h cI cO Y)) A) args s 0 0 A) D A 6 (acells f cI cO (bY h cO Y b) a) [(0, .ref (f 0)), (1, .ref x1), (2, .int x2), (3, .int x3)] 84 [] := by
  unfold wX5_take_84 at hw
  refine j_aload_n (pc := 84) C dX5_take_84 0 rfl rfl ?_
  refine j_aload_n (pc := 85) C dX5_take_85 1 rfl rfl ?_
  refine j_iload_n (pc := 86) C dX5_take_86 2 rfl rfl ?_
  refine j_callvB (pc := 87) C gz_ok hG 2 (mX5_learnRate hw) gX5_take_X5_learnRate rfl rfl rfl (by decide +kernel) ⟨Nat.le_of_ble_eq_true rfl, Nat.le_of_ble_eq_true rfl⟩ 0 (c_at0 f cI cO (bY h cO Y b) a) rfl rfl rfl (Nat.le_of_ble_eq_true rfl) dX5_take_87 ⟨Nat.le_refl _, Nat.le_refl _⟩ (fun a_46 b_47 hw => ?_)
  refine j_aload_n (pc := 90) C dX5_take_90 0 rfl rfl ?_
  refine j_get (ref := RX5) (pc := 91) C hiX5_take_X5 0 (c_at0 f cI cO (bY h cO Y b_47) a_46) rfl 13 (by decide) lkX5_take_32 (c_fl0_13 f a_46) dX5_take_91 ?_
  refine j_bipush (pc := 94) (v := (-9)) C dX5_take_94 (by decide) ?_
  refine j_icmp_eq (pc := 96) C 115 dX5_take_96 (by decide) (fun z_48 => ?_) (fun z_48 => ?_)
  · have hw := hw.1 z_48
    exact kX5_take_115 C hr hG _ _ _ _ _ hw
  · have hw := hw.2 z_48
    refine j_iload_n (pc := 99) C dX5_take_99 2 rfl rfl ?_
    refine j_aload_n (pc := 100) C dX5_take_100 0 rfl rfl ?_
    refine j_get (ref := RX5) (pc := 101) C hiX5_take_X5 0 (c_at0 f cI cO (bY h cO Y b_47) a_46) rfl 14 (by decide) lkX5_take_166 (c_fl0_14 f a_46) dX5_take_101 ?_
    refine j_isub (pc := 104) C dX5_take_104 ?_
    refine j_sipush (pc := 105) (v := 1000) C dX5_take_105 (by decide) ?_
    refine j_icmp_le (pc := 108) C 115 dX5_take_108 (by decide) (fun z_49 => ?_) (fun z_49 => ?_)
    · have hw := hw.1 z_49
      exact kX5_take_115 C hr hG _ _ _ _ _ hw
    · have hw := hw.2 z_49
      refine j_iconst (pc := 111) (v := 1) C dX5_take_111 (by decide) ?_
      refine j_goto (pc := 112) C 116 dX5_take_112 (by decide) ?_
      exact kX5_take_116 C hr hG _ _ _ _ _ _ hw
def wX5_take_54 (N : Nat) (a : jSS) (b : jGS) (x1 : Nat) (x2 : Int32) (y0 : Int32) (post : jSS → jGS → Prop) : Prop := ((y0 = 0) → (wX5_take_84 N a b x1 x2 y0 post)) ∧ ((¬ y0 = 0) → (∀ v_51 : Int32, v_51 = (a.1 0 10) + 1 → ∀ a_52 : jSS, a_52 = aP a 0 10 v_51 → ∀ v_53 : Int32, v_53 = a_52.1 0 7 → ∀ a_54 : jSS, a_54 = aP a_52 0 11 v_53 → wX4_beginRound N a_54 (fun a_56 => wX5_take_84 N a_56 b x1 x2 y0 post)))
set_option maxHeartbeats 4000000 in
set_option maxRecDepth 100000 in
theorem kX5_take_54 {p : Program} {l : Launch} {e : Env} {s : State} {m : MethodId} {args : Array Value} {below : List Frame} {meth : Method} {c : Code} {D : va_G} {cI cJ cZ cO : ClassId} {f : Nat → Nat} {h : Nat → Nat} {Y : va_W} {A : Nat → Prop} {N : Nat} {post : jSS → jGS → Prop} (C : jC p s m args meth c cX5_take 6 yX5_take.cls wsX5_take D (jT cI cJ cZ cO) A) (hr : meth.sig.returnType = none) (hG : gz A s) (a : jSS) (b : jGS) (x1 : Nat) (x2 : Int32) (y0 : Int32) (hw : wX5_take_54 N a b x1 x2 y0 post) : jJ p l e rmX5_take s m args below meth c 0 0 (MQ below (va_Qv (fun (u : jSS × jGS) => post u.1 u.2) (jE D (jT cI cJ cZ cO) A (bF f h cI cO Y)) A) args s 0 0 A) D A 6 (acells f cI cO (bY h cO Y b) a) [(0, .ref (f 0)), (1, .ref x1), (2, .int x2)] 54 [.int y0] := by
  unfold wX5_take_54 at hw
  refine j_istore_n (pc := 54) (lv' := [(0, .ref (f 0)), (1, .ref x1), (2, .int x2), (3, .int y0)]) C [1, 2, 3, 0] dX5_take_54 rfl (by decide) rfl ?_
  refine j_iload_n (pc := 55) C dX5_take_55 3 rfl rfl ?_
  refine j_if_eq (pc := 56) C 84 dX5_take_56 (by decide) (fun z_50 => ?_) (fun z_50 => ?_)
  · have hw := hw.1 z_50
    exact kX5_take_84 C hr hG _ _ _ _ _ hw
  · have hw := hw.2 z_50
    refine j_aload_n (pc := 59) C dX5_take_59 0 rfl rfl ?_
    refine j_dup (pc := 60) C dX5_take_60 rfl ?_
    refine j_get (ref := RX5) (pc := 61) C hiX5_take_X5 0 (c_at0 f cI cO (bY h cO Y b) a) rfl 10 (by decide) lkX5_take_157 (c_fl0_10 f a) dX5_take_61 ?_
    refine j_iconst (pc := 64) (v := 1) C dX5_take_64 (by decide) ?_
    refine j_iadd (pc := 65) C dX5_take_65 ?_
    refine j_topi (fun v_51 ev_51 => ?_)
    have hw := hw v_51 ev_51
    refine j_put (pc := 66) C hiX5_take_X5 tyX5 tyX5_ok nmX5 0 (c_at0 f cI cO (bY h cO Y b) a) rfl 10 (by decide) lkX5_take_157 rfl rfl rfl (Nat.le_of_ble_eq_true rfl) dX5_take_66 (j_ws (c_s0_10 f cI cO (bY h cO Y b) a v_51) ?_)
    refine j_nmA (fun a_52 ea_52 => ?_)
    have hw := hw a_52 ea_52
    refine j_aload_n (pc := 69) C dX5_take_69 0 rfl rfl ?_
    refine j_aload_n (pc := 70) C dX5_take_70 0 rfl rfl ?_
    refine j_get (ref := RX5) (pc := 71) C hiX5_take_X5 0 (c_at0 f cI cO (bY h cO Y b) a_52) rfl 7 (by decide) lkX5_take_78 (c_fl0_7 f a_52) dX5_take_71 ?_
    refine j_topi (fun v_53 ev_53 => ?_)
    have hw := hw v_53 ev_53
    refine j_put (pc := 74) C hiX5_take_X5 tyX5 tyX5_ok nmX5 0 (c_at0 f cI cO (bY h cO Y b) a_52) rfl 11 (by decide) lkX5_take_154 rfl rfl rfl (Nat.le_of_ble_eq_true rfl) dX5_take_74 (j_ws (c_s0_11 f cI cO (bY h cO Y b) a_52 v_53) ?_)
    refine j_nmA (fun a_54 ea_54 => ?_)
    have hw := hw a_54 ea_54
    refine j_aload_n (pc := 77) C dX5_take_77 0 rfl rfl ?_
    refine j_get (ref := RX5) (pc := 78) C hiX5_take_X5 0 (c_at0 f cI cO (bY h cO Y b) a_54) rfl 1 (by decide) lkX5_take_21 (c_fl0_1 f a_54) dX5_take_78 ?_
    refine j_callv0 (pc := 81) C gz_ok hG 0 (mX4_beginRound hw) gX5_take_X4_beginRound rfl rfl rfl (by decide +kernel) ⟨Nat.le_of_ble_eq_true rfl, Nat.le_of_ble_eq_true rfl⟩ 2 (c_at2 f cI cO (bY h cO Y b) a_54) rfl rfl rfl (Nat.le_of_ble_eq_true rfl) dX5_take_81 ⟨Nat.le_refl _, Nat.le_refl _⟩ (fun a_56 hw => ?_)
    exact kX5_take_84 C hr hG _ _ _ _ _ hw
def wX5_take_38 (N : Nat) (a : jSS) (b : jGS) (x1 : Nat) (x2 : Int32) (post : jSS → jGS → Prop) : Prop := x1 ∈ gLP b ∧ (((gF b x1 3) < (a.1 0 11)) → (wX5_take_54 N a b x1 x2 0 post)) ∧ ((¬ (gF b x1 3) < (a.1 0 11)) → (wX5_take_54 N a b x1 x2 1 post))
set_option maxHeartbeats 4000000 in
set_option maxRecDepth 100000 in
theorem kX5_take_38 {p : Program} {l : Launch} {e : Env} {s : State} {m : MethodId} {args : Array Value} {below : List Frame} {meth : Method} {c : Code} {D : va_G} {cI cJ cZ cO : ClassId} {f : Nat → Nat} {h : Nat → Nat} {Y : va_W} {A : Nat → Prop} {N : Nat} {post : jSS → jGS → Prop} (C : jC p s m args meth c cX5_take 6 yX5_take.cls wsX5_take D (jT cI cJ cZ cO) A) (hr : meth.sig.returnType = none) (hG : gz A s) (a : jSS) (b : jGS) (x1 : Nat) (x2 : Int32) (hw : wX5_take_38 N a b x1 x2 post) : jJ p l e rmX5_take s m args below meth c 0 0 (MQ below (va_Qv (fun (u : jSS × jGS) => post u.1 u.2) (jE D (jT cI cJ cZ cO) A (bF f h cI cO Y)) A) args s 0 0 A) D A 6 (acells f cI cO (bY h cO Y b) a) [(0, .ref (f 0)), (1, .ref x1), (2, .int x2)] 38 [] := by
  unfold wX5_take_38 at hw
  refine j_aload_n (pc := 38) C dX5_take_38 1 rfl rfl ?_
  obtain ⟨h_57, hw⟩ := hw
  refine j_getL (pc := 39) C h_57 hiX5_take_X2 3 (by decide) lkX5_take_110 (c_flL_3 b x1) dX5_take_39 ?_
  refine j_aload_n (pc := 42) C dX5_take_42 0 rfl rfl ?_
  refine j_get (ref := RX5) (pc := 43) C hiX5_take_X5 0 (c_at0 f cI cO (bY h cO Y b) a) rfl 11 (by decide) lkX5_take_154 (c_fl0_11 f a) dX5_take_43 ?_
  refine j_icmp_lt (pc := 46) C 53 dX5_take_46 (by decide) (fun z_58 => ?_) (fun z_58 => ?_)
  · have hw := hw.1 z_58
    refine j_iconst (pc := 53) (v := 0) C dX5_take_53 (by decide) ?_
    exact kX5_take_54 C hr hG _ _ _ _ _ hw
  · have hw := hw.2 z_58
    refine j_iconst (pc := 49) (v := 1) C dX5_take_49 (by decide) ?_
    refine j_goto (pc := 50) C 54 dX5_take_50 (by decide) ?_
    exact kX5_take_54 C hr hG _ _ _ _ _ hw
def wX5_take (N : Nat) (a : jSS) (b : jGS) (x1 : Nat) (x2 : Int32) (post : jSS → jGS → Prop) : Prop := ∀ v_59 : Int32, v_59 = (a.1 0 7) + 1 → ∀ a_60 : jSS, a_60 = aP a 0 7 v_59 → ∀ a_61 : jSS, a_61 = aP a_60 0 8 x2 → (((a_61.1 0 9) ≤ 0) → (wX5_take_38 N a_61 b x1 x2 post)) ∧ ((¬ (a_61.1 0 9) ≤ 0) → ((((a_61.1 0 7) ≤ (a_61.1 0 9)) → (wX5_take_38 N a_61 b x1 x2 post)) ∧ ((¬ (a_61.1 0 7) ≤ (a_61.1 0 9)) → (∀ a_64 : jSS, a_64 = aP a_61 0 9 0 → wX5_take_38 N a_64 b x1 x2 post))))
set_option maxHeartbeats 4000000 in
set_option maxRecDepth 100000 in
theorem mX5_take {l : Launch} {D : va_G} {cI cJ cZ cO : ClassId} {f : Nat → Nat} {h : Nat → Nat} {Y : va_W} {N : Nat} {a : jSS} {b : jGS} {x1 : Nat} {x2 : Int32} {post : jSS → jGS → Prop} (hw : wX5_take N a b x1 x2 post) : jMv l D (jT cI cJ cZ cO) gz yX5_take wsX5_take rmX5_take [.ref (f 0), .ref x1, .int x2] (acells f cI cO (bY h cO Y b) a) (fun (u : jSS × jGS) => post u.1 u.2) (bF f h cI cO Y) 0 0 := by
  refine j_ofv (cc := cX5_take) (maxL := 6) (ret := none) (by decide) rfl (Nat.le_of_ble_eq_true rfl) ?_
  intro p e s m args below meth c A C hr hnm hG
  refine j_sub (lv' := [(0, .ref (f 0)), (1, .ref x1), (2, .int x2)]) [0, 1, 2] rfl ?_
  unfold wX5_take at hw
  refine j_aload_n (pc := 0) C dX5_take_0 0 rfl rfl ?_
  refine j_dup (pc := 1) C dX5_take_1 rfl ?_
  refine j_get (ref := RX5) (pc := 2) C hiX5_take_X5 0 (c_at0 f cI cO (bY h cO Y b) a) rfl 7 (by decide) lkX5_take_78 (c_fl0_7 f a) dX5_take_2 ?_
  refine j_iconst (pc := 5) (v := 1) C dX5_take_5 (by decide) ?_
  refine j_iadd (pc := 6) C dX5_take_6 ?_
  refine j_topi (fun v_59 ev_59 => ?_)
  have hw := hw v_59 ev_59
  refine j_put (pc := 7) C hiX5_take_X5 tyX5 tyX5_ok nmX5 0 (c_at0 f cI cO (bY h cO Y b) a) rfl 7 (by decide) lkX5_take_78 rfl rfl rfl (Nat.le_of_ble_eq_true rfl) dX5_take_7 (j_ws (c_s0_7 f cI cO (bY h cO Y b) a v_59) ?_)
  refine j_nmA (fun a_60 ea_60 => ?_)
  have hw := hw a_60 ea_60
  refine j_aload_n (pc := 10) C dX5_take_10 0 rfl rfl ?_
  refine j_iload_n (pc := 11) C dX5_take_11 2 rfl rfl ?_
  refine j_put (pc := 12) C hiX5_take_X5 tyX5 tyX5_ok nmX5 0 (c_at0 f cI cO (bY h cO Y b) a_60) rfl 8 (by decide) lkX5_take_98 rfl rfl rfl (Nat.le_of_ble_eq_true rfl) dX5_take_12 (j_ws (c_s0_8 f cI cO (bY h cO Y b) a_60 x2) ?_)
  refine j_nmA (fun a_61 ea_61 => ?_)
  have hw := hw a_61 ea_61
  refine j_aload_n (pc := 15) C dX5_take_15 0 rfl rfl ?_
  refine j_get (ref := RX5) (pc := 16) C hiX5_take_X5 0 (c_at0 f cI cO (bY h cO Y b) a_61) rfl 9 (by decide) lkX5_take_87 (c_fl0_9 f a_61) dX5_take_16 ?_
  refine j_if_le (pc := 19) C 38 dX5_take_19 (by decide) (fun z_62 => ?_) (fun z_62 => ?_)
  · have hw := hw.1 z_62
    exact kX5_take_38 C hr hG _ _ _ _ hw
  · have hw := hw.2 z_62
    refine j_aload_n (pc := 22) C dX5_take_22 0 rfl rfl ?_
    refine j_get (ref := RX5) (pc := 23) C hiX5_take_X5 0 (c_at0 f cI cO (bY h cO Y b) a_61) rfl 7 (by decide) lkX5_take_78 (c_fl0_7 f a_61) dX5_take_23 ?_
    refine j_aload_n (pc := 26) C dX5_take_26 0 rfl rfl ?_
    refine j_get (ref := RX5) (pc := 27) C hiX5_take_X5 0 (c_at0 f cI cO (bY h cO Y b) a_61) rfl 9 (by decide) lkX5_take_87 (c_fl0_9 f a_61) dX5_take_27 ?_
    refine j_icmp_le (pc := 30) C 38 dX5_take_30 (by decide) (fun z_63 => ?_) (fun z_63 => ?_)
    · have hw := hw.1 z_63
      exact kX5_take_38 C hr hG _ _ _ _ hw
    · have hw := hw.2 z_63
      refine j_aload_n (pc := 33) C dX5_take_33 0 rfl rfl ?_
      refine j_iconst (pc := 34) (v := 0) C dX5_take_34 (by decide) ?_
      refine j_put (pc := 35) C hiX5_take_X5 tyX5 tyX5_ok nmX5 0 (c_at0 f cI cO (bY h cO Y b) a_61) rfl 9 (by decide) lkX5_take_87 rfl rfl rfl (Nat.le_of_ble_eq_true rfl) dX5_take_35 (j_ws (c_s0_9 f cI cO (bY h cO Y b) a_61 0) ?_)
      refine j_nmA (fun a_64 ea_64 => ?_)
      have hw := hw a_64 ea_64
      exact kX5_take_38 C hr hG _ _ _ _ hw

def rmX5_takeDue : Room := { frames := 5, cells := 0, slots := 0, locals := 117 }
theorem hiX5_takeDue_X5 : ∀ w ∈ u_ws RX5 TX5 16, w ∈ wsX5_takeDue := by decide +kernel
theorem hiX5_takeDue_X2 : ∀ w ∈ u_ws RX2 TX2 8, w ∈ wsX5_takeDue := by decide +kernel
theorem lkX5_takeDue_78 : Cond.fieldLink yX5_takeDue.cls 78 (TX5 7).1 (TX5 7).2.1 (TX5 7).2.2.1 ∈ wsX5_takeDue := by decide +kernel
theorem lkX5_takeDue_12 : Cond.fieldLink yX5_takeDue.cls 12 (TX5 0).1 (TX5 0).2.1 (TX5 0).2.2.1 ∈ wsX5_takeDue := by decide +kernel
theorem lkX5_takeDue_116 : Cond.fieldLink yX5_takeDue.cls 116 (TX2 6).1 (TX2 6).2.1 (TX2 6).2.2.1 ∈ wsX5_takeDue := by decide +kernel
theorem lkX5_takeDue_144 : Cond.fieldLink yX5_takeDue.cls 144 (TX2 7).1 (TX2 7).2.1 (TX2 7).2.2.1 ∈ wsX5_takeDue := by decide +kernel
def wX5_takeDue_74 (N : Nat) (a : jSS) (b : jGS) (x1 : Int32) (x2 : Int32) (x3 : Int32) (x4 : Int32) (K : jSS → jGS → Int32 → Int32 → Int32 → Int32 → Prop) (post : Int32 → jSS → jGS → Prop) : Prop := ∀ x4_19 : Int32, x4_19 = x4 + 1 → K a b x1 x2 x3 x4_19
set_option maxHeartbeats 4000000 in
set_option maxRecDepth 100000 in
theorem kX5_takeDue_74 {p : Program} {l : Launch} {e : Env} {s : State} {m : MethodId} {args : Array Value} {below : List Frame} {meth : Method} {c : Code} {D : va_G} {cI cJ cZ cO : ClassId} {f : Nat → Nat} {h : Nat → Nat} {Y : va_W} {A : Nat → Prop} {N : Nat} {post : Int32 → jSS → jGS → Prop} (C : jC p s m args meth c cX5_takeDue 6 yX5_takeDue.cls wsX5_takeDue D (jT cI cJ cZ cO) A) (hr : meth.sig.returnType = (some .int)) (hG : gz A s) (a : jSS) (b : jGS) (x1 : Int32) (x2 : Int32) (x3 : Int32) (x4 : Int32) (K : jSS → jGS → Int32 → Int32 → Int32 → Int32 → Prop) (hK : ∀ (a : jSS) (b : jGS) (x1 : Int32) (x2 : Int32) (x3 : Int32) (x4 : Int32), K a b x1 x2 x3 x4 → jJ p l e rmX5_takeDue s m args below meth c 0 0 (MQ below (va_Qi (fun r (u : jSS × jGS) => post r u.1 u.2) (jE D (jT cI cJ cZ cO) A (bF f h cI cO Y)) A) args s 0 0 A) D A 6 (acells f cI cO (bY h cO Y b) a) [(0, .ref (f 0)), (1, .int x1), (2, .int x2), (3, .int x3), (4, .int x4)] 10 []) (hw : wX5_takeDue_74 N a b x1 x2 x3 x4 K post) : jJ p l e rmX5_takeDue s m args below meth c 0 0 (MQ below (va_Qi (fun r (u : jSS × jGS) => post r u.1 u.2) (jE D (jT cI cJ cZ cO) A (bF f h cI cO Y)) A) args s 0 0 A) D A 6 (acells f cI cO (bY h cO Y b) a) [(0, .ref (f 0)), (1, .int x1), (2, .int x2), (3, .int x3), (4, .int x4)] 74 [] := by
  unfold wX5_takeDue_74 at hw
  obtain ⟨x4_19, ex4_19⟩ : ∃ y : Int32, y = x4 + 1 := ⟨_, rfl⟩
  have hw := hw x4_19 ex4_19
  refine j_iinc (pc := 74) (v := x4_19) (lv' := [(0, .ref (f 0)), (1, .int x1), (2, .int x2), (3, .int x3), (4, .int x4_19)]) C [1, 2, 3, 4, 0] 4 dX5_takeDue_74 rfl (by rw [ex4_19]; rfl) (by decide) rfl ?_
  refine j_goto (pc := 77) C 10 dX5_takeDue_77 (by decide) ?_
  exact hK _ _ _ _ _ _ hw
def wX5_takeDue_80 (N : Nat) (a : jSS) (b : jGS) (x2 : Int32) (post : Int32 → jSS → jGS → Prop) : Prop := post ((a.1 0 7) - x2) a b
set_option maxHeartbeats 4000000 in
set_option maxRecDepth 100000 in
theorem kX5_takeDue_80 {p : Program} {l : Launch} {e : Env} {s : State} {m : MethodId} {args : Array Value} {below : List Frame} {meth : Method} {c : Code} {D : va_G} {cI cJ cZ cO : ClassId} {f : Nat → Nat} {h : Nat → Nat} {Y : va_W} {A : Nat → Prop} {N : Nat} {post : Int32 → jSS → jGS → Prop} (C : jC p s m args meth c cX5_takeDue 6 yX5_takeDue.cls wsX5_takeDue D (jT cI cJ cZ cO) A) (hr : meth.sig.returnType = (some .int)) (hG : gz A s) (a : jSS) (b : jGS) (x2 : Int32) (hw : wX5_takeDue_80 N a b x2 post) : jJ p l e rmX5_takeDue s m args below meth c 0 0 (MQ below (va_Qi (fun r (u : jSS × jGS) => post r u.1 u.2) (jE D (jT cI cJ cZ cO) A (bF f h cI cO Y)) A) args s 0 0 A) D A 6 (acells f cI cO (bY h cO Y b) a) [(0, .ref (f 0)), (2, .int x2)] 80 [] := by
  unfold wX5_takeDue_80 at hw
  refine j_aload_n (pc := 80) C dX5_takeDue_80 0 rfl rfl ?_
  refine j_get (ref := RX5) (pc := 81) C hiX5_takeDue_X5 0 (c_at0 f cI cO (bY h cO Y b) a) rfl 7 (by decide) lkX5_takeDue_78 (c_fl0_7 f a) dX5_takeDue_81 ?_
  refine j_iload_n (pc := 84) C dX5_takeDue_84 1 rfl rfl ?_
  refine j_isub (pc := 85) C dX5_takeDue_85 ?_
  exact j_iret (pc := 86) C hr (a, b) rfl hw dX5_takeDue_86
def wX5_takeDue_10 (N : Nat) : Nat → jSS → jGS → Int32 → Int32 → Int32 → Int32 → (Int32 → jSS → jGS → Prop) → Prop
  | 0, _, _, _, _, _, _, _ => False
  | n + 1, a, b, x1, x2, x3, x4, post => ((261 ≤ x4) → (wX5_takeDue_80 N a b x2 post)) ∧ ((¬ 261 ≤ x4) → (wX3_at N a x3 (fun r_21 a_22 => ((r_21 = none) → (wX5_takeDue_80 N a_22 b x2 post)) ∧ (∀ q_24 : Nat, r_21 = some q_24 → (q_24 ∈ gLP b ∧ ((¬ (gF b q_24 6) = 0) → (q_24 ∈ gLP b ∧ ((¬ (gF b q_24 7) = x1) → (∀ x3_29 : Int32, x3_29 = x3 + 1 → wX5_takeDue_74 N a_22 b x1 x2 x3_29 x4 (fun z0 z1 x1 x2 x3 x4 => wX5_takeDue_10 N n z0 z1 x1 x2 x3 x4 post) post)) ∧ (((gF b q_24 7) = x1) → (wX3_remove N a_22 b x3 (fun a_31 b_32 => wX5_take N a_31 b_32 q_24 x1 (fun a_34 b_35 => wX5_takeDue_74 N a_34 b_35 x1 x2 x3 x4 (fun z0 z1 x1 x2 x3 x4 => wX5_takeDue_10 N n z0 z1 x1 x2 x3 x4 post) post)))))) ∧ (((gF b q_24 6) = 0) → (wX5_takeDue_80 N a_22 b x2 post)))))))
set_option maxHeartbeats 4000000 in
set_option maxRecDepth 100000 in
theorem kX5_takeDue_10 {p : Program} {l : Launch} {e : Env} {s : State} {m : MethodId} {args : Array Value} {below : List Frame} {meth : Method} {c : Code} {D : va_G} {cI cJ cZ cO : ClassId} {f : Nat → Nat} {h : Nat → Nat} {Y : va_W} {A : Nat → Prop} {N : Nat} {post : Int32 → jSS → jGS → Prop} (C : jC p s m args meth c cX5_takeDue 6 yX5_takeDue.cls wsX5_takeDue D (jT cI cJ cZ cO) A) (hr : meth.sig.returnType = (some .int)) (hG : gz A s) : ∀ (n : Nat) (a : jSS) (b : jGS) (x1 : Int32) (x2 : Int32) (x3 : Int32) (x4 : Int32), wX5_takeDue_10 N n a b x1 x2 x3 x4 post → jJ p l e rmX5_takeDue s m args below meth c 0 0 (MQ below (va_Qi (fun r (u : jSS × jGS) => post r u.1 u.2) (jE D (jT cI cJ cZ cO) A (bF f h cI cO Y)) A) args s 0 0 A) D A 6 (acells f cI cO (bY h cO Y b) a) [(0, .ref (f 0)), (1, .int x1), (2, .int x2), (3, .int x3), (4, .int x4)] 10 [] := by
  intro n
  induction n with
  | zero =>
    intro a b x1 x2 x3 x4 hw
    exact False.elim hw
  | succ n ih =>
    intro a b x1 x2 x3 x4 hw
    unfold wX5_takeDue_10 at hw
    refine j_iload (pc := 10) C dX5_takeDue_10 4 rfl ?_
    refine j_sipush (pc := 12) (v := 261) C dX5_takeDue_12 (by decide) ?_
    refine j_icmp_ge (pc := 15) C 80 dX5_takeDue_15 (by decide) (fun z_20 => ?_) (fun z_20 => ?_)
    · have hw := hw.1 z_20
      refine j_sub [0, 2] rfl ?_
      exact kX5_takeDue_80 C hr hG _ _ _ hw
    · have hw := hw.2 z_20
      refine j_aload_n (pc := 18) C dX5_takeDue_18 0 rfl rfl ?_
      refine j_get (ref := RX5) (pc := 19) C hiX5_takeDue_X5 0 (c_at0 f cI cO (bY h cO Y b) a) rfl 0 (by decide) lkX5_takeDue_12 (c_fl0_0 f a) dX5_takeDue_19 ?_
      refine j_iload_n (pc := 22) C dX5_takeDue_22 3 rfl rfl ?_
      refine j_callq0 (pc := 23) C gz_ok hG 1 (mX3_at hw) gX5_takeDue_X3_at rfl rfl rfl (by decide +kernel) ⟨Nat.le_of_ble_eq_true rfl, Nat.le_of_ble_eq_true rfl⟩ 1 (c_at1 f cI cO (bY h cO Y b) a) rfl rfl rfl (Nat.le_of_ble_eq_true rfl) dX5_takeDue_23 ⟨Nat.le_refl _, Nat.le_refl _⟩ (fun r_21 a_22 hw => ?_)
      refine j_opt (fun z_23 => ?_) (fun q_24 z_23 => ?_)
      · have hw := hw.1 z_23
        refine j_astoreN (pc := 26) (lv' := [(0, .ref (f 0)), (1, .int x1), (2, .int x2), (3, .int x3), (4, .int x4), (5, .null)]) C [1, 2, 3, 4, 5, 0] dX5_takeDue_26 (by decide) rfl ?_
        refine j_aloadN (pc := 28) C dX5_takeDue_28 5 rfl ?_
        refine j_ifnullN (pc := 30) C 80 dX5_takeDue_30 (by decide) ?_
        refine j_sub [0, 2] rfl ?_
        exact kX5_takeDue_80 C hr hG _ _ _ hw
      · have hw := hw.2 q_24 z_23
        refine j_astore (pc := 26) (lv' := [(0, .ref (f 0)), (1, .int x1), (2, .int x2), (3, .int x3), (4, .int x4), (5, .ref q_24)]) C [1, 2, 3, 4, 5, 0] dX5_takeDue_26 (by decide) rfl ?_
        refine j_aload (pc := 28) C dX5_takeDue_28 5 rfl ?_
        refine j_ifnull (pc := 30) C dX5_takeDue_30 ?_
        refine j_aload (pc := 33) C dX5_takeDue_33 5 rfl ?_
        obtain ⟨h_25, hw⟩ := hw
        refine j_getL (pc := 35) C h_25 hiX5_takeDue_X2 6 (by decide) lkX5_takeDue_116 (c_flL_6 b q_24) dX5_takeDue_35 ?_
        refine j_if_ne (pc := 38) C 44 dX5_takeDue_38 (by decide) (fun z_26 => ?_) (fun z_26 => ?_)
        · have hw := hw.1 z_26
          refine j_aload (pc := 44) C dX5_takeDue_44 5 rfl ?_
          obtain ⟨h_27, hw⟩ := hw
          refine j_getL (pc := 46) C h_27 hiX5_takeDue_X2 7 (by decide) lkX5_takeDue_144 (c_flL_7 b q_24) dX5_takeDue_46 ?_
          refine j_iload_n (pc := 49) C dX5_takeDue_49 1 rfl rfl ?_
          refine j_icmp_ne (pc := 50) C 71 dX5_takeDue_50 (by decide) (fun z_28 => ?_) (fun z_28 => ?_)
          · have hw := hw.1 z_28
            obtain ⟨x3_29, ex3_29⟩ : ∃ y : Int32, y = x3 + 1 := ⟨_, rfl⟩
            have hw := hw x3_29 ex3_29
            refine j_iinc (pc := 71) (v := x3_29) (lv' := [(0, .ref (f 0)), (1, .int x1), (2, .int x2), (3, .int x3_29), (4, .int x4), (5, .ref q_24)]) C [1, 2, 3, 0, 4, 5] 3 dX5_takeDue_71 rfl (by rw [ex3_29]; rfl) (by decide) rfl ?_
            refine j_sub [0, 1, 2, 3, 4] rfl ?_
            exact kX5_takeDue_74 C hr hG _ _ _ _ _ _ _ (fun z0 z1 x1 x2 x3 x4 hz => ih z0 z1 x1 x2 x3 x4 hz) hw
          · have hw := hw.2 z_28
            refine j_aload_n (pc := 53) C dX5_takeDue_53 0 rfl rfl ?_
            refine j_get (ref := RX5) (pc := 54) C hiX5_takeDue_X5 0 (c_at0 f cI cO (bY h cO Y b) a_22) rfl 0 (by decide) lkX5_takeDue_12 (c_fl0_0 f a_22) dX5_takeDue_54 ?_
            refine j_iload_n (pc := 57) C dX5_takeDue_57 3 rfl rfl ?_
            refine j_callvB (pc := 58) C gz_ok hG 1 (mX3_remove hw) gX5_takeDue_X3_remove rfl rfl rfl (by decide +kernel) ⟨Nat.le_of_ble_eq_true rfl, Nat.le_of_ble_eq_true rfl⟩ 1 (c_at1 f cI cO (bY h cO Y b) a_22) rfl rfl rfl (Nat.le_of_ble_eq_true rfl) dX5_takeDue_58 ⟨Nat.le_refl _, Nat.le_refl _⟩ (fun a_31 b_32 hw => ?_)
            refine j_aload_n (pc := 61) C dX5_takeDue_61 0 rfl rfl ?_
            refine j_aload (pc := 62) C dX5_takeDue_62 5 rfl ?_
            refine j_iload_n (pc := 64) C dX5_takeDue_64 1 rfl rfl ?_
            refine j_callvB (pc := 65) C gz_ok hG 2 (mX5_take hw) gX5_takeDue_X5_take rfl rfl rfl (by decide +kernel) ⟨Nat.le_of_ble_eq_true rfl, Nat.le_of_ble_eq_true rfl⟩ 0 (c_at0 f cI cO (bY h cO Y b_32) a_31) rfl rfl rfl (Nat.le_of_ble_eq_true rfl) dX5_takeDue_65 ⟨Nat.le_refl _, Nat.le_refl _⟩ (fun a_34 b_35 hw => ?_)
            refine j_goto (pc := 68) C 74 dX5_takeDue_68 (by decide) ?_
            refine j_sub [0, 1, 2, 3, 4] rfl ?_
            exact kX5_takeDue_74 C hr hG _ _ _ _ _ _ _ (fun z0 z1 x1 x2 x3 x4 hz => ih z0 z1 x1 x2 x3 x4 hz) hw
        · have hw := hw.2 z_26
          refine j_goto (pc := 41) C 80 dX5_takeDue_41 (by decide) ?_
          refine j_sub [0, 2] rfl ?_
          exact kX5_takeDue_80 C hr hG _ _ _ hw
def wX5_takeDue (N : Nat) (a : jSS) (b : jGS) (x1 : Int32) (post : Int32 → jSS → jGS → Prop) : Prop := ∀ x2_36 : Int32, x2_36 = a.1 0 7 → wX5_takeDue_10 N N a b x1 x2_36 0 0 post
set_option maxHeartbeats 4000000 in
set_option maxRecDepth 100000 in
theorem mX5_takeDue {l : Launch} {D : va_G} {cI cJ cZ cO : ClassId} {f : Nat → Nat} {h : Nat → Nat} {Y : va_W} {N : Nat} {a : jSS} {b : jGS} {x1 : Int32} {post : Int32 → jSS → jGS → Prop} (hw : wX5_takeDue N a b x1 post) : jMi l D (jT cI cJ cZ cO) gz yX5_takeDue wsX5_takeDue rmX5_takeDue [.ref (f 0), .int x1] (acells f cI cO (bY h cO Y b) a) (fun r (u : jSS × jGS) => post r u.1 u.2) (bF f h cI cO Y) 0 0 := by
  refine j_ofi (cc := cX5_takeDue) (maxL := 6) (ret := (some .int)) (by decide) rfl (Nat.le_of_ble_eq_true rfl) ?_
  intro p e s m args below meth c A C hr hnm hG
  refine j_sub (lv' := [(0, .ref (f 0)), (1, .int x1)]) [0, 1] rfl ?_
  unfold wX5_takeDue at hw
  refine j_aload_n (pc := 0) C dX5_takeDue_0 0 rfl rfl ?_
  refine j_get (ref := RX5) (pc := 1) C hiX5_takeDue_X5 0 (c_at0 f cI cO (bY h cO Y b) a) rfl 7 (by decide) lkX5_takeDue_78 (c_fl0_7 f a) dX5_takeDue_1 ?_
  refine j_topi (fun x2_36 ex2_36 => ?_)
  have hw := hw x2_36 ex2_36
  refine j_istore_n (pc := 4) (lv' := [(0, .ref (f 0)), (1, .int x1), (2, .int x2_36)]) C [1, 2, 0] dX5_takeDue_4 rfl (by decide) rfl ?_
  refine j_iconst (pc := 5) (v := 0) C dX5_takeDue_5 (by decide) ?_
  refine j_istore_n (pc := 6) (lv' := [(0, .ref (f 0)), (1, .int x1), (2, .int x2_36), (3, .int 0)]) C [1, 2, 3, 0] dX5_takeDue_6 rfl (by decide) rfl ?_
  refine j_iconst (pc := 7) (v := 0) C dX5_takeDue_7 (by decide) ?_
  refine j_istore (pc := 8) (lv' := [(0, .ref (f 0)), (1, .int x1), (2, .int x2_36), (3, .int 0), (4, .int 0)]) C [1, 2, 3, 4, 0] dX5_takeDue_8 (by decide) rfl ?_
  exact kX5_takeDue_10 C hr hG N _ _ _ _ _ _ hw

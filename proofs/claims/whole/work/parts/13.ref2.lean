def rmX7_leaves : Room := { frames := 1, cells := 0, slots := 0, locals := 23 }
theorem hiX7_leaves : ∀ w ∈ u_ws RX7 TX7 50, w ∈ wsX7_leaves := fun w h => List.mem_cons_of_mem _ (List.mem_append_right _ h)
theorem lkX7_leaves_29 : Cond.fieldLink yX7_leaves.cls 29 (TX7 13).1 (TX7 13).2.1 (TX7 13).2.2.1 ∈ wsX7_leaves := by decide +kernel
theorem lkX7_leaves_19 : Cond.fieldLink yX7_leaves.cls 19 (TX7 5).1 (TX7 5).2.1 (TX7 5).2.2.1 ∈ wsX7_leaves := by decide +kernel
theorem lkX7_leaves_51 : Cond.fieldLink yX7_leaves.cls 51 (TX7 22).1 (TX7 22).2.1 (TX7 22).2.2.1 ∈ wsX7_leaves := by decide +kernel
theorem lkX7_leaves_143 : Cond.fieldLink yX7_leaves.cls 143 (TX7 6).1 (TX7 6).2.1 (TX7 6).2.2.1 ∈ wsX7_leaves := by decide +kernel
theorem lkX7_leaves_146 : Cond.fieldLink yX7_leaves.cls 146 (TX7 0).1 (TX7 0).2.1 (TX7 0).2.2.1 ∈ wsX7_leaves := by decide +kernel
theorem lkX7_leaves_16 : Cond.fieldLink yX7_leaves.cls 16 (TX7 3).1 (TX7 3).2.1 (TX7 3).2.2.1 ∈ wsX7_leaves := by decide +kernel
theorem lkX7_leaves_156 : Cond.fieldLink yX7_leaves.cls 156 (TX7 8).1 (TX7 8).2.1 (TX7 8).2.2.1 ∈ wsX7_leaves := by decide +kernel
theorem lkX7_leaves_22 : Cond.fieldLink yX7_leaves.cls 22 (TX7 10).1 (TX7 10).2.1 (TX7 10).2.2.1 ∈ wsX7_leaves := by decide +kernel
theorem lkX7_leaves_26 : Cond.fieldLink yX7_leaves.cls 26 (TX7 11).1 (TX7 11).2.1 (TX7 11).2.2.1 ∈ wsX7_leaves := by decide +kernel
def wX7_leaves_96 (N : Nat) : Nat → jRS → Int32 → (jRS → Prop) → Prop
  | 0, _, _, _ => False
  | n + 1, σ, x1, post => (((σ.1 0 8) ≤ x1) → (post σ)) ∧ ((¬ (σ.1 0 8) ≤ x1) → (vp_in (x1 + 1) 64 ∧ ∀ v_30 : Int32, v_30 = σ.1 10 (x1 + 1).toNatClampNeg → vp_in x1 64 ∧ ∀ s_32 : jRS, s_32 = rP σ 10 x1.toNatClampNeg v_30 → vp_in (x1 + 1) 64 ∧ ∀ v_34 : Int32, v_34 = s_32.1 11 (x1 + 1).toNatClampNeg → vp_in x1 64 ∧ ∀ s_36 : jRS, s_36 = rP s_32 11 x1.toNatClampNeg v_34 → ∀ x1_37 : Int32, x1_37 = x1 + 1 → wX7_leaves_96 N n s_36 x1_37 post))
set_option maxHeartbeats 4000000 in
set_option maxRecDepth 100000 in
theorem kX7_leaves_96 {p : Program} {l : Launch} {e : Env} {s : State} {m : MethodId} {args : Array Value} {below : List Frame} {meth : Method} {c : Code} {D : va_G} {cI cJ cZ cO : ClassId} {a : Nat → Nat} {A : Nat → Prop} {N : Nat} {post : jRS → Prop} (C : jC p s m args meth c cX7_leaves 2 yX7_leaves.cls wsX7_leaves D (jT cI cJ cZ cO) A) (hr : meth.sig.returnType = none) (hG : jG0 A s) : ∀ (n : Nat) (σ : jRS) (x1 : Int32), wX7_leaves_96 N n σ x1 post → jJ p l e rmX7_leaves s m args below meth c 0 0 (MQ below (va_Qv post (jE D (jT cI cJ cZ cO) A (rcells a cI cJ cZ)) A) args s 0 0 A) D A 2 (rcells a cI cJ cZ σ) [(0, .ref (a 0)), (1, .int x1)] 96 [] := by
  intro n
  induction n with
  | zero =>
    intro σ x1 hw
    exact False.elim hw
  | succ n ih =>
    intro σ x1 hw
    unfold wX7_leaves_96 at hw
    refine j_iload_n (pc := 96) C dX7_leaves_96 1 rfl rfl ?_
    refine j_aload_n (pc := 97) C dX7_leaves_97 0 rfl rfl ?_
    refine j_get (ref := RX7) (pc := 98) C hiX7_leaves 0 (r_at0 a cI cJ cZ σ) rfl 8 (by decide) lkX7_leaves_156 (r_fl8 a σ) dX7_leaves_98 ?_
    refine j_icmp_ge (pc := 101) C 138 dX7_leaves_101 (by decide) (fun z_28 => ?_) (fun z_28 => ?_)
    · have hw := hw.1 z_28
      exact j_vret (pc := 138) C hr σ rfl hw dX7_leaves_138
    · have hw := hw.2 z_28
      refine j_aload_n (pc := 104) C dX7_leaves_104 0 rfl rfl ?_
      refine j_get (ref := RX7) (pc := 105) C hiX7_leaves 0 (r_at0 a cI cJ cZ σ) rfl 10 (by decide) lkX7_leaves_22 (r_fl10 a σ) dX7_leaves_105 ?_
      refine j_iload_n (pc := 108) C dX7_leaves_108 1 rfl rfl ?_
      refine j_aload_n (pc := 109) C dX7_leaves_109 0 rfl rfl ?_
      refine j_get (ref := RX7) (pc := 110) C hiX7_leaves 0 (r_at0 a cI cJ cZ σ) rfl 10 (by decide) lkX7_leaves_22 (r_fl10 a σ) dX7_leaves_110 ?_
      refine j_iload_n (pc := 113) C dX7_leaves_113 1 rfl rfl ?_
      refine j_iconst (pc := 114) (v := 1) C dX7_leaves_114 (by decide) ?_
      refine j_iadd (pc := 115) C dX7_leaves_115 ?_
      obtain ⟨h_29, hw⟩ := hw
      refine j_iald (pc := 116) C 1 0 (r_at10 a cI cJ cZ σ) rfl h_29 dX7_leaves_116 ?_
      refine j_topi (fun v_30 ev_30 => ?_)
      have hw := hw v_30 ev_30
      obtain ⟨h_31, hw⟩ := hw
      refine j_iast (pc := 117) C 1 0 (r_at10 a cI cJ cZ σ) rfl h_31 dX7_leaves_117 (j_ws (r_s10 a cI cJ cZ σ x1.toNatClampNeg v_30) ?_)
      refine j_nmS (F := rcells a cI cJ cZ) (fun s_32 es_32 => ?_)
      have hw := hw s_32 es_32
      refine j_aload_n (pc := 118) C dX7_leaves_118 0 rfl rfl ?_
      refine j_get (ref := RX7) (pc := 119) C hiX7_leaves 0 (r_at0 a cI cJ cZ s_32) rfl 11 (by decide) lkX7_leaves_26 (r_fl11 a s_32) dX7_leaves_119 ?_
      refine j_iload_n (pc := 122) C dX7_leaves_122 1 rfl rfl ?_
      refine j_aload_n (pc := 123) C dX7_leaves_123 0 rfl rfl ?_
      refine j_get (ref := RX7) (pc := 124) C hiX7_leaves 0 (r_at0 a cI cJ cZ s_32) rfl 11 (by decide) lkX7_leaves_26 (r_fl11 a s_32) dX7_leaves_124 ?_
      refine j_iload_n (pc := 127) C dX7_leaves_127 1 rfl rfl ?_
      refine j_iconst (pc := 128) (v := 1) C dX7_leaves_128 (by decide) ?_
      refine j_iadd (pc := 129) C dX7_leaves_129 ?_
      obtain ⟨h_33, hw⟩ := hw
      refine j_iald (pc := 130) C 2 0 (r_at11 a cI cJ cZ s_32) rfl h_33 dX7_leaves_130 ?_
      refine j_topi (fun v_34 ev_34 => ?_)
      have hw := hw v_34 ev_34
      obtain ⟨h_35, hw⟩ := hw
      refine j_iast (pc := 131) C 2 0 (r_at11 a cI cJ cZ s_32) rfl h_35 dX7_leaves_131 (j_ws (r_s11 a cI cJ cZ s_32 x1.toNatClampNeg v_34) ?_)
      refine j_nmS (F := rcells a cI cJ cZ) (fun s_36 es_36 => ?_)
      have hw := hw s_36 es_36
      obtain ⟨x1_37, ex1_37⟩ : ∃ y : Int32, y = x1 + 1 := ⟨_, rfl⟩
      have hw := hw x1_37 ex1_37
      refine j_iinc (pc := 132) (v := x1_37) (lv' := [(0, .ref (a 0)), (1, .int x1_37)]) C [1, 0] 1 dX7_leaves_132 rfl (by rw [ex1_37]; rfl) (by decide) rfl ?_
      refine j_goto (pc := 135) C 96 dX7_leaves_135 (by decide) ?_
      exact ih _ _ hw
def wX7_leaves_56 (N : Nat) (σ : jRS)  (post : jRS → Prop) : Prop := ∀ s_38 : jRS, s_38 = rP σ 0 5 3 → (((s_38.1 0 8) ≤ 0) → (post s_38)) ∧ ((¬ (s_38.1 0 8) ≤ 0) → (wX7_serves N s_38 (s_38.1 10 (0 : Int32).toNatClampNeg) (s_38.1 11 (0 : Int32).toNatClampNeg) (fun s_41 => ∀ v_42 : Int32, v_42 = (s_41.1 0 8) - 1 → ∀ s_43 : jRS, s_43 = rP s_41 0 8 v_42 → wX7_leaves_96 N N s_43 0 post)))
set_option maxHeartbeats 4000000 in
set_option maxRecDepth 100000 in
theorem kX7_leaves_56 {p : Program} {l : Launch} {e : Env} {s : State} {m : MethodId} {args : Array Value} {below : List Frame} {meth : Method} {c : Code} {D : va_G} {cI cJ cZ cO : ClassId} {a : Nat → Nat} {A : Nat → Prop} {N : Nat} {post : jRS → Prop} (C : jC p s m args meth c cX7_leaves 2 yX7_leaves.cls wsX7_leaves D (jT cI cJ cZ cO) A) (hr : meth.sig.returnType = none) (hG : jG0 A s) (σ : jRS)  (hw : wX7_leaves_56 N σ post) : jJ p l e rmX7_leaves s m args below meth c 0 0 (MQ below (va_Qv post (jE D (jT cI cJ cZ cO) A (rcells a cI cJ cZ)) A) args s 0 0 A) D A 2 (rcells a cI cJ cZ σ) [(0, .ref (a 0))] 56 [] := by
  unfold wX7_leaves_56 at hw
  refine j_aload_n (pc := 56) C dX7_leaves_56 0 rfl rfl ?_
  refine j_iconst (pc := 57) (v := 3) C dX7_leaves_57 (by decide) ?_
  refine j_put (pc := 58) C hiX7_leaves tyX7 tyX7_ok nmX7 0 (r_at0 a cI cJ cZ σ) rfl 5 (by decide) lkX7_leaves_19 rfl rfl rfl (Nat.le_of_ble_eq_true rfl) dX7_leaves_58 (j_ws (r_s0_5 a cI cJ cZ σ 3) ?_)
  refine j_nmS (F := rcells a cI cJ cZ) (fun s_38 es_38 => ?_)
  have hw := hw s_38 es_38
  refine j_aload_n (pc := 61) C dX7_leaves_61 0 rfl rfl ?_
  refine j_get (ref := RX7) (pc := 62) C hiX7_leaves 0 (r_at0 a cI cJ cZ s_38) rfl 8 (by decide) lkX7_leaves_156 (r_fl8 a s_38) dX7_leaves_62 ?_
  refine j_if_le (pc := 65) C 138 dX7_leaves_65 (by decide) (fun z_39 => ?_) (fun z_39 => ?_)
  · have hw := hw.1 z_39
    exact j_vret (pc := 138) C hr s_38 rfl hw dX7_leaves_138
  · have hw := hw.2 z_39
    refine j_aload_n (pc := 68) C dX7_leaves_68 0 rfl rfl ?_
    refine j_aload_n (pc := 69) C dX7_leaves_69 0 rfl rfl ?_
    refine j_get (ref := RX7) (pc := 70) C hiX7_leaves 0 (r_at0 a cI cJ cZ s_38) rfl 10 (by decide) lkX7_leaves_22 (r_fl10 a s_38) dX7_leaves_70 ?_
    refine j_iconst (pc := 73) (v := 0) C dX7_leaves_73 (by decide) ?_
    refine j_iald (pc := 74) C 1 0 (r_at10 a cI cJ cZ s_38) rfl (by unfold vp_in; decide) dX7_leaves_74 ?_
    refine j_aload_n (pc := 75) C dX7_leaves_75 0 rfl rfl ?_
    refine j_get (ref := RX7) (pc := 76) C hiX7_leaves 0 (r_at0 a cI cJ cZ s_38) rfl 11 (by decide) lkX7_leaves_26 (r_fl11 a s_38) dX7_leaves_76 ?_
    refine j_iconst (pc := 79) (v := 0) C dX7_leaves_79 (by decide) ?_
    refine j_iald (pc := 80) C 2 0 (r_at11 a cI cJ cZ s_38) rfl (by unfold vp_in; decide) dX7_leaves_80 ?_
    refine j_callv0 (pc := 81) C jG0_ok trivial 2 (mX7_serves hw) gX7_leaves_X7_serves rfl rfl rfl (by decide +kernel) ⟨by decide, by decide⟩ 0 (r_at0 a cI cJ cZ s_38) rfl rfl rfl (Nat.le_of_ble_eq_true rfl) dX7_leaves_81 ⟨Nat.le_refl _, Nat.le_refl _⟩ (fun s_41 hw => ?_)
    refine j_aload_n (pc := 84) C dX7_leaves_84 0 rfl rfl ?_
    refine j_dup (pc := 85) C dX7_leaves_85 rfl ?_
    refine j_get (ref := RX7) (pc := 86) C hiX7_leaves 0 (r_at0 a cI cJ cZ s_41) rfl 8 (by decide) lkX7_leaves_156 (r_fl8 a s_41) dX7_leaves_86 ?_
    refine j_iconst (pc := 89) (v := 1) C dX7_leaves_89 (by decide) ?_
    refine j_isub (pc := 90) C dX7_leaves_90 ?_
    refine j_topi (fun v_42 ev_42 => ?_)
    have hw := hw v_42 ev_42
    refine j_put (pc := 91) C hiX7_leaves tyX7 tyX7_ok nmX7 0 (r_at0 a cI cJ cZ s_41) rfl 8 (by decide) lkX7_leaves_156 rfl rfl rfl (Nat.le_of_ble_eq_true rfl) dX7_leaves_91 (j_ws (r_s0_8 a cI cJ cZ s_41 v_42) ?_)
    refine j_nmS (F := rcells a cI cJ cZ) (fun s_43 es_43 => ?_)
    have hw := hw s_43 es_43
    refine j_iconst (pc := 94) (v := 0) C dX7_leaves_94 (by decide) ?_
    refine j_istore_n (pc := 95) (lv' := [(0, .ref (a 0)), (1, .int 0)]) C [1, 0] dX7_leaves_95 rfl (by decide) rfl ?_
    exact kX7_leaves_96 C hr hG N _ _ hw
def wX7_leaves (N : Nat) (σ : jRS)  (post : jRS → Prop) : Prop := ∀ v_44 : Int32, v_44 = σ.1 0 5 → vp_in v_44 3 ∧ ∀ v_46 : Int32, v_46 = (σ.1 13 v_44.toNatClampNeg) + 1 → vp_in v_44 3 ∧ ∀ s_48 : jRS, s_48 = rP σ 13 v_44.toNatClampNeg v_46 → (((s_48.1 0 5) = 2) → (wX7_leaves_56 N s_48 post)) ∧ ((¬ (s_48.1 0 5) = 2) → (wX7_placeOf N s_48 (s_48.1 0 5) (s_48.1 0 6) (fun r_50 s_51 => ∀ v_52 : Int32, v_52 = (s_51.1 0 0) + (s_51.1 0 3) → vp_in ((512 * (s_48.1 0 5)) + r_50) 1024 ∧ ∀ s_54 : jRS, s_54 = rP s_51 22 ((512 * (s_48.1 0 5)) + r_50).toNatClampNeg v_52 → wX7_leaves_56 N s_54 post)))
set_option maxHeartbeats 4000000 in
set_option maxRecDepth 100000 in
theorem mX7_leaves {l : Launch} {D : va_G} {cI cJ cZ cO : ClassId} {a : Nat → Nat} {N : Nat} {σ : jRS}  {post : jRS → Prop} (hw : wX7_leaves N σ post) : jMv l D (jT cI cJ cZ cO) jG0 yX7_leaves wsX7_leaves rmX7_leaves [.ref (a 0)] (rcells a cI cJ cZ σ) post (rcells a cI cJ cZ) 0 0 := by
  refine j_ofv (cc := cX7_leaves) (maxL := 2) (ret := none) (by decide) rfl (Nat.le_of_ble_eq_true rfl) ?_
  intro p e s m args below meth c A C hr hnm hG
  refine j_sub (lv' := [(0, .ref (a 0))]) [0] rfl ?_
  unfold wX7_leaves at hw
  refine j_aload_n (pc := 0) C dX7_leaves_0 0 rfl rfl ?_
  refine j_get (ref := RX7) (pc := 1) C hiX7_leaves 0 (r_at0 a cI cJ cZ σ) rfl 13 (by decide) lkX7_leaves_29 (r_fl13 a σ) dX7_leaves_1 ?_
  refine j_aload_n (pc := 4) C dX7_leaves_4 0 rfl rfl ?_
  refine j_get (ref := RX7) (pc := 5) C hiX7_leaves 0 (r_at0 a cI cJ cZ σ) rfl 5 (by decide) lkX7_leaves_19 (r_fl5 a σ) dX7_leaves_5 ?_
  refine j_topi (fun v_44 ev_44 => ?_)
  have hw := hw v_44 ev_44
  refine j_dup2 (pc := 8) C dX7_leaves_8 rfl rfl ?_
  obtain ⟨h_45, hw⟩ := hw
  refine j_iald (pc := 9) C 3 0 (r_at13 a cI cJ cZ σ) rfl h_45 dX7_leaves_9 ?_
  refine j_iconst (pc := 10) (v := 1) C dX7_leaves_10 (by decide) ?_
  refine j_iadd (pc := 11) C dX7_leaves_11 ?_
  refine j_topi (fun v_46 ev_46 => ?_)
  have hw := hw v_46 ev_46
  obtain ⟨h_47, hw⟩ := hw
  refine j_iast (pc := 12) C 3 0 (r_at13 a cI cJ cZ σ) rfl h_47 dX7_leaves_12 (j_ws (r_s13 a cI cJ cZ σ v_44.toNatClampNeg v_46) ?_)
  refine j_nmS (F := rcells a cI cJ cZ) (fun s_48 es_48 => ?_)
  have hw := hw s_48 es_48
  refine j_aload_n (pc := 13) C dX7_leaves_13 0 rfl rfl ?_
  refine j_get (ref := RX7) (pc := 14) C hiX7_leaves 0 (r_at0 a cI cJ cZ s_48) rfl 5 (by decide) lkX7_leaves_19 (r_fl5 a s_48) dX7_leaves_14 ?_
  refine j_iconst (pc := 17) (v := 2) C dX7_leaves_17 (by decide) ?_
  refine j_icmp_eq (pc := 18) C 56 dX7_leaves_18 (by decide) (fun z_49 => ?_) (fun z_49 => ?_)
  · have hw := hw.1 z_49
    exact kX7_leaves_56 C hr hG _ hw
  · have hw := hw.2 z_49
    refine j_aload_n (pc := 21) C dX7_leaves_21 0 rfl rfl ?_
    refine j_get (ref := RX7) (pc := 22) C hiX7_leaves 0 (r_at0 a cI cJ cZ s_48) rfl 22 (by decide) lkX7_leaves_51 (r_fl22 a s_48) dX7_leaves_22 ?_
    refine j_sipush (pc := 25) (v := 512) C dX7_leaves_25 (by decide) ?_
    refine j_aload_n (pc := 28) C dX7_leaves_28 0 rfl rfl ?_
    refine j_get (ref := RX7) (pc := 29) C hiX7_leaves 0 (r_at0 a cI cJ cZ s_48) rfl 5 (by decide) lkX7_leaves_19 (r_fl5 a s_48) dX7_leaves_29 ?_
    refine j_imul (pc := 32) C dX7_leaves_32 ?_
    refine j_aload_n (pc := 33) C dX7_leaves_33 0 rfl rfl ?_
    refine j_aload_n (pc := 34) C dX7_leaves_34 0 rfl rfl ?_
    refine j_get (ref := RX7) (pc := 35) C hiX7_leaves 0 (r_at0 a cI cJ cZ s_48) rfl 5 (by decide) lkX7_leaves_19 (r_fl5 a s_48) dX7_leaves_35 ?_
    refine j_aload_n (pc := 38) C dX7_leaves_38 0 rfl rfl ?_
    refine j_get (ref := RX7) (pc := 39) C hiX7_leaves 0 (r_at0 a cI cJ cZ s_48) rfl 6 (by decide) lkX7_leaves_143 (r_fl6 a s_48) dX7_leaves_39 ?_
    refine j_calli0 (pc := 42) C jG0_ok trivial 2 (mX7_placeOf hw) gX7_leaves_X7_placeOf rfl rfl rfl (by decide +kernel) ⟨by decide, by decide⟩ 0 (r_at0 a cI cJ cZ s_48) rfl rfl rfl (Nat.le_of_ble_eq_true rfl) dX7_leaves_42 ⟨Nat.le_refl _, Nat.le_refl _⟩ (fun r_50 s_51 hw => ?_)
    refine j_iadd (pc := 45) C dX7_leaves_45 ?_
    refine j_aload_n (pc := 46) C dX7_leaves_46 0 rfl rfl ?_
    refine j_get (ref := RX7) (pc := 47) C hiX7_leaves 0 (r_at0 a cI cJ cZ s_51) rfl 0 (by decide) lkX7_leaves_146 (r_fl0 a s_51) dX7_leaves_47 ?_
    refine j_aload_n (pc := 50) C dX7_leaves_50 0 rfl rfl ?_
    refine j_get (ref := RX7) (pc := 51) C hiX7_leaves 0 (r_at0 a cI cJ cZ s_51) rfl 3 (by decide) lkX7_leaves_16 (r_fl3 a s_51) dX7_leaves_51 ?_
    refine j_iadd (pc := 54) C dX7_leaves_54 ?_
    refine j_topi (fun v_52 ev_52 => ?_)
    have hw := hw v_52 ev_52
    obtain ⟨h_53, hw⟩ := hw
    refine j_iast (pc := 55) C 10 0 (r_at22 a cI cJ cZ s_51) rfl h_53 dX7_leaves_55 (j_ws (r_s22 a cI cJ cZ s_51 ((512 * (s_48.1 0 5)) + r_50).toNatClampNeg v_52) ?_)
    refine j_nmS (F := rcells a cI cJ cZ) (fun s_54 es_54 => ?_)
    have hw := hw s_54 es_54
    exact kX7_leaves_56 C hr hG _ hw

def rmX7_stock : Room := { frames := 2, cells := 0, slots := 0, locals := 42 }
theorem hiX7_stock : ∀ w ∈ u_ws RX7 TX7 50, w ∈ wsX7_stock := fun w h => List.mem_cons_of_mem _ (List.mem_append_right _ h)
theorem lkX7_stock_54 : Cond.fieldLink yX7_stock.cls 54 (TX7 23).1 (TX7 23).2.1 (TX7 23).2.2.1 ∈ wsX7_stock := by decide +kernel
def wX7_stock (N : Nat) (σ : jRS) (x1 : Int32) (x2 : Int32) (post : Int32 → jRS → Prop) : Prop := ∀ r_12 : Int32, r_12 = jisSender x1 → ((¬ r_12 = 0) → (∀ r_14 : Int32, r_14 = jwithin x2 1 5000 → ((¬ r_14 = 0) → (vp_in x1 2 ∧ ((((σ.1 23 x1.toNatClampNeg) + x2) ≤ 100000) → (vp_in x1 2 ∧ ∀ v_19 : Int32, v_19 = (σ.1 23 x1.toNatClampNeg) + x2 → vp_in x1 2 ∧ ∀ s_21 : jRS, s_21 = rP σ 23 x1.toNatClampNeg v_19 → vp_in x1 2 ∧ post (s_21.1 23 x1.toNatClampNeg) s_21)) ∧ ((¬ ((σ.1 23 x1.toNatClampNeg) + x2) ≤ 100000) → (post ((-4)) σ)))) ∧ ((r_14 = 0) → (post ((-2)) σ)))) ∧ ((r_12 = 0) → (post ((-1)) σ))
set_option maxHeartbeats 4000000 in
set_option maxRecDepth 100000 in
theorem mX7_stock {l : Launch} {D : va_G} {cI cJ cZ cO : ClassId} {a : Nat → Nat} {N : Nat} {σ : jRS} {x1 x2 : Int32} {post : Int32 → jRS → Prop} (hw : wX7_stock N σ x1 x2 post) : jMi l D (jT cI cJ cZ cO) jG0 yX7_stock wsX7_stock rmX7_stock [.ref (a 0), .int x1, .int x2] (rcells a cI cJ cZ σ) post (rcells a cI cJ cZ) 0 0 := by
  refine j_ofi (cc := cX7_stock) (maxL := 3) (ret := (some .int)) (by decide) rfl (Nat.le_of_ble_eq_true rfl) ?_
  intro p e s m args below meth c A C hr hnm hG
  refine j_sub (lv' := [(0, .ref (a 0)), (1, .int x1), (2, .int x2)]) [0, 1, 2] rfl ?_
  unfold wX7_stock at hw
  refine j_iload_n (pc := 0) C dX7_stock_0 1 rfl rfl ?_
  refine j_scalli (pc := 1) C 1 (mX7_isSender x1) gX7_stock_X7_isSender rfl rfl rfl (by decide +kernel) ⟨by decide, by decide⟩ rfl rfl (Nat.le_of_ble_eq_true rfl) dX7_stock_1 ⟨Nat.le_refl _, Nat.le_refl _⟩ (fun r_12 er_12 => ?_)
  have hw := hw r_12 er_12
  refine j_if_ne (pc := 4) C 9 dX7_stock_4 (by decide) (fun z_13 => ?_) (fun z_13 => ?_)
  · have hw := hw.1 z_13
    refine j_iload_n (pc := 9) C dX7_stock_9 2 rfl rfl ?_
    refine j_iconst (pc := 10) (v := 1) C dX7_stock_10 (by decide) ?_
    refine j_sipush (pc := 11) (v := 5000) C dX7_stock_11 (by decide) ?_
    refine j_scalli (pc := 14) C 3 (mX7_within x2 1 5000) gX7_stock_X7_within rfl rfl rfl (by decide +kernel) ⟨by decide, by decide⟩ rfl rfl (Nat.le_of_ble_eq_true rfl) dX7_stock_14 ⟨Nat.le_refl _, Nat.le_refl _⟩ (fun r_14 er_14 => ?_)
    have hw := hw r_14 er_14
    refine j_if_ne (pc := 17) C 23 dX7_stock_17 (by decide) (fun z_15 => ?_) (fun z_15 => ?_)
    · have hw := hw.1 z_15
      refine j_aload_n (pc := 23) C dX7_stock_23 0 rfl rfl ?_
      refine j_get (ref := RX7) (pc := 24) C hiX7_stock 0 (r_at0 a cI cJ cZ σ) rfl 23 (by decide) lkX7_stock_54 (r_fl23 a σ) dX7_stock_24 ?_
      refine j_iload_n (pc := 27) C dX7_stock_27 1 rfl rfl ?_
      obtain ⟨h_16, hw⟩ := hw
      refine j_iald (pc := 28) C 11 0 (r_at23 a cI cJ cZ σ) rfl h_16 dX7_stock_28 ?_
      refine j_iload_n (pc := 29) C dX7_stock_29 2 rfl rfl ?_
      refine j_iadd (pc := 30) C dX7_stock_30 ?_
      refine j_ldc (pc := 31) (v := 100000) C dX7_stock_31 (by decide +kernel) ?_
      refine j_icmp_le (pc := 33) C 39 dX7_stock_33 (by decide) (fun z_17 => ?_) (fun z_17 => ?_)
      · have hw := hw.1 z_17
        refine j_aload_n (pc := 39) C dX7_stock_39 0 rfl rfl ?_
        refine j_get (ref := RX7) (pc := 40) C hiX7_stock 0 (r_at0 a cI cJ cZ σ) rfl 23 (by decide) lkX7_stock_54 (r_fl23 a σ) dX7_stock_40 ?_
        refine j_iload_n (pc := 43) C dX7_stock_43 1 rfl rfl ?_
        refine j_dup2 (pc := 44) C dX7_stock_44 rfl rfl ?_
        obtain ⟨h_18, hw⟩ := hw
        refine j_iald (pc := 45) C 11 0 (r_at23 a cI cJ cZ σ) rfl h_18 dX7_stock_45 ?_
        refine j_iload_n (pc := 46) C dX7_stock_46 2 rfl rfl ?_
        refine j_iadd (pc := 47) C dX7_stock_47 ?_
        refine j_topi (fun v_19 ev_19 => ?_)
        have hw := hw v_19 ev_19
        obtain ⟨h_20, hw⟩ := hw
        refine j_iast (pc := 48) C 11 0 (r_at23 a cI cJ cZ σ) rfl h_20 dX7_stock_48 (j_ws (r_s23 a cI cJ cZ σ x1.toNatClampNeg v_19) ?_)
        refine j_nmS (F := rcells a cI cJ cZ) (fun s_21 es_21 => ?_)
        have hw := hw s_21 es_21
        refine j_aload_n (pc := 49) C dX7_stock_49 0 rfl rfl ?_
        refine j_get (ref := RX7) (pc := 50) C hiX7_stock 0 (r_at0 a cI cJ cZ s_21) rfl 23 (by decide) lkX7_stock_54 (r_fl23 a s_21) dX7_stock_50 ?_
        refine j_iload_n (pc := 53) C dX7_stock_53 1 rfl rfl ?_
        obtain ⟨h_22, hw⟩ := hw
        refine j_iald (pc := 54) C 11 0 (r_at23 a cI cJ cZ s_21) rfl h_22 dX7_stock_54 ?_
        exact j_iret (pc := 55) C hr s_21 rfl hw dX7_stock_55
      · have hw := hw.2 z_17
        refine j_bipush (pc := 36) (v := (-4)) C dX7_stock_36 (by decide) ?_
        exact j_iret (pc := 38) C hr σ rfl hw dX7_stock_38
    · have hw := hw.2 z_15
      refine j_bipush (pc := 20) (v := (-2)) C dX7_stock_20 (by decide) ?_
      exact j_iret (pc := 22) C hr σ rfl hw dX7_stock_22
  · have hw := hw.2 z_13
    refine j_iconst (pc := 7) (v := (-1)) C dX7_stock_7 (by decide) ?_
    exact j_iret (pc := 8) C hr σ rfl hw dX7_stock_8

def rmX7_product : Room := { frames := 0, cells := 0, slots := 0, locals := 0 }
theorem hiX7_product : ∀ w ∈ u_ws RX7 TX7 50, w ∈ wsX7_product := fun w h => List.mem_cons_of_mem _ (List.mem_append_right _ h)
theorem lkX7_product_78 : Cond.fieldLink yX7_product.cls 78 (TX7 31).1 (TX7 31).2.1 (TX7 31).2.2.1 ∈ wsX7_product := by decide +kernel
theorem lkX7_product_75 : Cond.fieldLink yX7_product.cls 75 (TX7 30).1 (TX7 30).2.1 (TX7 30).2.2.1 ∈ wsX7_product := by decide +kernel
def wX7_product (N : Nat) (σ : jRS) (x1 : Int32) (post : Int64 → jRS → Prop) : Prop := vp_in x1 2 ∧ ((¬ (σ.1 31 x1.toNatClampNeg) = ((-9))) → (vp_in x1 2 ∧ vp_in x1 2 ∧ post ((((σ.1 30 x1.toNatClampNeg).toInt64) * ((σ.1 31 x1.toNatClampNeg).toInt64)) / 1000) σ)) ∧ (((σ.1 31 x1.toNatClampNeg) = ((-9))) → (post 0 σ))
set_option maxHeartbeats 4000000 in
set_option maxRecDepth 100000 in
theorem mX7_product {l : Launch} {D : va_G} {cI cJ cZ cO : ClassId} {a : Nat → Nat} {N : Nat} {σ : jRS} {x1 : Int32} {post : Int64 → jRS → Prop} (hw : wX7_product N σ x1 post) : jMl l D (jT cI cJ cZ cO) jG0 yX7_product wsX7_product rmX7_product [.ref (a 0), .int x1] (rcells a cI cJ cZ σ) post (rcells a cI cJ cZ) 0 0 := by
  refine j_ofl (cc := cX7_product) (maxL := 2) (ret := (some .long)) (by decide) rfl (Nat.le_of_ble_eq_true rfl) ?_
  intro p e s m args below meth c A C hr hnm hG
  refine j_sub (lv' := [(0, .ref (a 0)), (1, .int x1)]) [0, 1] rfl ?_
  unfold wX7_product at hw
  refine j_aload_n (pc := 0) C dX7_product_0 0 rfl rfl ?_
  refine j_get (ref := RX7) (pc := 1) C hiX7_product 0 (r_at0 a cI cJ cZ σ) rfl 31 (by decide) lkX7_product_78 (r_fl31 a σ) dX7_product_1 ?_
  refine j_iload_n (pc := 4) C dX7_product_4 1 rfl rfl ?_
  obtain ⟨h_5, hw⟩ := hw
  refine j_iald (pc := 5) C 19 0 (r_at31 a cI cJ cZ σ) rfl h_5 dX7_product_5 ?_
  refine j_bipush (pc := 6) (v := (-9)) C dX7_product_6 (by decide) ?_
  refine j_icmp_ne (pc := 8) C 15 dX7_product_8 (by decide) (fun z_6 => ?_) (fun z_6 => ?_)
  · have hw := hw.1 z_6
    refine j_aload_n (pc := 15) C dX7_product_15 0 rfl rfl ?_
    refine j_get (ref := RX7) (pc := 16) C hiX7_product 0 (r_at0 a cI cJ cZ σ) rfl 30 (by decide) lkX7_product_75 (r_fl30 a σ) dX7_product_16 ?_
    refine j_iload_n (pc := 19) C dX7_product_19 1 rfl rfl ?_
    obtain ⟨h_7, hw⟩ := hw
    refine j_iald (pc := 20) C 18 0 (r_at30 a cI cJ cZ σ) rfl h_7 dX7_product_20 ?_
    refine j_i2l (pc := 21) C dX7_product_21 ?_
    refine j_aload_n (pc := 22) C dX7_product_22 0 rfl rfl ?_
    refine j_get (ref := RX7) (pc := 23) C hiX7_product 0 (r_at0 a cI cJ cZ σ) rfl 31 (by decide) lkX7_product_78 (r_fl31 a σ) dX7_product_23 ?_
    refine j_iload_n (pc := 26) C dX7_product_26 1 rfl rfl ?_
    obtain ⟨h_8, hw⟩ := hw
    refine j_iald (pc := 27) C 19 0 (r_at31 a cI cJ cZ σ) rfl h_8 dX7_product_27 ?_
    refine j_i2l (pc := 28) C dX7_product_28 ?_
    refine j_lmul (pc := 29) C dX7_product_29 ?_
    refine j_ldc2 (pc := 30) (v := 1000) C dX7_product_30 (by decide +kernel) ?_
    refine j_ldiv (pc := 33) C dX7_product_33 (by decide) ?_
    exact j_lret (pc := 34) C hr σ rfl hw dX7_product_34
  · have hw := hw.2 z_6
    refine j_lconst (pc := 11) (v := 0) C dX7_product_11 (by decide) ?_
    refine j_goto (pc := 12) C 34 dX7_product_12 (by decide) ?_
    exact j_lret (pc := 34) C hr σ rfl hw dX7_product_34

def rmX7_window : Room := { frames := 1, cells := 0, slots := 0, locals := 21 }
theorem hiX7_window : ∀ w ∈ u_ws RX7 TX7 50, w ∈ wsX7_window := fun w h => List.mem_cons_of_mem _ (List.mem_append_right _ h)
theorem lkX7_window_103 : Cond.fieldLink yX7_window.cls 103 (TX7 39).1 (TX7 39).2.1 (TX7 39).2.2.1 ∈ wsX7_window := by decide +kernel
theorem lkX7_window_75 : Cond.fieldLink yX7_window.cls 75 (TX7 30).1 (TX7 30).2.1 (TX7 30).2.2.1 ∈ wsX7_window := by decide +kernel
theorem lkX7_window_78 : Cond.fieldLink yX7_window.cls 78 (TX7 31).1 (TX7 31).2.1 (TX7 31).2.2.1 ∈ wsX7_window := by decide +kernel
def wX7_window_34 (N : Nat) (σ : jRS)  (post : Int64 → jRS → Prop) : Prop := post 10 σ
set_option maxHeartbeats 4000000 in
set_option maxRecDepth 100000 in
theorem kX7_window_34 {p : Program} {l : Launch} {e : Env} {s : State} {m : MethodId} {args : Array Value} {below : List Frame} {meth : Method} {c : Code} {D : va_G} {cI cJ cZ cO : ClassId} {a : Nat → Nat} {A : Nat → Prop} {N : Nat} {post : Int64 → jRS → Prop} (C : jC p s m args meth c cX7_window 4 yX7_window.cls wsX7_window D (jT cI cJ cZ cO) A) (hr : meth.sig.returnType = (some .long)) (hG : jG0 A s) (σ : jRS)  (hw : wX7_window_34 N σ post) : jJ p l e rmX7_window s m args below meth c 0 0 (MQ below (va_Ql post (jE D (jT cI cJ cZ cO) A (rcells a cI cJ cZ)) A) args s 0 0 A) D A 4 (rcells a cI cJ cZ σ) [] 34 [] := by
  unfold wX7_window_34 at hw
  refine j_ldc2 (pc := 34) (v := 10) C dX7_window_34 (by decide +kernel) ?_
  exact j_lret (pc := 37) C hr σ rfl hw dX7_window_37
def wX7_window_73 (N : Nat) (σ : jRS) (y0 : Int64) (post : Int64 → jRS → Prop) : Prop := ((0 ≤ (lg_cmp y0 4)) → (post y0 σ)) ∧ ((¬ 0 ≤ (lg_cmp y0 4)) → (post 4 σ))
set_option maxHeartbeats 4000000 in
set_option maxRecDepth 100000 in
theorem kX7_window_73 {p : Program} {l : Launch} {e : Env} {s : State} {m : MethodId} {args : Array Value} {below : List Frame} {meth : Method} {c : Code} {D : va_G} {cI cJ cZ cO : ClassId} {a : Nat → Nat} {A : Nat → Prop} {N : Nat} {post : Int64 → jRS → Prop} (C : jC p s m args meth c cX7_window 4 yX7_window.cls wsX7_window D (jT cI cJ cZ cO) A) (hr : meth.sig.returnType = (some .long)) (hG : jG0 A s) (σ : jRS) (y0 : Int64) (hw : wX7_window_73 N σ y0 post) : jJ p l e rmX7_window s m args below meth c 0 0 (MQ below (va_Ql post (jE D (jT cI cJ cZ cO) A (rcells a cI cJ cZ)) A) args s 0 0 A) D A 4 (rcells a cI cJ cZ σ) [] 73 [.long y0] := by
  unfold wX7_window_73 at hw
  refine j_lstore_n (pc := 73) (lv' := [(2, .long y0)]) C [0] dX7_window_73 rfl (by decide) rfl ?_
  refine j_lload_n (pc := 74) C dX7_window_74 0 rfl rfl ?_
  refine j_ldc2 (pc := 75) (v := 4) C dX7_window_75 (by decide +kernel) ?_
  refine j_lcmp (pc := 78) C dX7_window_78 ?_
  refine j_if_ge (pc := 79) C 88 dX7_window_79 (by decide) (fun z_14 => ?_) (fun z_14 => ?_)
  · have hw := hw.1 z_14
    refine j_lload_n (pc := 88) C dX7_window_88 0 rfl rfl ?_
    exact j_lret (pc := 89) C hr σ rfl hw dX7_window_89
  · have hw := hw.2 z_14
    refine j_ldc2 (pc := 82) (v := 4) C dX7_window_82 (by decide +kernel) ?_
    refine j_goto (pc := 85) C 89 dX7_window_85 (by decide) ?_
    exact j_lret (pc := 89) C hr σ rfl hw dX7_window_89
def wX7_window (N : Nat) (σ : jRS) (x1 : Int32) (post : Int64 → jRS → Prop) : Prop := vp_in x1 2 ∧ ((¬ (σ.1 39 x1.toNatClampNeg) = 3) → (vp_in x1 2 ∧ (((σ.1 30 x1.toNatClampNeg) = 0) → (wX7_window_34 N σ post)) ∧ ((¬ (σ.1 30 x1.toNatClampNeg) = 0) → (vp_in x1 2 ∧ ((¬ (σ.1 31 x1.toNatClampNeg) = ((-9))) → (vp_in x1 2 ∧ ((¬ (σ.1 39 x1.toNatClampNeg) = 2) → (wX7_product N σ x1 (fun r_23 s_24 => wX7_window_73 N s_24 ((289 * r_23) / 100) post))) ∧ (((σ.1 39 x1.toNatClampNeg) = 2) → (wX7_product N σ x1 (fun r_25 s_26 => wX7_window_73 N s_26 (2 * r_25) post))))) ∧ (((σ.1 31 x1.toNatClampNeg) = ((-9))) → (wX7_window_34 N σ post)))))) ∧ (((σ.1 39 x1.toNatClampNeg) = 3) → (post 4 σ))
set_option maxHeartbeats 4000000 in
set_option maxRecDepth 100000 in
theorem mX7_window {l : Launch} {D : va_G} {cI cJ cZ cO : ClassId} {a : Nat → Nat} {N : Nat} {σ : jRS} {x1 : Int32} {post : Int64 → jRS → Prop} (hw : wX7_window N σ x1 post) : jMl l D (jT cI cJ cZ cO) jG0 yX7_window wsX7_window rmX7_window [.ref (a 0), .int x1] (rcells a cI cJ cZ σ) post (rcells a cI cJ cZ) 0 0 := by
  refine j_ofl (cc := cX7_window) (maxL := 4) (ret := (some .long)) (by decide) rfl (Nat.le_of_ble_eq_true rfl) ?_
  intro p e s m args below meth c A C hr hnm hG
  refine j_sub (lv' := [(0, .ref (a 0)), (1, .int x1)]) [0, 1] rfl ?_
  unfold wX7_window at hw
  refine j_aload_n (pc := 0) C dX7_window_0 0 rfl rfl ?_
  refine j_get (ref := RX7) (pc := 1) C hiX7_window 0 (r_at0 a cI cJ cZ σ) rfl 39 (by decide) lkX7_window_103 (r_fl39 a σ) dX7_window_1 ?_
  refine j_iload_n (pc := 4) C dX7_window_4 1 rfl rfl ?_
  obtain ⟨h_15, hw⟩ := hw
  refine j_iald (pc := 5) C 27 0 (r_at39 a cI cJ cZ σ) rfl h_15 dX7_window_5 ?_
  refine j_iconst (pc := 6) (v := 3) C dX7_window_6 (by decide) ?_
  refine j_icmp_ne (pc := 7) C 14 dX7_window_7 (by decide) (fun z_16 => ?_) (fun z_16 => ?_)
  · have hw := hw.1 z_16
    refine j_aload_n (pc := 14) C dX7_window_14 0 rfl rfl ?_
    refine j_get (ref := RX7) (pc := 15) C hiX7_window 0 (r_at0 a cI cJ cZ σ) rfl 30 (by decide) lkX7_window_75 (r_fl30 a σ) dX7_window_15 ?_
    refine j_iload_n (pc := 18) C dX7_window_18 1 rfl rfl ?_
    obtain ⟨h_17, hw⟩ := hw
    refine j_iald (pc := 19) C 18 0 (r_at30 a cI cJ cZ σ) rfl h_17 dX7_window_19 ?_
    refine j_if_eq (pc := 20) C 34 dX7_window_20 (by decide) (fun z_18 => ?_) (fun z_18 => ?_)
    · have hw := hw.1 z_18
      refine j_sub [] rfl ?_
      exact kX7_window_34 C hr hG _ hw
    · have hw := hw.2 z_18
      refine j_aload_n (pc := 23) C dX7_window_23 0 rfl rfl ?_
      refine j_get (ref := RX7) (pc := 24) C hiX7_window 0 (r_at0 a cI cJ cZ σ) rfl 31 (by decide) lkX7_window_78 (r_fl31 a σ) dX7_window_24 ?_
      refine j_iload_n (pc := 27) C dX7_window_27 1 rfl rfl ?_
      obtain ⟨h_19, hw⟩ := hw
      refine j_iald (pc := 28) C 19 0 (r_at31 a cI cJ cZ σ) rfl h_19 dX7_window_28 ?_
      refine j_bipush (pc := 29) (v := (-9)) C dX7_window_29 (by decide) ?_
      refine j_icmp_ne (pc := 31) C 38 dX7_window_31 (by decide) (fun z_20 => ?_) (fun z_20 => ?_)
      · have hw := hw.1 z_20
        refine j_aload_n (pc := 38) C dX7_window_38 0 rfl rfl ?_
        refine j_get (ref := RX7) (pc := 39) C hiX7_window 0 (r_at0 a cI cJ cZ σ) rfl 39 (by decide) lkX7_window_103 (r_fl39 a σ) dX7_window_39 ?_
        refine j_iload_n (pc := 42) C dX7_window_42 1 rfl rfl ?_
        obtain ⟨h_21, hw⟩ := hw
        refine j_iald (pc := 43) C 27 0 (r_at39 a cI cJ cZ σ) rfl h_21 dX7_window_43 ?_
        refine j_iconst (pc := 44) (v := 2) C dX7_window_44 (by decide) ?_
        refine j_icmp_ne (pc := 45) C 60 dX7_window_45 (by decide) (fun z_22 => ?_) (fun z_22 => ?_)
        · have hw := hw.1 z_22
          refine j_ldc2 (pc := 60) (v := 289) C dX7_window_60 (by decide +kernel) ?_
          refine j_aload_n (pc := 63) C dX7_window_63 0 rfl rfl ?_
          refine j_iload_n (pc := 64) C dX7_window_64 1 rfl rfl ?_
          refine j_calll0 (pc := 65) C jG0_ok trivial 1 (mX7_product hw) gX7_window_X7_product rfl rfl rfl (by decide +kernel) ⟨by decide, by decide⟩ 0 (r_at0 a cI cJ cZ σ) rfl rfl rfl (Nat.le_of_ble_eq_true rfl) dX7_window_65 ⟨Nat.le_refl _, Nat.le_refl _⟩ (fun r_23 s_24 hw => ?_)
          refine j_lmul (pc := 68) C dX7_window_68 ?_
          refine j_ldc2 (pc := 69) (v := 100) C dX7_window_69 (by decide +kernel) ?_
          refine j_ldiv (pc := 72) C dX7_window_72 (by decide) ?_
          refine j_sub [] rfl ?_
          exact kX7_window_73 C hr hG _ _ hw
        · have hw := hw.2 z_22
          refine j_ldc2 (pc := 48) (v := 2) C dX7_window_48 (by decide +kernel) ?_
          refine j_aload_n (pc := 51) C dX7_window_51 0 rfl rfl ?_
          refine j_iload_n (pc := 52) C dX7_window_52 1 rfl rfl ?_
          refine j_calll0 (pc := 53) C jG0_ok trivial 1 (mX7_product hw) gX7_window_X7_product rfl rfl rfl (by decide +kernel) ⟨by decide, by decide⟩ 0 (r_at0 a cI cJ cZ σ) rfl rfl rfl (Nat.le_of_ble_eq_true rfl) dX7_window_53 ⟨Nat.le_refl _, Nat.le_refl _⟩ (fun r_25 s_26 hw => ?_)
          refine j_lmul (pc := 56) C dX7_window_56 ?_
          refine j_goto (pc := 57) C 73 dX7_window_57 (by decide) ?_
          refine j_sub [] rfl ?_
          exact kX7_window_73 C hr hG _ _ hw
      · have hw := hw.2 z_20
        refine j_sub [] rfl ?_
        exact kX7_window_34 C hr hG _ hw
  · have hw := hw.2 z_16
    refine j_ldc2 (pc := 10) (v := 4) C dX7_window_10 (by decide +kernel) ?_
    exact j_lret (pc := 13) C hr σ rfl hw dX7_window_13

def rmX7_gain : Room := { frames := 0, cells := 0, slots := 0, locals := 0 }
theorem hiX7_gain : ∀ w ∈ u_ws RX7 TX7 50, w ∈ wsX7_gain := fun w h => List.mem_cons_of_mem _ (List.mem_append_right _ h)
theorem lkX7_gain_103 : Cond.fieldLink yX7_gain.cls 103 (TX7 39).1 (TX7 39).2.1 (TX7 39).2.2.1 ∈ wsX7_gain := by decide +kernel
theorem lkX7_gain_106 : Cond.fieldLink yX7_gain.cls 106 (TX7 40).1 (TX7 40).2.1 (TX7 40).2.2.1 ∈ wsX7_gain := by decide +kernel
def wX7_gain (N : Nat) (σ : jRS) (x1 : Int32) (post : Int32 → jRS → Prop) : Prop := vp_in x1 2 ∧ ∀ v_16 : Int32, v_16 = σ.1 39 x1.toNatClampNeg → ((v_16 = 0) → (post 289 σ)) ∧ ((¬ v_16 = 0) → (((v_16 = 1) → (post 35 σ)) ∧ ((¬ v_16 = 1) → (((v_16 = 2) → (vp_in x1 2 ∧ ((¬ (σ.1 40 x1.toNatClampNeg) = 0) → (vp_in x1 2 ∧ ((¬ (σ.1 40 x1.toNatClampNeg) = 1) → (post 100 σ)) ∧ (((σ.1 40 x1.toNatClampNeg) = 1) → (post 75 σ)))) ∧ (((σ.1 40 x1.toNatClampNeg) = 0) → (post 125 σ)))) ∧ ((¬ v_16 = 2) → (((v_16 = 3) → (post 100 σ)) ∧ ((¬ v_16 = 3) → (vp_in x1 2 ∧ ((¬ (σ.1 40 x1.toNatClampNeg) = 0) → (vp_in x1 2 ∧ ((¬ (σ.1 40 x1.toNatClampNeg) = 1) → (post 100 σ)) ∧ (((σ.1 40 x1.toNatClampNeg) = 1) → (post 75 σ)))) ∧ (((σ.1 40 x1.toNatClampNeg) = 0) → (post 125 σ))))))))))
set_option maxHeartbeats 4000000 in
set_option maxRecDepth 100000 in
theorem mX7_gain {l : Launch} {D : va_G} {cI cJ cZ cO : ClassId} {a : Nat → Nat} {N : Nat} {σ : jRS} {x1 : Int32} {post : Int32 → jRS → Prop} (hw : wX7_gain N σ x1 post) : jMi l D (jT cI cJ cZ cO) jG0 yX7_gain wsX7_gain rmX7_gain [.ref (a 0), .int x1] (rcells a cI cJ cZ σ) post (rcells a cI cJ cZ) 0 0 := by
  refine j_ofi (cc := cX7_gain) (maxL := 2) (ret := (some .int)) (by decide) rfl (Nat.le_of_ble_eq_true rfl) ?_
  intro p e s m args below meth c A C hr hnm hG
  refine j_sub (lv' := [(0, .ref (a 0)), (1, .int x1)]) [0, 1] rfl ?_
  unfold wX7_gain at hw
  refine j_aload_n (pc := 0) C dX7_gain_0 0 rfl rfl ?_
  refine j_get (ref := RX7) (pc := 1) C hiX7_gain 0 (r_at0 a cI cJ cZ σ) rfl 39 (by decide) lkX7_gain_103 (r_fl39 a σ) dX7_gain_1 ?_
  refine j_iload_n (pc := 4) C dX7_gain_4 1 rfl rfl ?_
  obtain ⟨h_15, hw⟩ := hw
  refine j_iald (pc := 5) C 27 0 (r_at39 a cI cJ cZ σ) rfl h_15 dX7_gain_5 ?_
  refine j_topi (fun v_16 ev_16 => ?_)
  have hw := hw v_16 ev_16
  by_cases z_17 : v_16 = 0
  · have hw := hw.1 z_17
    refine j_tableIn (pc := 6) C 36 dX7_gain_6 (by rw [z_17]; decide) (by rw [z_17]; decide) (by rw [z_17]; rfl) (by decide) ?_
    refine j_sipush (pc := 36) (v := 289) C dX7_gain_36 (by decide) ?_
    exact j_iret (pc := 39) C hr σ rfl hw dX7_gain_39
  · have hw := hw.2 z_17
    by_cases z_18 : v_16 = 1
    · have hw := hw.1 z_18
      refine j_tableIn (pc := 6) C 40 dX7_gain_6 (by rw [z_18]; decide) (by rw [z_18]; decide) (by rw [z_18]; rfl) (by decide) ?_
      refine j_bipush (pc := 40) (v := 35) C dX7_gain_40 (by decide) ?_
      exact j_iret (pc := 42) C hr σ rfl hw dX7_gain_42
    · have hw := hw.2 z_18
      by_cases z_19 : v_16 = 2
      · have hw := hw.1 z_19
        refine j_tableIn (pc := 6) C 46 dX7_gain_6 (by rw [z_19]; decide) (by rw [z_19]; decide) (by rw [z_19]; rfl) (by decide) ?_
        refine j_aload_n (pc := 46) C dX7_gain_46 0 rfl rfl ?_
        refine j_get (ref := RX7) (pc := 47) C hiX7_gain 0 (r_at0 a cI cJ cZ σ) rfl 40 (by decide) lkX7_gain_106 (r_fl40 a σ) dX7_gain_47 ?_
        refine j_iload_n (pc := 50) C dX7_gain_50 1 rfl rfl ?_
        obtain ⟨h_20, hw⟩ := hw
        refine j_iald (pc := 51) C 28 0 (r_at40 a cI cJ cZ σ) rfl h_20 dX7_gain_51 ?_
        refine j_if_ne (pc := 52) C 60 dX7_gain_52 (by decide) (fun z_21 => ?_) (fun z_21 => ?_)
        · have hw := hw.1 z_21
          refine j_aload_n (pc := 60) C dX7_gain_60 0 rfl rfl ?_
          refine j_get (ref := RX7) (pc := 61) C hiX7_gain 0 (r_at0 a cI cJ cZ σ) rfl 40 (by decide) lkX7_gain_106 (r_fl40 a σ) dX7_gain_61 ?_
          refine j_iload_n (pc := 64) C dX7_gain_64 1 rfl rfl ?_
          obtain ⟨h_22, hw⟩ := hw
          refine j_iald (pc := 65) C 28 0 (r_at40 a cI cJ cZ σ) rfl h_22 dX7_gain_65 ?_
          refine j_iconst (pc := 66) (v := 1) C dX7_gain_66 (by decide) ?_
          refine j_icmp_ne (pc := 67) C 75 dX7_gain_67 (by decide) (fun z_23 => ?_) (fun z_23 => ?_)
          · have hw := hw.1 z_23
            refine j_bipush (pc := 75) (v := 100) C dX7_gain_75 (by decide) ?_
            exact j_iret (pc := 77) C hr σ rfl hw dX7_gain_77
          · have hw := hw.2 z_23
            refine j_bipush (pc := 70) (v := 75) C dX7_gain_70 (by decide) ?_
            refine j_goto (pc := 72) C 77 dX7_gain_72 (by decide) ?_
            exact j_iret (pc := 77) C hr σ rfl hw dX7_gain_77
        · have hw := hw.2 z_21
          refine j_bipush (pc := 55) (v := 125) C dX7_gain_55 (by decide) ?_
          refine j_goto (pc := 57) C 77 dX7_gain_57 (by decide) ?_
          exact j_iret (pc := 77) C hr σ rfl hw dX7_gain_77
      · have hw := hw.2 z_19
        by_cases z_24 : v_16 = 3
        · have hw := hw.1 z_24
          refine j_tableIn (pc := 6) C 43 dX7_gain_6 (by rw [z_24]; decide) (by rw [z_24]; decide) (by rw [z_24]; rfl) (by decide) ?_
          refine j_bipush (pc := 43) (v := 100) C dX7_gain_43 (by decide) ?_
          exact j_iret (pc := 45) C hr σ rfl hw dX7_gain_45
        · have hw := hw.2 z_24
          have q0 := j_ne z_17 0 (by decide)
          have q1 := j_ne z_18 1 (by decide)
          have q2 := j_ne z_19 2 (by decide)
          have q3 := j_ne z_24 3 (by decide)
          refine j_tableOut (pc := 6) C 46 dX7_gain_6 (by omega) (by decide) ?_
          refine j_aload_n (pc := 46) C dX7_gain_46 0 rfl rfl ?_
          refine j_get (ref := RX7) (pc := 47) C hiX7_gain 0 (r_at0 a cI cJ cZ σ) rfl 40 (by decide) lkX7_gain_106 (r_fl40 a σ) dX7_gain_47 ?_
          refine j_iload_n (pc := 50) C dX7_gain_50 1 rfl rfl ?_
          obtain ⟨h_25, hw⟩ := hw
          refine j_iald (pc := 51) C 28 0 (r_at40 a cI cJ cZ σ) rfl h_25 dX7_gain_51 ?_
          refine j_if_ne (pc := 52) C 60 dX7_gain_52 (by decide) (fun z_26 => ?_) (fun z_26 => ?_)
          · have hw := hw.1 z_26
            refine j_aload_n (pc := 60) C dX7_gain_60 0 rfl rfl ?_
            refine j_get (ref := RX7) (pc := 61) C hiX7_gain 0 (r_at0 a cI cJ cZ σ) rfl 40 (by decide) lkX7_gain_106 (r_fl40 a σ) dX7_gain_61 ?_
            refine j_iload_n (pc := 64) C dX7_gain_64 1 rfl rfl ?_
            obtain ⟨h_27, hw⟩ := hw
            refine j_iald (pc := 65) C 28 0 (r_at40 a cI cJ cZ σ) rfl h_27 dX7_gain_65 ?_
            refine j_iconst (pc := 66) (v := 1) C dX7_gain_66 (by decide) ?_
            refine j_icmp_ne (pc := 67) C 75 dX7_gain_67 (by decide) (fun z_28 => ?_) (fun z_28 => ?_)
            · have hw := hw.1 z_28
              refine j_bipush (pc := 75) (v := 100) C dX7_gain_75 (by decide) ?_
              exact j_iret (pc := 77) C hr σ rfl hw dX7_gain_77
            · have hw := hw.2 z_28
              refine j_bipush (pc := 70) (v := 75) C dX7_gain_70 (by decide) ?_
              refine j_goto (pc := 72) C 77 dX7_gain_72 (by decide) ?_
              exact j_iret (pc := 77) C hr σ rfl hw dX7_gain_77
          · have hw := hw.2 z_26
            refine j_bipush (pc := 55) (v := 125) C dX7_gain_55 (by decide) ?_
            refine j_goto (pc := 57) C 77 dX7_gain_57 (by decide) ?_
            exact j_iret (pc := 77) C hr σ rfl hw dX7_gain_77

def rmX7_isOpen : Room := { frames := 2, cells := 0, slots := 0, locals := 44 }
theorem hiX7_isOpen : ∀ w ∈ u_ws RX7 TX7 50, w ∈ wsX7_isOpen := fun w h => List.mem_cons_of_mem _ (List.mem_append_right _ h)
theorem lkX7_isOpen_32 : Cond.fieldLink yX7_isOpen.cls 32 (TX7 16).1 (TX7 16).2.1 (TX7 16).2.2.1 ∈ wsX7_isOpen := by decide +kernel
theorem lkX7_isOpen_84 : Cond.fieldLink yX7_isOpen.cls 84 (TX7 33).1 (TX7 33).2.1 (TX7 33).2.2.1 ∈ wsX7_isOpen := by decide +kernel
theorem lkX7_isOpen_146 : Cond.fieldLink yX7_isOpen.cls 146 (TX7 0).1 (TX7 0).2.1 (TX7 0).2.2.1 ∈ wsX7_isOpen := by decide +kernel
def wX7_isOpen (N : Nat) (σ : jRS) (x1 : Int32) (post : Int32 → jRS → Prop) : Prop := vp_in x1 2 ∧ wX7_window N σ x1 (fun r_8 s_9 => ((0 ≤ (lg_cmp ((σ.1 16 x1.toNatClampNeg).toInt64) r_8)) → (post 0 s_9)) ∧ ((¬ 0 ≤ (lg_cmp ((σ.1 16 x1.toNatClampNeg).toInt64) r_8)) → (vp_in x1 2 ∧ ((0 < (lg_cmp (s_9.2 x1.toNatClampNeg) (1000 * ((s_9.1 0 0).toInt64)))) → (post 0 s_9)) ∧ ((¬ 0 < (lg_cmp (s_9.2 x1.toNatClampNeg) (1000 * ((s_9.1 0 0).toInt64)))) → (post 1 s_9)))))
set_option maxHeartbeats 4000000 in
set_option maxRecDepth 100000 in
theorem mX7_isOpen {l : Launch} {D : va_G} {cI cJ cZ cO : ClassId} {a : Nat → Nat} {N : Nat} {σ : jRS} {x1 : Int32} {post : Int32 → jRS → Prop} (hw : wX7_isOpen N σ x1 post) : jMi l D (jT cI cJ cZ cO) jG0 yX7_isOpen wsX7_isOpen rmX7_isOpen [.ref (a 0), .int x1] (rcells a cI cJ cZ σ) post (rcells a cI cJ cZ) 0 0 := by
  refine j_ofi (cc := cX7_isOpen) (maxL := 2) (ret := (some .boolean)) (by decide) rfl (Nat.le_of_ble_eq_true rfl) ?_
  intro p e s m args below meth c A C hr hnm hG
  refine j_sub (lv' := [(0, .ref (a 0)), (1, .int x1)]) [0, 1] rfl ?_
  unfold wX7_isOpen at hw
  refine j_aload_n (pc := 0) C dX7_isOpen_0 0 rfl rfl ?_
  refine j_get (ref := RX7) (pc := 1) C hiX7_isOpen 0 (r_at0 a cI cJ cZ σ) rfl 16 (by decide) lkX7_isOpen_32 (r_fl16 a σ) dX7_isOpen_1 ?_
  refine j_iload_n (pc := 4) C dX7_isOpen_4 1 rfl rfl ?_
  obtain ⟨h_7, hw⟩ := hw
  refine j_iald (pc := 5) C 4 0 (r_at16 a cI cJ cZ σ) rfl h_7 dX7_isOpen_5 ?_
  refine j_i2l (pc := 6) C dX7_isOpen_6 ?_
  refine j_aload_n (pc := 7) C dX7_isOpen_7 0 rfl rfl ?_
  refine j_iload_n (pc := 8) C dX7_isOpen_8 1 rfl rfl ?_
  refine j_calll0 (pc := 9) C jG0_ok trivial 1 (mX7_window hw) gX7_isOpen_X7_window rfl rfl rfl (by decide +kernel) ⟨by decide, by decide⟩ 0 (r_at0 a cI cJ cZ σ) rfl rfl rfl (Nat.le_of_ble_eq_true rfl) dX7_isOpen_9 ⟨Nat.le_refl _, Nat.le_refl _⟩ (fun r_8 s_9 hw => ?_)
  refine j_lcmp (pc := 12) C dX7_isOpen_12 ?_
  refine j_if_ge (pc := 13) C 39 dX7_isOpen_13 (by decide) (fun z_10 => ?_) (fun z_10 => ?_)
  · have hw := hw.1 z_10
    refine j_iconst (pc := 39) (v := 0) C dX7_isOpen_39 (by decide) ?_
    exact j_zret (pc := 40) C hr (by decide) s_9 rfl hw dX7_isOpen_40
  · have hw := hw.2 z_10
    refine j_aload_n (pc := 16) C dX7_isOpen_16 0 rfl rfl ?_
    refine j_get (ref := RX7) (pc := 17) C hiX7_isOpen 0 (r_at0 a cI cJ cZ s_9) rfl 33 (by decide) lkX7_isOpen_84 (r_fl33 a s_9) dX7_isOpen_17 ?_
    refine j_iload_n (pc := 20) C dX7_isOpen_20 1 rfl rfl ?_
    obtain ⟨h_11, hw⟩ := hw
    refine j_lald (pc := 21) C 21 1 (r_at33 a cI cJ cZ s_9) rfl h_11 dX7_isOpen_21 ?_
    refine j_ldc2 (pc := 22) (v := 1000) C dX7_isOpen_22 (by decide +kernel) ?_
    refine j_aload_n (pc := 25) C dX7_isOpen_25 0 rfl rfl ?_
    refine j_get (ref := RX7) (pc := 26) C hiX7_isOpen 0 (r_at0 a cI cJ cZ s_9) rfl 0 (by decide) lkX7_isOpen_146 (r_fl0 a s_9) dX7_isOpen_26 ?_
    refine j_i2l (pc := 29) C dX7_isOpen_29 ?_
    refine j_lmul (pc := 30) C dX7_isOpen_30 ?_
    refine j_lcmp (pc := 31) C dX7_isOpen_31 ?_
    refine j_if_gt (pc := 32) C 39 dX7_isOpen_32 (by decide) (fun z_12 => ?_) (fun z_12 => ?_)
    · have hw := hw.1 z_12
      refine j_iconst (pc := 39) (v := 0) C dX7_isOpen_39 (by decide) ?_
      exact j_zret (pc := 40) C hr (by decide) s_9 rfl hw dX7_isOpen_40
    · have hw := hw.2 z_12
      refine j_iconst (pc := 35) (v := 1) C dX7_isOpen_35 (by decide) ?_
      refine j_goto (pc := 36) C 40 dX7_isOpen_36 (by decide) ?_
      exact j_zret (pc := 40) C hr (by decide) s_9 rfl hw dX7_isOpen_40

def rmX7_sends : Room := { frames := 2, cells := 0, slots := 0, locals := 44 }
theorem hiX7_sends : ∀ w ∈ u_ws RX7 TX7 50, w ∈ wsX7_sends := fun w h => List.mem_cons_of_mem _ (List.mem_append_right _ h)
theorem lkX7_sends_54 : Cond.fieldLink yX7_sends.cls 54 (TX7 23).1 (TX7 23).2.1 (TX7 23).2.2.1 ∈ wsX7_sends := by decide +kernel
theorem lkX7_sends_57 : Cond.fieldLink yX7_sends.cls 57 (TX7 24).1 (TX7 24).2.1 (TX7 24).2.2.1 ∈ wsX7_sends := by decide +kernel
theorem lkX7_sends_63 : Cond.fieldLink yX7_sends.cls 63 (TX7 26).1 (TX7 26).2.1 (TX7 26).2.2.1 ∈ wsX7_sends := by decide +kernel
theorem lkX7_sends_32 : Cond.fieldLink yX7_sends.cls 32 (TX7 16).1 (TX7 16).2.1 (TX7 16).2.2.1 ∈ wsX7_sends := by decide +kernel
theorem lkX7_sends_146 : Cond.fieldLink yX7_sends.cls 146 (TX7 0).1 (TX7 0).2.1 (TX7 0).2.2.1 ∈ wsX7_sends := by decide +kernel
theorem lkX7_sends_88 : Cond.fieldLink yX7_sends.cls 88 (TX7 34).1 (TX7 34).2.1 (TX7 34).2.2.1 ∈ wsX7_sends := by decide +kernel
theorem lkX7_sends_35 : Cond.fieldLink yX7_sends.cls 35 (TX7 17).1 (TX7 17).2.1 (TX7 17).2.2.1 ∈ wsX7_sends := by decide +kernel
theorem lkX7_sends_38 : Cond.fieldLink yX7_sends.cls 38 (TX7 18).1 (TX7 18).2.1 (TX7 18).2.2.1 ∈ wsX7_sends := by decide +kernel
theorem lkX7_sends_41 : Cond.fieldLink yX7_sends.cls 41 (TX7 19).1 (TX7 19).2.1 (TX7 19).2.2.1 ∈ wsX7_sends := by decide +kernel
theorem lkX7_sends_60 : Cond.fieldLink yX7_sends.cls 60 (TX7 25).1 (TX7 25).2.1 (TX7 25).2.2.1 ∈ wsX7_sends := by decide +kernel
theorem lkX7_sends_44 : Cond.fieldLink yX7_sends.cls 44 (TX7 20).1 (TX7 20).2.1 (TX7 20).2.2.1 ∈ wsX7_sends := by decide +kernel
theorem lkX7_sends_47 : Cond.fieldLink yX7_sends.cls 47 (TX7 21).1 (TX7 21).2.1 (TX7 21).2.2.1 ∈ wsX7_sends := by decide +kernel
theorem lkX7_sends_66 : Cond.fieldLink yX7_sends.cls 66 (TX7 27).1 (TX7 27).2.1 (TX7 27).2.2.1 ∈ wsX7_sends := by decide +kernel
theorem lkX7_sends_51 : Cond.fieldLink yX7_sends.cls 51 (TX7 22).1 (TX7 22).2.1 (TX7 22).2.2.1 ∈ wsX7_sends := by decide +kernel
theorem lkX7_sends_75 : Cond.fieldLink yX7_sends.cls 75 (TX7 30).1 (TX7 30).2.1 (TX7 30).2.2.1 ∈ wsX7_sends := by decide +kernel
theorem lkX7_sends_84 : Cond.fieldLink yX7_sends.cls 84 (TX7 33).1 (TX7 33).2.1 (TX7 33).2.2.1 ∈ wsX7_sends := by decide +kernel
def wX7_sends_224 (N : Nat) (σ : jRS) (x1 : Int32) (x3 : Int32) (y0 : Int64) (post : Int32 → jRS → Prop) : Prop := vp_in x1 2 ∧ wX7_gain N σ x1 (fun r_61 s_62 => (¬ ((σ.1 30 x1.toNatClampNeg).toInt64) * r_61.toInt64 = 0) ∧ ∀ v_64 : Int64, v_64 = y0 + (100000000 / (((σ.1 30 x1.toNatClampNeg).toInt64) * r_61.toInt64)) → vp_in x1 2 ∧ ∀ s_66 : jRS, s_66 = rL s_62 x1.toNatClampNeg v_64 → (x3 = 0 ∨ x3 = 1) ∧ post x3 s_66)
set_option maxHeartbeats 4000000 in
set_option maxRecDepth 100000 in
theorem kX7_sends_224 {p : Program} {l : Launch} {e : Env} {s : State} {m : MethodId} {args : Array Value} {below : List Frame} {meth : Method} {c : Code} {D : va_G} {cI cJ cZ cO : ClassId} {a : Nat → Nat} {A : Nat → Prop} {N : Nat} {post : Int32 → jRS → Prop} (C : jC p s m args meth c cX7_sends 6 yX7_sends.cls wsX7_sends D (jT cI cJ cZ cO) A) (hr : meth.sig.returnType = (some .boolean)) (hG : jG0 A s) (σ : jRS) (x1 : Int32) (x3 : Int32) (y0 : Int64) (hw : wX7_sends_224 N σ x1 x3 y0 post) : jJ p l e rmX7_sends s m args below meth c 0 0 (MQ below (va_Qi post (jE D (jT cI cJ cZ cO) A (rcells a cI cJ cZ)) A) args s 0 0 A) D A 6 (rcells a cI cJ cZ σ) [(0, .ref (a 0)), (1, .int x1), (3, .int x3)] 224 [.long y0] := by
  unfold wX7_sends_224 at hw
  refine j_lstore (pc := 224) (lv' := [(0, .ref (a 0)), (1, .int x1), (3, .int x3), (4, .long y0)]) C [1, 2, 3, 0] dX7_sends_224 (by decide) rfl ?_
  refine j_aload_n (pc := 226) C dX7_sends_226 0 rfl rfl ?_
  refine j_get (ref := RX7) (pc := 227) C hiX7_sends 0 (r_at0 a cI cJ cZ σ) rfl 33 (by decide) lkX7_sends_84 (r_fl33 a σ) dX7_sends_227 ?_
  refine j_iload_n (pc := 230) C dX7_sends_230 1 rfl rfl ?_
  refine j_lload (pc := 231) C dX7_sends_231 3 rfl ?_
  refine j_ldc2 (pc := 233) (v := 100000000) C dX7_sends_233 (by decide +kernel) ?_
  refine j_aload_n (pc := 236) C dX7_sends_236 0 rfl rfl ?_
  refine j_get (ref := RX7) (pc := 237) C hiX7_sends 0 (r_at0 a cI cJ cZ σ) rfl 30 (by decide) lkX7_sends_75 (r_fl30 a σ) dX7_sends_237 ?_
  refine j_iload_n (pc := 240) C dX7_sends_240 1 rfl rfl ?_
  obtain ⟨h_60, hw⟩ := hw
  refine j_iald (pc := 241) C 18 0 (r_at30 a cI cJ cZ σ) rfl h_60 dX7_sends_241 ?_
  refine j_i2l (pc := 242) C dX7_sends_242 ?_
  refine j_aload_n (pc := 243) C dX7_sends_243 0 rfl rfl ?_
  refine j_iload_n (pc := 244) C dX7_sends_244 1 rfl rfl ?_
  refine j_calli0 (pc := 245) C jG0_ok trivial 1 (mX7_gain hw) gX7_sends_X7_gain rfl rfl rfl (by decide +kernel) ⟨by decide, by decide⟩ 0 (r_at0 a cI cJ cZ σ) rfl rfl rfl (Nat.le_of_ble_eq_true rfl) dX7_sends_245 ⟨Nat.le_refl _, Nat.le_refl _⟩ (fun r_61 s_62 hw => ?_)
  refine j_i2l (pc := 248) C dX7_sends_248 ?_
  refine j_lmul (pc := 249) C dX7_sends_249 ?_
  obtain ⟨h_63, hw⟩ := hw
  refine j_ldiv (pc := 250) C dX7_sends_250 h_63 ?_
  refine j_ladd (pc := 251) C dX7_sends_251 ?_
  refine j_topl (fun v_64 ev_64 => ?_)
  have hw := hw v_64 ev_64
  obtain ⟨h_65, hw⟩ := hw
  refine j_last (pc := 252) C 21 1 (r_at33 a cI cJ cZ s_62) rfl h_65 dX7_sends_252 (j_ws (r_s33 a cI cJ cZ s_62 x1.toNatClampNeg v_64) ?_)
  refine j_nmS (F := rcells a cI cJ cZ) (fun s_66 es_66 => ?_)
  have hw := hw s_66 es_66
  refine j_iload_n (pc := 253) C dX7_sends_253 2 rfl rfl ?_
  exact j_zret (pc := 254) C hr hw.1 s_66 rfl hw.2 dX7_sends_254
def wX7_sends_178 (N : Nat) (σ : jRS) (x1 : Int32) (x3 : Int32) (post : Int32 → jRS → Prop) : Prop := vp_in x1 2 ∧ (((σ.1 30 x1.toNatClampNeg) ≤ 0) → ((x3 = 0 ∨ x3 = 1) ∧ post x3 σ)) ∧ ((¬ (σ.1 30 x1.toNatClampNeg) ≤ 0) → (vp_in x1 2 ∧ (((lg_cmp (σ.2 x1.toNatClampNeg) (1000 * ((σ.1 0 0).toInt64))) ≤ 0) → (wX7_sends_224 N σ x1 x3 (1000 * ((σ.1 0 0).toInt64)) post)) ∧ ((¬ (lg_cmp (σ.2 x1.toNatClampNeg) (1000 * ((σ.1 0 0).toInt64))) ≤ 0) → (vp_in x1 2 ∧ wX7_sends_224 N σ x1 x3 (σ.2 x1.toNatClampNeg) post))))
set_option maxHeartbeats 4000000 in
set_option maxRecDepth 100000 in
theorem kX7_sends_178 {p : Program} {l : Launch} {e : Env} {s : State} {m : MethodId} {args : Array Value} {below : List Frame} {meth : Method} {c : Code} {D : va_G} {cI cJ cZ cO : ClassId} {a : Nat → Nat} {A : Nat → Prop} {N : Nat} {post : Int32 → jRS → Prop} (C : jC p s m args meth c cX7_sends 6 yX7_sends.cls wsX7_sends D (jT cI cJ cZ cO) A) (hr : meth.sig.returnType = (some .boolean)) (hG : jG0 A s) (σ : jRS) (x1 : Int32) (x3 : Int32) (hw : wX7_sends_178 N σ x1 x3 post) : jJ p l e rmX7_sends s m args below meth c 0 0 (MQ below (va_Qi post (jE D (jT cI cJ cZ cO) A (rcells a cI cJ cZ)) A) args s 0 0 A) D A 6 (rcells a cI cJ cZ σ) [(0, .ref (a 0)), (1, .int x1), (3, .int x3)] 178 [] := by
  unfold wX7_sends_178 at hw
  refine j_aload_n (pc := 178) C dX7_sends_178 0 rfl rfl ?_
  refine j_get (ref := RX7) (pc := 179) C hiX7_sends 0 (r_at0 a cI cJ cZ σ) rfl 30 (by decide) lkX7_sends_75 (r_fl30 a σ) dX7_sends_179 ?_
  refine j_iload_n (pc := 182) C dX7_sends_182 1 rfl rfl ?_
  obtain ⟨h_67, hw⟩ := hw
  refine j_iald (pc := 183) C 18 0 (r_at30 a cI cJ cZ σ) rfl h_67 dX7_sends_183 ?_
  refine j_if_le (pc := 184) C 253 dX7_sends_184 (by decide) (fun z_68 => ?_) (fun z_68 => ?_)
  · have hw := hw.1 z_68
    refine j_iload_n (pc := 253) C dX7_sends_253 2 rfl rfl ?_
    exact j_zret (pc := 254) C hr hw.1 σ rfl hw.2 dX7_sends_254
  · have hw := hw.2 z_68
    refine j_aload_n (pc := 187) C dX7_sends_187 0 rfl rfl ?_
    refine j_get (ref := RX7) (pc := 188) C hiX7_sends 0 (r_at0 a cI cJ cZ σ) rfl 33 (by decide) lkX7_sends_84 (r_fl33 a σ) dX7_sends_188 ?_
    refine j_iload_n (pc := 191) C dX7_sends_191 1 rfl rfl ?_
    obtain ⟨h_69, hw⟩ := hw
    refine j_lald (pc := 192) C 21 1 (r_at33 a cI cJ cZ σ) rfl h_69 dX7_sends_192 ?_
    refine j_ldc2 (pc := 193) (v := 1000) C dX7_sends_193 (by decide +kernel) ?_
    refine j_aload_n (pc := 196) C dX7_sends_196 0 rfl rfl ?_
    refine j_get (ref := RX7) (pc := 197) C hiX7_sends 0 (r_at0 a cI cJ cZ σ) rfl 0 (by decide) lkX7_sends_146 (r_fl0 a σ) dX7_sends_197 ?_
    refine j_i2l (pc := 200) C dX7_sends_200 ?_
    refine j_lmul (pc := 201) C dX7_sends_201 ?_
    refine j_lcmp (pc := 202) C dX7_sends_202 ?_
    refine j_if_le (pc := 203) C 215 dX7_sends_203 (by decide) (fun z_70 => ?_) (fun z_70 => ?_)
    · have hw := hw.1 z_70
      refine j_ldc2 (pc := 215) (v := 1000) C dX7_sends_215 (by decide +kernel) ?_
      refine j_aload_n (pc := 218) C dX7_sends_218 0 rfl rfl ?_
      refine j_get (ref := RX7) (pc := 219) C hiX7_sends 0 (r_at0 a cI cJ cZ σ) rfl 0 (by decide) lkX7_sends_146 (r_fl0 a σ) dX7_sends_219 ?_
      refine j_i2l (pc := 222) C dX7_sends_222 ?_
      refine j_lmul (pc := 223) C dX7_sends_223 ?_
      exact kX7_sends_224 C hr hG _ _ _ _ hw
    · have hw := hw.2 z_70
      refine j_aload_n (pc := 206) C dX7_sends_206 0 rfl rfl ?_
      refine j_get (ref := RX7) (pc := 207) C hiX7_sends 0 (r_at0 a cI cJ cZ σ) rfl 33 (by decide) lkX7_sends_84 (r_fl33 a σ) dX7_sends_207 ?_
      refine j_iload_n (pc := 210) C dX7_sends_210 1 rfl rfl ?_
      obtain ⟨h_71, hw⟩ := hw
      refine j_lald (pc := 211) C 21 1 (r_at33 a cI cJ cZ σ) rfl h_71 dX7_sends_211 ?_
      refine j_goto (pc := 212) C 224 dX7_sends_212 (by decide) ?_
      exact kX7_sends_224 C hr hG _ _ _ _ hw
def wX7_sends_145 (N : Nat) (σ : jRS) (x1 : Int32) (x3 : Int32) (x4 : Int32) (y0 : Int32) (y1 : Int32) (post : Int32 → jRS → Prop) : Prop := vp_in y1 1024 ∧ ∀ s_73 : jRS, s_73 = rP σ 21 y1.toNatClampNeg (vp_nar .boolean y0) → vp_in x4 1024 ∧ ∀ s_75 : jRS, s_75 = rP s_73 22 x4.toNatClampNeg (-9) → vp_in x1 2 ∧ ∀ v_77 : Int32, v_77 = (s_75.1 16 x1.toNatClampNeg) + 1 → vp_in x1 2 ∧ ∀ s_79 : jRS, s_79 = rP s_75 16 x1.toNatClampNeg v_77 → wX7_sends_178 N s_79 x1 x3 post
set_option maxHeartbeats 4000000 in
set_option maxRecDepth 100000 in
theorem kX7_sends_145 {p : Program} {l : Launch} {e : Env} {s : State} {m : MethodId} {args : Array Value} {below : List Frame} {meth : Method} {c : Code} {D : va_G} {cI cJ cZ cO : ClassId} {a : Nat → Nat} {A : Nat → Prop} {N : Nat} {post : Int32 → jRS → Prop} (C : jC p s m args meth c cX7_sends 6 yX7_sends.cls wsX7_sends D (jT cI cJ cZ cO) A) (hr : meth.sig.returnType = (some .boolean)) (hG : jG0 A s) (σ : jRS) (x1 : Int32) (x3 : Int32) (x4 : Int32) (y0 : Int32) (y1 : Int32) (hw : wX7_sends_145 N σ x1 x3 x4 y0 y1 post) : jJ p l e rmX7_sends s m args below meth c 0 0 (MQ below (va_Qi post (jE D (jT cI cJ cZ cO) A (rcells a cI cJ cZ)) A) args s 0 0 A) D A 6 (rcells a cI cJ cZ σ) [(0, .ref (a 0)), (1, .int x1), (3, .int x3), (4, .int x4)] 145 [.int y0, .int y1, .ref (a 21)] := by
  unfold wX7_sends_145 at hw
  obtain ⟨h_72, hw⟩ := hw
  refine j_zast (pc := 145) C 9 2 (r_at21 a cI cJ cZ σ) rfl h_72 dX7_sends_145 (j_ws (r_s21 a cI cJ cZ σ y1.toNatClampNeg (vp_nar .boolean y0)) ?_)
  refine j_nmS (F := rcells a cI cJ cZ) (fun s_73 es_73 => ?_)
  have hw := hw s_73 es_73
  refine j_aload_n (pc := 146) C dX7_sends_146 0 rfl rfl ?_
  refine j_get (ref := RX7) (pc := 147) C hiX7_sends 0 (r_at0 a cI cJ cZ s_73) rfl 22 (by decide) lkX7_sends_51 (r_fl22 a s_73) dX7_sends_147 ?_
  refine j_iload (pc := 150) C dX7_sends_150 3 rfl ?_
  refine j_bipush (pc := 152) (v := (-9)) C dX7_sends_152 (by decide) ?_
  obtain ⟨h_74, hw⟩ := hw
  refine j_iast (pc := 154) C 10 0 (r_at22 a cI cJ cZ s_73) rfl h_74 dX7_sends_154 (j_ws (r_s22 a cI cJ cZ s_73 x4.toNatClampNeg (-9)) ?_)
  refine j_nmS (F := rcells a cI cJ cZ) (fun s_75 es_75 => ?_)
  have hw := hw s_75 es_75
  refine j_aload_n (pc := 155) C dX7_sends_155 0 rfl rfl ?_
  refine j_get (ref := RX7) (pc := 156) C hiX7_sends 0 (r_at0 a cI cJ cZ s_75) rfl 16 (by decide) lkX7_sends_32 (r_fl16 a s_75) dX7_sends_156 ?_
  refine j_iload_n (pc := 159) C dX7_sends_159 1 rfl rfl ?_
  refine j_dup2 (pc := 160) C dX7_sends_160 rfl rfl ?_
  obtain ⟨h_76, hw⟩ := hw
  refine j_iald (pc := 161) C 4 0 (r_at16 a cI cJ cZ s_75) rfl h_76 dX7_sends_161 ?_
  refine j_iconst (pc := 162) (v := 1) C dX7_sends_162 (by decide) ?_
  refine j_iadd (pc := 163) C dX7_sends_163 ?_
  refine j_topi (fun v_77 ev_77 => ?_)
  have hw := hw v_77 ev_77
  obtain ⟨h_78, hw⟩ := hw
  refine j_iast (pc := 164) C 4 0 (r_at16 a cI cJ cZ s_75) rfl h_78 dX7_sends_164 (j_ws (r_s16 a cI cJ cZ s_75 x1.toNatClampNeg v_77) ?_)
  refine j_nmS (F := rcells a cI cJ cZ) (fun s_79 es_79 => ?_)
  have hw := hw s_79 es_79
  refine j_goto (pc := 165) C 178 dX7_sends_165 (by decide) ?_
  refine j_sub [0, 1, 2] rfl ?_
  exact kX7_sends_178 C hr hG _ _ _ hw
def wX7_sends_54 (N : Nat) (σ : jRS) (x1 : Int32) (x2 : Int32) (y0 : Int32) (y1 : Int32) (post : Int32 → jRS → Prop) : Prop := vp_in y1 2 ∧ ∀ s_81 : jRS, s_81 = rP σ 26 y1.toNatClampNeg y0 → wX7_comes N s_81 x1 x2 (fun r_82 s_83 => ((r_82 = 0) → (vp_in x1 2 ∧ ∀ v_86 : Int32, v_86 = (s_83.1 34 x1.toNatClampNeg) + 1 → vp_in x1 2 ∧ ∀ s_88 : jRS, s_88 = rP s_83 34 x1.toNatClampNeg v_86 → wX7_sends_178 N s_88 x1 r_82 post)) ∧ ((¬ r_82 = 0) → (vp_in x1 2 ∧ ∀ x4_90 : Int32, x4_90 = (512 * x1) + (s_83.1 16 x1.toNatClampNeg) → vp_in x4_90 1024 ∧ ∀ s_92 : jRS, s_92 = rP s_83 17 x4_90.toNatClampNeg x2 → ∀ v_93 : Int32, v_93 = s_92.1 0 0 → vp_in x4_90 1024 ∧ ∀ s_95 : jRS, s_95 = rP s_92 18 x4_90.toNatClampNeg v_93 → vp_in x1 2 ∧ ∀ v_97 : Int32, v_97 = s_95.1 25 x1.toNatClampNeg → vp_in x4_90 1024 ∧ ∀ s_99 : jRS, s_99 = rP s_95 19 x4_90.toNatClampNeg v_97 → vp_in x1 2 ∧ ∀ v_101 : Int32, v_101 = s_99.1 26 x1.toNatClampNeg → vp_in x4_90 1024 ∧ ∀ s_103 : jRS, s_103 = rP s_99 20 x4_90.toNatClampNeg v_101 → vp_in x1 2 ∧ (((s_103.1 27 x1.toNatClampNeg) ≤ 0) → (wX7_sends_145 N s_103 x1 r_82 x4_90 0 x4_90 post)) ∧ ((¬ (s_103.1 27 x1.toNatClampNeg) ≤ 0) → (wX7_sends_145 N s_103 x1 r_82 x4_90 1 x4_90 post)))))
set_option maxHeartbeats 4000000 in
set_option maxRecDepth 100000 in
theorem kX7_sends_54 {p : Program} {l : Launch} {e : Env} {s : State} {m : MethodId} {args : Array Value} {below : List Frame} {meth : Method} {c : Code} {D : va_G} {cI cJ cZ cO : ClassId} {a : Nat → Nat} {A : Nat → Prop} {N : Nat} {post : Int32 → jRS → Prop} (C : jC p s m args meth c cX7_sends 6 yX7_sends.cls wsX7_sends D (jT cI cJ cZ cO) A) (hr : meth.sig.returnType = (some .boolean)) (hG : jG0 A s) (σ : jRS) (x1 : Int32) (x2 : Int32) (y0 : Int32) (y1 : Int32) (hw : wX7_sends_54 N σ x1 x2 y0 y1 post) : jJ p l e rmX7_sends s m args below meth c 0 0 (MQ below (va_Qi post (jE D (jT cI cJ cZ cO) A (rcells a cI cJ cZ)) A) args s 0 0 A) D A 6 (rcells a cI cJ cZ σ) [(0, .ref (a 0)), (1, .int x1), (2, .int x2)] 54 [.int y0, .int y1, .ref (a 26)] := by
  unfold wX7_sends_54 at hw
  obtain ⟨h_80, hw⟩ := hw
  refine j_iast (pc := 54) C 14 0 (r_at26 a cI cJ cZ σ) rfl h_80 dX7_sends_54 (j_ws (r_s26 a cI cJ cZ σ y1.toNatClampNeg y0) ?_)
  refine j_nmS (F := rcells a cI cJ cZ) (fun s_81 es_81 => ?_)
  have hw := hw s_81 es_81
  refine j_aload_n (pc := 55) C dX7_sends_55 0 rfl rfl ?_
  refine j_iload_n (pc := 56) C dX7_sends_56 1 rfl rfl ?_
  refine j_iload_n (pc := 57) C dX7_sends_57 2 rfl rfl ?_
  refine j_calli0 (pc := 58) C jG0_ok trivial 2 (mX7_comes hw) gX7_sends_X7_comes rfl rfl rfl (by decide +kernel) ⟨by decide, by decide⟩ 0 (r_at0 a cI cJ cZ s_81) rfl rfl rfl (Nat.le_of_ble_eq_true rfl) dX7_sends_58 ⟨Nat.le_refl _, Nat.le_refl _⟩ (fun r_82 s_83 hw => ?_)
  refine j_istore_n (pc := 61) (lv' := [(0, .ref (a 0)), (1, .int x1), (2, .int x2), (3, .int r_82)]) C [1, 2, 3, 0] dX7_sends_61 rfl (by decide) rfl ?_
  refine j_iload_n (pc := 62) C dX7_sends_62 3 rfl rfl ?_
  refine j_if_eq (pc := 63) C 168 dX7_sends_63 (by decide) (fun z_84 => ?_) (fun z_84 => ?_)
  · have hw := hw.1 z_84
    refine j_aload_n (pc := 168) C dX7_sends_168 0 rfl rfl ?_
    refine j_get (ref := RX7) (pc := 169) C hiX7_sends 0 (r_at0 a cI cJ cZ s_83) rfl 34 (by decide) lkX7_sends_88 (r_fl34 a s_83) dX7_sends_169 ?_
    refine j_iload_n (pc := 172) C dX7_sends_172 1 rfl rfl ?_
    refine j_dup2 (pc := 173) C dX7_sends_173 rfl rfl ?_
    obtain ⟨h_85, hw⟩ := hw
    refine j_iald (pc := 174) C 22 0 (r_at34 a cI cJ cZ s_83) rfl h_85 dX7_sends_174 ?_
    refine j_iconst (pc := 175) (v := 1) C dX7_sends_175 (by decide) ?_
    refine j_iadd (pc := 176) C dX7_sends_176 ?_
    refine j_topi (fun v_86 ev_86 => ?_)
    have hw := hw v_86 ev_86
    obtain ⟨h_87, hw⟩ := hw
    refine j_iast (pc := 177) C 22 0 (r_at34 a cI cJ cZ s_83) rfl h_87 dX7_sends_177 (j_ws (r_s34 a cI cJ cZ s_83 x1.toNatClampNeg v_86) ?_)
    refine j_nmS (F := rcells a cI cJ cZ) (fun s_88 es_88 => ?_)
    have hw := hw s_88 es_88
    refine j_sub [0, 1, 3] rfl ?_
    exact kX7_sends_178 C hr hG _ _ _ hw
  · have hw := hw.2 z_84
    refine j_sipush (pc := 66) (v := 512) C dX7_sends_66 (by decide) ?_
    refine j_iload_n (pc := 69) C dX7_sends_69 1 rfl rfl ?_
    refine j_imul (pc := 70) C dX7_sends_70 ?_
    refine j_aload_n (pc := 71) C dX7_sends_71 0 rfl rfl ?_
    refine j_get (ref := RX7) (pc := 72) C hiX7_sends 0 (r_at0 a cI cJ cZ s_83) rfl 16 (by decide) lkX7_sends_32 (r_fl16 a s_83) dX7_sends_72 ?_
    refine j_iload_n (pc := 75) C dX7_sends_75 1 rfl rfl ?_
    obtain ⟨h_89, hw⟩ := hw
    refine j_iald (pc := 76) C 4 0 (r_at16 a cI cJ cZ s_83) rfl h_89 dX7_sends_76 ?_
    refine j_iadd (pc := 77) C dX7_sends_77 ?_
    refine j_topi (fun x4_90 ex4_90 => ?_)
    have hw := hw x4_90 ex4_90
    refine j_istore (pc := 78) (lv' := [(0, .ref (a 0)), (1, .int x1), (2, .int x2), (3, .int r_82), (4, .int x4_90)]) C [1, 2, 3, 4, 0] dX7_sends_78 (by decide) rfl ?_
    refine j_aload_n (pc := 80) C dX7_sends_80 0 rfl rfl ?_
    refine j_get (ref := RX7) (pc := 81) C hiX7_sends 0 (r_at0 a cI cJ cZ s_83) rfl 17 (by decide) lkX7_sends_35 (r_fl17 a s_83) dX7_sends_81 ?_
    refine j_iload (pc := 84) C dX7_sends_84 4 rfl ?_
    refine j_iload_n (pc := 86) C dX7_sends_86 2 rfl rfl ?_
    obtain ⟨h_91, hw⟩ := hw
    refine j_iast (pc := 87) C 5 0 (r_at17 a cI cJ cZ s_83) rfl h_91 dX7_sends_87 (j_ws (r_s17 a cI cJ cZ s_83 x4_90.toNatClampNeg x2) ?_)
    refine j_nmS (F := rcells a cI cJ cZ) (fun s_92 es_92 => ?_)
    have hw := hw s_92 es_92
    refine j_aload_n (pc := 88) C dX7_sends_88 0 rfl rfl ?_
    refine j_get (ref := RX7) (pc := 89) C hiX7_sends 0 (r_at0 a cI cJ cZ s_92) rfl 18 (by decide) lkX7_sends_38 (r_fl18 a s_92) dX7_sends_89 ?_
    refine j_iload (pc := 92) C dX7_sends_92 4 rfl ?_
    refine j_aload_n (pc := 94) C dX7_sends_94 0 rfl rfl ?_
    refine j_get (ref := RX7) (pc := 95) C hiX7_sends 0 (r_at0 a cI cJ cZ s_92) rfl 0 (by decide) lkX7_sends_146 (r_fl0 a s_92) dX7_sends_95 ?_
    refine j_topi (fun v_93 ev_93 => ?_)
    have hw := hw v_93 ev_93
    obtain ⟨h_94, hw⟩ := hw
    refine j_iast (pc := 98) C 6 0 (r_at18 a cI cJ cZ s_92) rfl h_94 dX7_sends_98 (j_ws (r_s18 a cI cJ cZ s_92 x4_90.toNatClampNeg v_93) ?_)
    refine j_nmS (F := rcells a cI cJ cZ) (fun s_95 es_95 => ?_)
    have hw := hw s_95 es_95
    refine j_aload_n (pc := 99) C dX7_sends_99 0 rfl rfl ?_
    refine j_get (ref := RX7) (pc := 100) C hiX7_sends 0 (r_at0 a cI cJ cZ s_95) rfl 19 (by decide) lkX7_sends_41 (r_fl19 a s_95) dX7_sends_100 ?_
    refine j_iload (pc := 103) C dX7_sends_103 4 rfl ?_
    refine j_aload_n (pc := 105) C dX7_sends_105 0 rfl rfl ?_
    refine j_get (ref := RX7) (pc := 106) C hiX7_sends 0 (r_at0 a cI cJ cZ s_95) rfl 25 (by decide) lkX7_sends_60 (r_fl25 a s_95) dX7_sends_106 ?_
    refine j_iload_n (pc := 109) C dX7_sends_109 1 rfl rfl ?_
    obtain ⟨h_96, hw⟩ := hw
    refine j_iald (pc := 110) C 13 0 (r_at25 a cI cJ cZ s_95) rfl h_96 dX7_sends_110 ?_
    refine j_topi (fun v_97 ev_97 => ?_)
    have hw := hw v_97 ev_97
    obtain ⟨h_98, hw⟩ := hw
    refine j_iast (pc := 111) C 7 0 (r_at19 a cI cJ cZ s_95) rfl h_98 dX7_sends_111 (j_ws (r_s19 a cI cJ cZ s_95 x4_90.toNatClampNeg v_97) ?_)
    refine j_nmS (F := rcells a cI cJ cZ) (fun s_99 es_99 => ?_)
    have hw := hw s_99 es_99
    refine j_aload_n (pc := 112) C dX7_sends_112 0 rfl rfl ?_
    refine j_get (ref := RX7) (pc := 113) C hiX7_sends 0 (r_at0 a cI cJ cZ s_99) rfl 20 (by decide) lkX7_sends_44 (r_fl20 a s_99) dX7_sends_113 ?_
    refine j_iload (pc := 116) C dX7_sends_116 4 rfl ?_
    refine j_aload_n (pc := 118) C dX7_sends_118 0 rfl rfl ?_
    refine j_get (ref := RX7) (pc := 119) C hiX7_sends 0 (r_at0 a cI cJ cZ s_99) rfl 26 (by decide) lkX7_sends_63 (r_fl26 a s_99) dX7_sends_119 ?_
    refine j_iload_n (pc := 122) C dX7_sends_122 1 rfl rfl ?_
    obtain ⟨h_100, hw⟩ := hw
    refine j_iald (pc := 123) C 14 0 (r_at26 a cI cJ cZ s_99) rfl h_100 dX7_sends_123 ?_
    refine j_topi (fun v_101 ev_101 => ?_)
    have hw := hw v_101 ev_101
    obtain ⟨h_102, hw⟩ := hw
    refine j_iast (pc := 124) C 8 0 (r_at20 a cI cJ cZ s_99) rfl h_102 dX7_sends_124 (j_ws (r_s20 a cI cJ cZ s_99 x4_90.toNatClampNeg v_101) ?_)
    refine j_nmS (F := rcells a cI cJ cZ) (fun s_103 es_103 => ?_)
    have hw := hw s_103 es_103
    refine j_aload_n (pc := 125) C dX7_sends_125 0 rfl rfl ?_
    refine j_get (ref := RX7) (pc := 126) C hiX7_sends 0 (r_at0 a cI cJ cZ s_103) rfl 21 (by decide) lkX7_sends_47 (r_fl21 a s_103) dX7_sends_126 ?_
    refine j_iload (pc := 129) C dX7_sends_129 4 rfl ?_
    refine j_aload_n (pc := 131) C dX7_sends_131 0 rfl rfl ?_
    refine j_get (ref := RX7) (pc := 132) C hiX7_sends 0 (r_at0 a cI cJ cZ s_103) rfl 27 (by decide) lkX7_sends_66 (r_fl27 a s_103) dX7_sends_132 ?_
    refine j_iload_n (pc := 135) C dX7_sends_135 1 rfl rfl ?_
    obtain ⟨h_104, hw⟩ := hw
    refine j_iald (pc := 136) C 15 0 (r_at27 a cI cJ cZ s_103) rfl h_104 dX7_sends_136 ?_
    refine j_if_le (pc := 137) C 144 dX7_sends_137 (by decide) (fun z_105 => ?_) (fun z_105 => ?_)
    · have hw := hw.1 z_105
      refine j_iconst (pc := 144) (v := 0) C dX7_sends_144 (by decide) ?_
      refine j_sub [0, 1, 3, 4] rfl ?_
      exact kX7_sends_145 C hr hG _ _ _ _ _ _ hw
    · have hw := hw.2 z_105
      refine j_iconst (pc := 140) (v := 1) C dX7_sends_140 (by decide) ?_
      refine j_goto (pc := 141) C 145 dX7_sends_141 (by decide) ?_
      refine j_sub [0, 1, 3, 4] rfl ?_
      exact kX7_sends_145 C hr hG _ _ _ _ _ _ hw
def wX7_sends (N : Nat) (σ : jRS) (x1 : Int32) (post : Int32 → jRS → Prop) : Prop := vp_in x1 2 ∧ ∀ v_107 : Int32, v_107 = (σ.1 23 x1.toNatClampNeg) - 1 → vp_in x1 2 ∧ ∀ s_109 : jRS, s_109 = rP σ 23 x1.toNatClampNeg v_107 → vp_in x1 2 ∧ ∀ x2_111 : Int32, x2_111 = s_109.1 24 x1.toNatClampNeg → vp_in x1 2 ∧ ∀ v_113 : Int32, v_113 = (s_109.1 24 x1.toNatClampNeg) + 1 → vp_in x1 2 ∧ ∀ s_115 : jRS, s_115 = rP s_109 24 x1.toNatClampNeg v_113 → vp_in x1 2 ∧ ((¬ (s_115.1 16 x1.toNatClampNeg) = 0) → (vp_in x1 2 ∧ wX7_sends_54 N s_115 x1 x2_111 (s_115.1 26 x1.toNatClampNeg) x1 post)) ∧ (((s_115.1 16 x1.toNatClampNeg) = 0) → (wX7_sends_54 N s_115 x1 x2_111 (s_115.1 0 0) x1 post))
set_option maxHeartbeats 4000000 in
set_option maxRecDepth 100000 in
theorem mX7_sends {l : Launch} {D : va_G} {cI cJ cZ cO : ClassId} {a : Nat → Nat} {N : Nat} {σ : jRS} {x1 : Int32} {post : Int32 → jRS → Prop} (hw : wX7_sends N σ x1 post) : jMi l D (jT cI cJ cZ cO) jG0 yX7_sends wsX7_sends rmX7_sends [.ref (a 0), .int x1] (rcells a cI cJ cZ σ) post (rcells a cI cJ cZ) 0 0 := by
  refine j_ofi (cc := cX7_sends) (maxL := 6) (ret := (some .boolean)) (by decide) rfl (Nat.le_of_ble_eq_true rfl) ?_
  intro p e s m args below meth c A C hr hnm hG
  refine j_sub (lv' := [(0, .ref (a 0)), (1, .int x1)]) [0, 1] rfl ?_
  unfold wX7_sends at hw
  refine j_aload_n (pc := 0) C dX7_sends_0 0 rfl rfl ?_
  refine j_get (ref := RX7) (pc := 1) C hiX7_sends 0 (r_at0 a cI cJ cZ σ) rfl 23 (by decide) lkX7_sends_54 (r_fl23 a σ) dX7_sends_1 ?_
  refine j_iload_n (pc := 4) C dX7_sends_4 1 rfl rfl ?_
  refine j_dup2 (pc := 5) C dX7_sends_5 rfl rfl ?_
  obtain ⟨h_106, hw⟩ := hw
  refine j_iald (pc := 6) C 11 0 (r_at23 a cI cJ cZ σ) rfl h_106 dX7_sends_6 ?_
  refine j_iconst (pc := 7) (v := 1) C dX7_sends_7 (by decide) ?_
  refine j_isub (pc := 8) C dX7_sends_8 ?_
  refine j_topi (fun v_107 ev_107 => ?_)
  have hw := hw v_107 ev_107
  obtain ⟨h_108, hw⟩ := hw
  refine j_iast (pc := 9) C 11 0 (r_at23 a cI cJ cZ σ) rfl h_108 dX7_sends_9 (j_ws (r_s23 a cI cJ cZ σ x1.toNatClampNeg v_107) ?_)
  refine j_nmS (F := rcells a cI cJ cZ) (fun s_109 es_109 => ?_)
  have hw := hw s_109 es_109
  refine j_aload_n (pc := 10) C dX7_sends_10 0 rfl rfl ?_
  refine j_get (ref := RX7) (pc := 11) C hiX7_sends 0 (r_at0 a cI cJ cZ s_109) rfl 24 (by decide) lkX7_sends_57 (r_fl24 a s_109) dX7_sends_11 ?_
  refine j_iload_n (pc := 14) C dX7_sends_14 1 rfl rfl ?_
  obtain ⟨h_110, hw⟩ := hw
  refine j_iald (pc := 15) C 12 0 (r_at24 a cI cJ cZ s_109) rfl h_110 dX7_sends_15 ?_
  refine j_topi (fun x2_111 ex2_111 => ?_)
  have hw := hw x2_111 ex2_111
  refine j_istore_n (pc := 16) (lv' := [(0, .ref (a 0)), (1, .int x1), (2, .int x2_111)]) C [1, 2, 0] dX7_sends_16 rfl (by decide) rfl ?_
  refine j_aload_n (pc := 17) C dX7_sends_17 0 rfl rfl ?_
  refine j_get (ref := RX7) (pc := 18) C hiX7_sends 0 (r_at0 a cI cJ cZ s_109) rfl 24 (by decide) lkX7_sends_57 (r_fl24 a s_109) dX7_sends_18 ?_
  refine j_iload_n (pc := 21) C dX7_sends_21 1 rfl rfl ?_
  refine j_dup2 (pc := 22) C dX7_sends_22 rfl rfl ?_
  obtain ⟨h_112, hw⟩ := hw
  refine j_iald (pc := 23) C 12 0 (r_at24 a cI cJ cZ s_109) rfl h_112 dX7_sends_23 ?_
  refine j_iconst (pc := 24) (v := 1) C dX7_sends_24 (by decide) ?_
  refine j_iadd (pc := 25) C dX7_sends_25 ?_
  refine j_topi (fun v_113 ev_113 => ?_)
  have hw := hw v_113 ev_113
  obtain ⟨h_114, hw⟩ := hw
  refine j_iast (pc := 26) C 12 0 (r_at24 a cI cJ cZ s_109) rfl h_114 dX7_sends_26 (j_ws (r_s24 a cI cJ cZ s_109 x1.toNatClampNeg v_113) ?_)
  refine j_nmS (F := rcells a cI cJ cZ) (fun s_115 es_115 => ?_)
  have hw := hw s_115 es_115
  refine j_aload_n (pc := 27) C dX7_sends_27 0 rfl rfl ?_
  refine j_get (ref := RX7) (pc := 28) C hiX7_sends 0 (r_at0 a cI cJ cZ s_115) rfl 26 (by decide) lkX7_sends_63 (r_fl26 a s_115) dX7_sends_28 ?_
  refine j_iload_n (pc := 31) C dX7_sends_31 1 rfl rfl ?_
  refine j_aload_n (pc := 32) C dX7_sends_32 0 rfl rfl ?_
  refine j_get (ref := RX7) (pc := 33) C hiX7_sends 0 (r_at0 a cI cJ cZ s_115) rfl 16 (by decide) lkX7_sends_32 (r_fl16 a s_115) dX7_sends_33 ?_
  refine j_iload_n (pc := 36) C dX7_sends_36 1 rfl rfl ?_
  obtain ⟨h_116, hw⟩ := hw
  refine j_iald (pc := 37) C 4 0 (r_at16 a cI cJ cZ s_115) rfl h_116 dX7_sends_37 ?_
  refine j_if_ne (pc := 38) C 48 dX7_sends_38 (by decide) (fun z_117 => ?_) (fun z_117 => ?_)
  · have hw := hw.1 z_117
    refine j_aload_n (pc := 48) C dX7_sends_48 0 rfl rfl ?_
    refine j_get (ref := RX7) (pc := 49) C hiX7_sends 0 (r_at0 a cI cJ cZ s_115) rfl 26 (by decide) lkX7_sends_63 (r_fl26 a s_115) dX7_sends_49 ?_
    refine j_iload_n (pc := 52) C dX7_sends_52 1 rfl rfl ?_
    obtain ⟨h_118, hw⟩ := hw
    refine j_iald (pc := 53) C 14 0 (r_at26 a cI cJ cZ s_115) rfl h_118 dX7_sends_53 ?_
    exact kX7_sends_54 C hr hG _ _ _ _ _ hw
  · have hw := hw.2 z_117
    refine j_aload_n (pc := 41) C dX7_sends_41 0 rfl rfl ?_
    refine j_get (ref := RX7) (pc := 42) C hiX7_sends 0 (r_at0 a cI cJ cZ s_115) rfl 0 (by decide) lkX7_sends_146 (r_fl0 a s_115) dX7_sends_42 ?_
    refine j_goto (pc := 45) C 54 dX7_sends_45 (by decide) ?_
    exact kX7_sends_54 C hr hG _ _ _ _ _ hw

def rmX7_sendsAll : Room := { frames := 3, cells := 0, slots := 0, locals := 69 }
theorem hiX7_sendsAll : ∀ w ∈ u_ws RX7 TX7 50, w ∈ wsX7_sendsAll := fun w h => List.mem_cons_of_mem _ (List.mem_append_right _ h)
theorem lkX7_sendsAll_54 : Cond.fieldLink yX7_sendsAll.cls 54 (TX7 23).1 (TX7 23).2.1 (TX7 23).2.2.1 ∈ wsX7_sendsAll := by decide +kernel
theorem lkX7_sendsAll_60 : Cond.fieldLink yX7_sendsAll.cls 60 (TX7 25).1 (TX7 25).2.1 (TX7 25).2.2.1 ∈ wsX7_sendsAll := by decide +kernel
theorem lkX7_sendsAll_32 : Cond.fieldLink yX7_sendsAll.cls 32 (TX7 16).1 (TX7 16).2.1 (TX7 16).2.2.1 ∈ wsX7_sendsAll := by decide +kernel
theorem lkX7_sendsAll_66 : Cond.fieldLink yX7_sendsAll.cls 66 (TX7 27).1 (TX7 27).2.1 (TX7 27).2.2.1 ∈ wsX7_sendsAll := by decide +kernel
def wX7_sendsAll_92 (N : Nat) (σ : jRS) (y0 : Int32) (y1 : Int32) (post : jRS → Prop) : Prop := vp_in y1 2 ∧ ∀ s_23 : jRS, s_23 = rP σ 27 y1.toNatClampNeg y0 → post s_23
set_option maxHeartbeats 4000000 in
set_option maxRecDepth 100000 in
theorem kX7_sendsAll_92 {p : Program} {l : Launch} {e : Env} {s : State} {m : MethodId} {args : Array Value} {below : List Frame} {meth : Method} {c : Code} {D : va_G} {cI cJ cZ cO : ClassId} {a : Nat → Nat} {A : Nat → Prop} {N : Nat} {post : jRS → Prop} (C : jC p s m args meth c cX7_sendsAll 5 yX7_sendsAll.cls wsX7_sendsAll D (jT cI cJ cZ cO) A) (hr : meth.sig.returnType = none) (hG : jG0 A s) (σ : jRS) (y0 : Int32) (y1 : Int32) (hw : wX7_sendsAll_92 N σ y0 y1 post) : jJ p l e rmX7_sendsAll s m args below meth c 0 0 (MQ below (va_Qv post (jE D (jT cI cJ cZ cO) A (rcells a cI cJ cZ)) A) args s 0 0 A) D A 5 (rcells a cI cJ cZ σ) [] 92 [.int y0, .int y1, .ref (a 27)] := by
  unfold wX7_sendsAll_92 at hw
  obtain ⟨h_22, hw⟩ := hw
  refine j_iast (pc := 92) C 15 0 (r_at27 a cI cJ cZ σ) rfl h_22 dX7_sendsAll_92 (j_ws (r_s27 a cI cJ cZ σ y1.toNatClampNeg y0) ?_)
  refine j_nmS (F := rcells a cI cJ cZ) (fun s_23 es_23 => ?_)
  have hw := hw s_23 es_23
  exact j_vret (pc := 93) C hr s_23 rfl hw dX7_sendsAll_93
def wX7_sendsAll_43 (N : Nat) (σ : jRS) (x1 : Int32) (post : jRS → Prop) : Prop := vp_in x1 2 ∧ ((¬ (σ.1 23 x1.toNatClampNeg) = 0) → (post σ)) ∧ (((σ.1 23 x1.toNatClampNeg) = 0) → (wX7_isOpen N σ x1 (fun r_26 s_27 => ((r_26 = 0) → (post s_27)) ∧ ((¬ r_26 = 0) → (vp_in x1 2 ∧ vp_in x1 2 ∧ ∀ x4_31 : Int32, x4_31 = (s_27.1 25 x1.toNatClampNeg) + (s_27.1 16 x1.toNatClampNeg) → ((1 ≤ x4_31) → (wX7_sendsAll_92 N s_27 x4_31 x1 post)) ∧ ((¬ 1 ≤ x4_31) → (wX7_sendsAll_92 N s_27 1 x1 post)))))))
set_option maxHeartbeats 4000000 in
set_option maxRecDepth 100000 in
theorem kX7_sendsAll_43 {p : Program} {l : Launch} {e : Env} {s : State} {m : MethodId} {args : Array Value} {below : List Frame} {meth : Method} {c : Code} {D : va_G} {cI cJ cZ cO : ClassId} {a : Nat → Nat} {A : Nat → Prop} {N : Nat} {post : jRS → Prop} (C : jC p s m args meth c cX7_sendsAll 5 yX7_sendsAll.cls wsX7_sendsAll D (jT cI cJ cZ cO) A) (hr : meth.sig.returnType = none) (hG : jG0 A s) (σ : jRS) (x1 : Int32) (hw : wX7_sendsAll_43 N σ x1 post) : jJ p l e rmX7_sendsAll s m args below meth c 0 0 (MQ below (va_Qv post (jE D (jT cI cJ cZ cO) A (rcells a cI cJ cZ)) A) args s 0 0 A) D A 5 (rcells a cI cJ cZ σ) [(0, .ref (a 0)), (1, .int x1)] 43 [] := by
  unfold wX7_sendsAll_43 at hw
  refine j_aload_n (pc := 43) C dX7_sendsAll_43 0 rfl rfl ?_
  refine j_get (ref := RX7) (pc := 44) C hiX7_sendsAll 0 (r_at0 a cI cJ cZ σ) rfl 23 (by decide) lkX7_sendsAll_54 (r_fl23 a σ) dX7_sendsAll_44 ?_
  refine j_iload_n (pc := 47) C dX7_sendsAll_47 1 rfl rfl ?_
  obtain ⟨h_24, hw⟩ := hw
  refine j_iald (pc := 48) C 11 0 (r_at23 a cI cJ cZ σ) rfl h_24 dX7_sendsAll_48 ?_
  refine j_if_ne (pc := 49) C 93 dX7_sendsAll_49 (by decide) (fun z_25 => ?_) (fun z_25 => ?_)
  · have hw := hw.1 z_25
    exact j_vret (pc := 93) C hr σ rfl hw dX7_sendsAll_93
  · have hw := hw.2 z_25
    refine j_aload_n (pc := 52) C dX7_sendsAll_52 0 rfl rfl ?_
    refine j_iload_n (pc := 53) C dX7_sendsAll_53 1 rfl rfl ?_
    refine j_calli0 (pc := 54) C jG0_ok trivial 1 (mX7_isOpen hw) gX7_sendsAll_X7_isOpen rfl rfl rfl (by decide +kernel) ⟨by decide, by decide⟩ 0 (r_at0 a cI cJ cZ σ) rfl rfl rfl (Nat.le_of_ble_eq_true rfl) dX7_sendsAll_54 ⟨Nat.le_refl _, Nat.le_refl _⟩ (fun r_26 s_27 hw => ?_)
    refine j_if_eq (pc := 57) C 93 dX7_sendsAll_57 (by decide) (fun z_28 => ?_) (fun z_28 => ?_)
    · have hw := hw.1 z_28
      exact j_vret (pc := 93) C hr s_27 rfl hw dX7_sendsAll_93
    · have hw := hw.2 z_28
      refine j_aload_n (pc := 60) C dX7_sendsAll_60 0 rfl rfl ?_
      refine j_get (ref := RX7) (pc := 61) C hiX7_sendsAll 0 (r_at0 a cI cJ cZ s_27) rfl 25 (by decide) lkX7_sendsAll_60 (r_fl25 a s_27) dX7_sendsAll_61 ?_
      refine j_iload_n (pc := 64) C dX7_sendsAll_64 1 rfl rfl ?_
      obtain ⟨h_29, hw⟩ := hw
      refine j_iald (pc := 65) C 13 0 (r_at25 a cI cJ cZ s_27) rfl h_29 dX7_sendsAll_65 ?_
      refine j_aload_n (pc := 66) C dX7_sendsAll_66 0 rfl rfl ?_
      refine j_get (ref := RX7) (pc := 67) C hiX7_sendsAll 0 (r_at0 a cI cJ cZ s_27) rfl 16 (by decide) lkX7_sendsAll_32 (r_fl16 a s_27) dX7_sendsAll_67 ?_
      refine j_iload_n (pc := 70) C dX7_sendsAll_70 1 rfl rfl ?_
      obtain ⟨h_30, hw⟩ := hw
      refine j_iald (pc := 71) C 4 0 (r_at16 a cI cJ cZ s_27) rfl h_30 dX7_sendsAll_71 ?_
      refine j_iadd (pc := 72) C dX7_sendsAll_72 ?_
      refine j_topi (fun x4_31 ex4_31 => ?_)
      have hw := hw x4_31 ex4_31
      refine j_istore (pc := 73) (lv' := [(0, .ref (a 0)), (1, .int x1), (4, .int x4_31)]) C [1, 2, 0] dX7_sendsAll_73 (by decide) rfl ?_
      refine j_aload_n (pc := 75) C dX7_sendsAll_75 0 rfl rfl ?_
      refine j_get (ref := RX7) (pc := 76) C hiX7_sendsAll 0 (r_at0 a cI cJ cZ s_27) rfl 27 (by decide) lkX7_sendsAll_66 (r_fl27 a s_27) dX7_sendsAll_76 ?_
      refine j_iload_n (pc := 79) C dX7_sendsAll_79 1 rfl rfl ?_
      refine j_iload (pc := 80) C dX7_sendsAll_80 2 rfl ?_
      refine j_iconst (pc := 82) (v := 1) C dX7_sendsAll_82 (by decide) ?_
      refine j_icmp_ge (pc := 83) C 90 dX7_sendsAll_83 (by decide) (fun z_32 => ?_) (fun z_32 => ?_)
      · have hw := hw.1 z_32
        refine j_iload (pc := 90) C dX7_sendsAll_90 2 rfl ?_
        refine j_sub [] rfl ?_
        exact kX7_sendsAll_92 C hr hG _ _ _ hw
      · have hw := hw.2 z_32
        refine j_iconst (pc := 86) (v := 1) C dX7_sendsAll_86 (by decide) ?_
        refine j_goto (pc := 87) C 92 dX7_sendsAll_87 (by decide) ?_
        refine j_sub [] rfl ?_
        exact kX7_sendsAll_92 C hr hG _ _ _ hw
def wX7_sendsAll_4 (N : Nat) : Nat → jRS → Int32 → Int32 → Int32 → (jRS → Prop) → Prop
  | 0, _, _, _, _, _ => False
  | n + 1, σ, x1, x2, x3, post => ((x3 = 0) → (wX7_sendsAll_43 N σ x1 post)) ∧ ((¬ x3 = 0) → (((8 ≤ x2) → (wX7_sendsAll_43 N σ x1 post)) ∧ ((¬ 8 ≤ x2) → (vp_in x1 2 ∧ (((σ.1 23 x1.toNatClampNeg) ≤ 0) → (wX7_sendsAll_43 N σ x1 post)) ∧ ((¬ (σ.1 23 x1.toNatClampNeg) ≤ 0) → (wX7_isOpen N σ x1 (fun r_37 s_38 => ((r_37 = 0) → (wX7_sendsAll_43 N s_38 x1 post)) ∧ ((¬ r_37 = 0) → (wX7_sends N s_38 x1 (fun r_40 s_41 => ∀ x2_42 : Int32, x2_42 = x2 + 1 → wX7_sendsAll_4 N n s_41 x1 x2_42 r_40 post))))))))))
set_option maxHeartbeats 4000000 in
set_option maxRecDepth 100000 in
theorem kX7_sendsAll_4 {p : Program} {l : Launch} {e : Env} {s : State} {m : MethodId} {args : Array Value} {below : List Frame} {meth : Method} {c : Code} {D : va_G} {cI cJ cZ cO : ClassId} {a : Nat → Nat} {A : Nat → Prop} {N : Nat} {post : jRS → Prop} (C : jC p s m args meth c cX7_sendsAll 5 yX7_sendsAll.cls wsX7_sendsAll D (jT cI cJ cZ cO) A) (hr : meth.sig.returnType = none) (hG : jG0 A s) : ∀ (n : Nat) (σ : jRS) (x1 : Int32) (x2 : Int32) (x3 : Int32), wX7_sendsAll_4 N n σ x1 x2 x3 post → jJ p l e rmX7_sendsAll s m args below meth c 0 0 (MQ below (va_Qv post (jE D (jT cI cJ cZ cO) A (rcells a cI cJ cZ)) A) args s 0 0 A) D A 5 (rcells a cI cJ cZ σ) [(0, .ref (a 0)), (1, .int x1), (2, .int x2), (3, .int x3)] 4 [] := by
  intro n
  induction n with
  | zero =>
    intro σ x1 x2 x3 hw
    exact False.elim hw
  | succ n ih =>
    intro σ x1 x2 x3 hw
    unfold wX7_sendsAll_4 at hw
    refine j_iload_n (pc := 4) C dX7_sendsAll_4 3 rfl rfl ?_
    refine j_if_eq (pc := 5) C 43 dX7_sendsAll_5 (by decide) (fun z_33 => ?_) (fun z_33 => ?_)
    · have hw := hw.1 z_33
      refine j_sub [0, 1] rfl ?_
      exact kX7_sendsAll_43 C hr hG _ _ hw
    · have hw := hw.2 z_33
      refine j_iload_n (pc := 8) C dX7_sendsAll_8 2 rfl rfl ?_
      refine j_bipush (pc := 9) (v := 8) C dX7_sendsAll_9 (by decide) ?_
      refine j_icmp_ge (pc := 11) C 43 dX7_sendsAll_11 (by decide) (fun z_34 => ?_) (fun z_34 => ?_)
      · have hw := hw.1 z_34
        refine j_sub [0, 1] rfl ?_
        exact kX7_sendsAll_43 C hr hG _ _ hw
      · have hw := hw.2 z_34
        refine j_aload_n (pc := 14) C dX7_sendsAll_14 0 rfl rfl ?_
        refine j_get (ref := RX7) (pc := 15) C hiX7_sendsAll 0 (r_at0 a cI cJ cZ σ) rfl 23 (by decide) lkX7_sendsAll_54 (r_fl23 a σ) dX7_sendsAll_15 ?_
        refine j_iload_n (pc := 18) C dX7_sendsAll_18 1 rfl rfl ?_
        obtain ⟨h_35, hw⟩ := hw
        refine j_iald (pc := 19) C 11 0 (r_at23 a cI cJ cZ σ) rfl h_35 dX7_sendsAll_19 ?_
        refine j_if_le (pc := 20) C 43 dX7_sendsAll_20 (by decide) (fun z_36 => ?_) (fun z_36 => ?_)
        · have hw := hw.1 z_36
          refine j_sub [0, 1] rfl ?_
          exact kX7_sendsAll_43 C hr hG _ _ hw
        · have hw := hw.2 z_36
          refine j_aload_n (pc := 23) C dX7_sendsAll_23 0 rfl rfl ?_
          refine j_iload_n (pc := 24) C dX7_sendsAll_24 1 rfl rfl ?_
          refine j_calli0 (pc := 25) C jG0_ok trivial 1 (mX7_isOpen hw) gX7_sendsAll_X7_isOpen rfl rfl rfl (by decide +kernel) ⟨by decide, by decide⟩ 0 (r_at0 a cI cJ cZ σ) rfl rfl rfl (Nat.le_of_ble_eq_true rfl) dX7_sendsAll_25 ⟨Nat.le_refl _, Nat.le_refl _⟩ (fun r_37 s_38 hw => ?_)
          refine j_if_eq (pc := 28) C 43 dX7_sendsAll_28 (by decide) (fun z_39 => ?_) (fun z_39 => ?_)
          · have hw := hw.1 z_39
            refine j_sub [0, 1] rfl ?_
            exact kX7_sendsAll_43 C hr hG _ _ hw
          · have hw := hw.2 z_39
            refine j_aload_n (pc := 31) C dX7_sendsAll_31 0 rfl rfl ?_
            refine j_iload_n (pc := 32) C dX7_sendsAll_32 1 rfl rfl ?_
            refine j_calli0 (pc := 33) C jG0_ok trivial 1 (mX7_sends hw) gX7_sendsAll_X7_sends rfl rfl rfl (by decide +kernel) ⟨by decide, by decide⟩ 0 (r_at0 a cI cJ cZ s_38) rfl rfl rfl (Nat.le_of_ble_eq_true rfl) dX7_sendsAll_33 ⟨Nat.le_refl _, Nat.le_refl _⟩ (fun r_40 s_41 hw => ?_)
            refine j_istore_n (pc := 36) (lv' := [(0, .ref (a 0)), (1, .int x1), (2, .int x2), (3, .int r_40)]) C [1, 2, 3, 0] dX7_sendsAll_36 rfl (by decide) rfl ?_
            obtain ⟨x2_42, ex2_42⟩ : ∃ y : Int32, y = x2 + 1 := ⟨_, rfl⟩
            have hw := hw x2_42 ex2_42
            refine j_iinc (pc := 37) (v := x2_42) (lv' := [(0, .ref (a 0)), (1, .int x1), (2, .int x2_42), (3, .int r_40)]) C [1, 2, 0, 3] 2 dX7_sendsAll_37 rfl (by rw [ex2_42]; rfl) (by decide) rfl ?_
            refine j_goto (pc := 40) C 4 dX7_sendsAll_40 (by decide) ?_
            exact ih _ _ _ _ hw
def wX7_sendsAll (N : Nat) (σ : jRS) (x1 : Int32) (post : jRS → Prop) : Prop := wX7_sendsAll_4 N N σ x1 0 1 post
set_option maxHeartbeats 4000000 in
set_option maxRecDepth 100000 in
theorem mX7_sendsAll {l : Launch} {D : va_G} {cI cJ cZ cO : ClassId} {a : Nat → Nat} {N : Nat} {σ : jRS} {x1 : Int32} {post : jRS → Prop} (hw : wX7_sendsAll N σ x1 post) : jMv l D (jT cI cJ cZ cO) jG0 yX7_sendsAll wsX7_sendsAll rmX7_sendsAll [.ref (a 0), .int x1] (rcells a cI cJ cZ σ) post (rcells a cI cJ cZ) 0 0 := by
  refine j_ofv (cc := cX7_sendsAll) (maxL := 5) (ret := none) (by decide) rfl (Nat.le_of_ble_eq_true rfl) ?_
  intro p e s m args below meth c A C hr hnm hG
  refine j_sub (lv' := [(0, .ref (a 0)), (1, .int x1)]) [0, 1] rfl ?_
  unfold wX7_sendsAll at hw
  refine j_iconst (pc := 0) (v := 0) C dX7_sendsAll_0 (by decide) ?_
  refine j_istore_n (pc := 1) (lv' := [(0, .ref (a 0)), (1, .int x1), (2, .int 0)]) C [1, 2, 0] dX7_sendsAll_1 rfl (by decide) rfl ?_
  refine j_iconst (pc := 2) (v := 1) C dX7_sendsAll_2 (by decide) ?_
  refine j_istore_n (pc := 3) (lv' := [(0, .ref (a 0)), (1, .int x1), (2, .int 0), (3, .int 1)]) C [1, 2, 3, 0] dX7_sendsAll_3 rfl (by decide) rfl ?_
  exact kX7_sendsAll_4 C hr hG N _ _ _ _ hw

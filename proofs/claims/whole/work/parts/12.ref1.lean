def rmX7_serves : Room := { frames := 0, cells := 0, slots := 0, locals := 0 }
theorem hiX7_serves : ∀ w ∈ u_ws RX7 TX7 50, w ∈ wsX7_serves := fun w h => List.mem_cons_of_mem _ (List.mem_append_right _ h)
theorem lkX7_serves_19 : Cond.fieldLink yX7_serves.cls 19 (TX7 5).1 (TX7 5).2.1 (TX7 5).2.2.1 ∈ wsX7_serves := by decide +kernel
theorem lkX7_serves_143 : Cond.fieldLink yX7_serves.cls 143 (TX7 6).1 (TX7 6).2.1 (TX7 6).2.2.1 ∈ wsX7_serves := by decide +kernel
theorem lkX7_serves_146 : Cond.fieldLink yX7_serves.cls 146 (TX7 0).1 (TX7 0).2.1 (TX7 0).2.2.1 ∈ wsX7_serves := by decide +kernel
theorem lkX7_serves_7 : Cond.fieldLink yX7_serves.cls 7 (TX7 1).1 (TX7 1).2.1 (TX7 1).2.2.1 ∈ wsX7_serves := by decide +kernel
theorem lkX7_serves_149 : Cond.fieldLink yX7_serves.cls 149 (TX7 7).1 (TX7 7).2.1 (TX7 7).2.2.1 ∈ wsX7_serves := by decide +kernel
def wX7_serves (N : Nat) (σ : jRS) (x1 : Int32) (x2 : Int32) (post : jRS → Prop) : Prop := ∀ s_5 : jRS, s_5 = rP σ 0 5 x1 → ∀ s_6 : jRS, s_6 = rP s_5 0 6 x2 → ∀ v_7 : Int32, v_7 = (s_6.1 0 0) + (s_6.1 0 1) → ∀ s_8 : jRS, s_8 = rP s_6 0 7 v_7 → post s_8
set_option maxHeartbeats 4000000 in
set_option maxRecDepth 100000 in
theorem mX7_serves {l : Launch} {D : va_G} {cI cJ cZ cO : ClassId} {a : Nat → Nat} {N : Nat} {σ : jRS} {x1 x2 : Int32} {post : jRS → Prop} (hw : wX7_serves N σ x1 x2 post) : jMv l D (jT cI cJ cZ cO) jG0 yX7_serves wsX7_serves rmX7_serves [.ref (a 0), .int x1, .int x2] (rcells a cI cJ cZ σ) post (rcells a cI cJ cZ) 0 0 := by
  refine j_ofv (cc := cX7_serves) (maxL := 3) (ret := none) (by decide) rfl (Nat.le_of_ble_eq_true rfl) ?_
  intro p e s m args below meth c A C hr hnm hG
  refine j_sub (lv' := [(0, .ref (a 0)), (1, .int x1), (2, .int x2)]) [0, 1, 2] rfl ?_
  unfold wX7_serves at hw
  refine j_aload_n (pc := 0) C dX7_serves_0 0 rfl rfl ?_
  refine j_iload_n (pc := 1) C dX7_serves_1 1 rfl rfl ?_
  refine j_put (pc := 2) C hiX7_serves tyX7 tyX7_ok nmX7 0 (r_at0 a cI cJ cZ σ) rfl 5 (by decide) lkX7_serves_19 rfl rfl rfl (Nat.le_of_ble_eq_true rfl) dX7_serves_2 (j_ws (r_s0_5 a cI cJ cZ σ x1) ?_)
  refine j_nmS (F := rcells a cI cJ cZ) (fun s_5 es_5 => ?_)
  have hw := hw s_5 es_5
  refine j_aload_n (pc := 5) C dX7_serves_5 0 rfl rfl ?_
  refine j_iload_n (pc := 6) C dX7_serves_6 2 rfl rfl ?_
  refine j_put (pc := 7) C hiX7_serves tyX7 tyX7_ok nmX7 0 (r_at0 a cI cJ cZ s_5) rfl 6 (by decide) lkX7_serves_143 rfl rfl rfl (Nat.le_of_ble_eq_true rfl) dX7_serves_7 (j_ws (r_s0_6 a cI cJ cZ s_5 x2) ?_)
  refine j_nmS (F := rcells a cI cJ cZ) (fun s_6 es_6 => ?_)
  have hw := hw s_6 es_6
  refine j_aload_n (pc := 10) C dX7_serves_10 0 rfl rfl ?_
  refine j_aload_n (pc := 11) C dX7_serves_11 0 rfl rfl ?_
  refine j_get (ref := RX7) (pc := 12) C hiX7_serves 0 (r_at0 a cI cJ cZ s_6) rfl 0 (by decide) lkX7_serves_146 (r_fl0 a s_6) dX7_serves_12 ?_
  refine j_aload_n (pc := 15) C dX7_serves_15 0 rfl rfl ?_
  refine j_get (ref := RX7) (pc := 16) C hiX7_serves 0 (r_at0 a cI cJ cZ s_6) rfl 1 (by decide) lkX7_serves_7 (r_fl1 a s_6) dX7_serves_16 ?_
  refine j_iadd (pc := 19) C dX7_serves_19 ?_
  refine j_topi (fun v_7 ev_7 => ?_)
  have hw := hw v_7 ev_7
  refine j_put (pc := 20) C hiX7_serves tyX7 tyX7_ok nmX7 0 (r_at0 a cI cJ cZ s_6) rfl 7 (by decide) lkX7_serves_149 rfl rfl rfl (Nat.le_of_ble_eq_true rfl) dX7_serves_20 (j_ws (r_s0_7 a cI cJ cZ s_6 v_7) ?_)
  refine j_nmS (F := rcells a cI cJ cZ) (fun s_8 es_8 => ?_)
  have hw := hw s_8 es_8
  exact j_vret (pc := 23) C hr s_8 rfl hw dX7_serves_23

def rmX7_comes : Room := { frames := 1, cells := 0, slots := 0, locals := 22 }
theorem hiX7_comes : ∀ w ∈ u_ws RX7 TX7 50, w ∈ wsX7_comes := fun w h => List.mem_cons_of_mem _ (List.mem_append_right _ h)
theorem lkX7_comes_19 : Cond.fieldLink yX7_comes.cls 19 (TX7 5).1 (TX7 5).2.1 (TX7 5).2.2.1 ∈ wsX7_comes := by decide +kernel
theorem lkX7_comes_156 : Cond.fieldLink yX7_comes.cls 156 (TX7 8).1 (TX7 8).2.1 (TX7 8).2.2.1 ∈ wsX7_comes := by decide +kernel
theorem lkX7_comes_13 : Cond.fieldLink yX7_comes.cls 13 (TX7 2).1 (TX7 2).2.1 (TX7 2).2.2.1 ∈ wsX7_comes := by decide +kernel
theorem lkX7_comes_22 : Cond.fieldLink yX7_comes.cls 22 (TX7 10).1 (TX7 10).2.1 (TX7 10).2.2.1 ∈ wsX7_comes := by decide +kernel
theorem lkX7_comes_26 : Cond.fieldLink yX7_comes.cls 26 (TX7 11).1 (TX7 11).2.1 (TX7 11).2.2.1 ∈ wsX7_comes := by decide +kernel
theorem lkX7_comes_159 : Cond.fieldLink yX7_comes.cls 159 (TX7 9).1 (TX7 9).2.1 (TX7 9).2.2.1 ∈ wsX7_comes := by decide +kernel
def wX7_comes_82 (N : Nat) (σ : jRS) (y0 : Int32) (post : Int32 → jRS → Prop) : Prop := ∀ s_13 : jRS, s_13 = rP σ 0 9 y0 → post 1 s_13
set_option maxHeartbeats 4000000 in
set_option maxRecDepth 100000 in
theorem kX7_comes_82 {p : Program} {l : Launch} {e : Env} {s : State} {m : MethodId} {args : Array Value} {below : List Frame} {meth : Method} {c : Code} {D : va_G} {cI cJ cZ cO : ClassId} {a : Nat → Nat} {A : Nat → Prop} {N : Nat} {post : Int32 → jRS → Prop} (C : jC p s m args meth c cX7_comes 3 yX7_comes.cls wsX7_comes D (jT cI cJ cZ cO) A) (hr : meth.sig.returnType = (some .boolean)) (hG : jG0 A s) (σ : jRS) (y0 : Int32) (hw : wX7_comes_82 N σ y0 post) : jJ p l e rmX7_comes s m args below meth c 0 0 (MQ below (va_Qi post (jE D (jT cI cJ cZ cO) A (rcells a cI cJ cZ)) A) args s 0 0 A) D A 3 (rcells a cI cJ cZ σ) [] 82 [.int y0, .ref (a 0)] := by
  unfold wX7_comes_82 at hw
  refine j_put (pc := 82) C hiX7_comes tyX7 tyX7_ok nmX7 0 (r_at0 a cI cJ cZ σ) rfl 9 (by decide) lkX7_comes_159 rfl rfl rfl (Nat.le_of_ble_eq_true rfl) dX7_comes_82 (j_ws (r_s0_9 a cI cJ cZ σ y0) ?_)
  refine j_nmS (F := rcells a cI cJ cZ) (fun s_13 es_13 => ?_)
  have hw := hw s_13 es_13
  refine j_iconst (pc := 85) (v := 1) C dX7_comes_85 (by decide) ?_
  exact j_zret (pc := 86) C hr (by decide) s_13 rfl hw dX7_comes_86
def wX7_comes (N : Nat) (σ : jRS) (x1 : Int32) (x2 : Int32) (post : Int32 → jRS → Prop) : Prop := ((¬ (σ.1 0 5) = 3) → ((((σ.1 0 8) < (σ.1 0 2)) → (vp_in (σ.1 0 8) 64 ∧ ∀ s_17 : jRS, s_17 = rP σ 10 (σ.1 0 8).toNatClampNeg x1 → vp_in (s_17.1 0 8) 64 ∧ ∀ s_19 : jRS, s_19 = rP s_17 11 (s_17.1 0 8).toNatClampNeg x2 → ∀ v_20 : Int32, v_20 = (s_19.1 0 8) + 1 → ∀ s_21 : jRS, s_21 = rP s_19 0 8 v_20 → (((s_21.1 0 8) ≤ (s_21.1 0 9)) → (wX7_comes_82 N s_21 (s_21.1 0 9) post)) ∧ ((¬ (s_21.1 0 8) ≤ (s_21.1 0 9)) → (wX7_comes_82 N s_21 (s_21.1 0 8) post)))) ∧ ((¬ (σ.1 0 8) < (σ.1 0 2)) → (post 0 σ)))) ∧ (((σ.1 0 5) = 3) → (wX7_serves N σ x1 x2 (fun s_24 => post 1 s_24)))
set_option maxHeartbeats 4000000 in
set_option maxRecDepth 100000 in
theorem mX7_comes {l : Launch} {D : va_G} {cI cJ cZ cO : ClassId} {a : Nat → Nat} {N : Nat} {σ : jRS} {x1 x2 : Int32} {post : Int32 → jRS → Prop} (hw : wX7_comes N σ x1 x2 post) : jMi l D (jT cI cJ cZ cO) jG0 yX7_comes wsX7_comes rmX7_comes [.ref (a 0), .int x1, .int x2] (rcells a cI cJ cZ σ) post (rcells a cI cJ cZ) 0 0 := by
  refine j_ofi (cc := cX7_comes) (maxL := 3) (ret := (some .boolean)) (by decide) rfl (Nat.le_of_ble_eq_true rfl) ?_
  intro p e s m args below meth c A C hr hnm hG
  refine j_sub (lv' := [(0, .ref (a 0)), (1, .int x1), (2, .int x2)]) [0, 1, 2] rfl ?_
  unfold wX7_comes at hw
  refine j_aload_n (pc := 0) C dX7_comes_0 0 rfl rfl ?_
  refine j_get (ref := RX7) (pc := 1) C hiX7_comes 0 (r_at0 a cI cJ cZ σ) rfl 5 (by decide) lkX7_comes_19 (r_fl5 a σ) dX7_comes_1 ?_
  refine j_iconst (pc := 4) (v := 3) C dX7_comes_4 (by decide) ?_
  refine j_icmp_ne (pc := 5) C 16 dX7_comes_5 (by decide) (fun z_14 => ?_) (fun z_14 => ?_)
  · have hw := hw.1 z_14
    refine j_aload_n (pc := 16) C dX7_comes_16 0 rfl rfl ?_
    refine j_get (ref := RX7) (pc := 17) C hiX7_comes 0 (r_at0 a cI cJ cZ σ) rfl 8 (by decide) lkX7_comes_156 (r_fl8 a σ) dX7_comes_17 ?_
    refine j_aload_n (pc := 20) C dX7_comes_20 0 rfl rfl ?_
    refine j_get (ref := RX7) (pc := 21) C hiX7_comes 0 (r_at0 a cI cJ cZ σ) rfl 2 (by decide) lkX7_comes_13 (r_fl2 a σ) dX7_comes_21 ?_
    refine j_icmp_lt (pc := 24) C 29 dX7_comes_24 (by decide) (fun z_15 => ?_) (fun z_15 => ?_)
    · have hw := hw.1 z_15
      refine j_aload_n (pc := 29) C dX7_comes_29 0 rfl rfl ?_
      refine j_get (ref := RX7) (pc := 30) C hiX7_comes 0 (r_at0 a cI cJ cZ σ) rfl 10 (by decide) lkX7_comes_22 (r_fl10 a σ) dX7_comes_30 ?_
      refine j_aload_n (pc := 33) C dX7_comes_33 0 rfl rfl ?_
      refine j_get (ref := RX7) (pc := 34) C hiX7_comes 0 (r_at0 a cI cJ cZ σ) rfl 8 (by decide) lkX7_comes_156 (r_fl8 a σ) dX7_comes_34 ?_
      refine j_iload_n (pc := 37) C dX7_comes_37 1 rfl rfl ?_
      obtain ⟨h_16, hw⟩ := hw
      refine j_iast (pc := 38) C 1 0 (r_at10 a cI cJ cZ σ) rfl h_16 dX7_comes_38 (j_ws (r_s10 a cI cJ cZ σ (σ.1 0 8).toNatClampNeg x1) ?_)
      refine j_nmS (F := rcells a cI cJ cZ) (fun s_17 es_17 => ?_)
      have hw := hw s_17 es_17
      refine j_aload_n (pc := 39) C dX7_comes_39 0 rfl rfl ?_
      refine j_get (ref := RX7) (pc := 40) C hiX7_comes 0 (r_at0 a cI cJ cZ s_17) rfl 11 (by decide) lkX7_comes_26 (r_fl11 a s_17) dX7_comes_40 ?_
      refine j_aload_n (pc := 43) C dX7_comes_43 0 rfl rfl ?_
      refine j_get (ref := RX7) (pc := 44) C hiX7_comes 0 (r_at0 a cI cJ cZ s_17) rfl 8 (by decide) lkX7_comes_156 (r_fl8 a s_17) dX7_comes_44 ?_
      refine j_iload_n (pc := 47) C dX7_comes_47 2 rfl rfl ?_
      obtain ⟨h_18, hw⟩ := hw
      refine j_iast (pc := 48) C 2 0 (r_at11 a cI cJ cZ s_17) rfl h_18 dX7_comes_48 (j_ws (r_s11 a cI cJ cZ s_17 (s_17.1 0 8).toNatClampNeg x2) ?_)
      refine j_nmS (F := rcells a cI cJ cZ) (fun s_19 es_19 => ?_)
      have hw := hw s_19 es_19
      refine j_aload_n (pc := 49) C dX7_comes_49 0 rfl rfl ?_
      refine j_dup (pc := 50) C dX7_comes_50 rfl ?_
      refine j_get (ref := RX7) (pc := 51) C hiX7_comes 0 (r_at0 a cI cJ cZ s_19) rfl 8 (by decide) lkX7_comes_156 (r_fl8 a s_19) dX7_comes_51 ?_
      refine j_iconst (pc := 54) (v := 1) C dX7_comes_54 (by decide) ?_
      refine j_iadd (pc := 55) C dX7_comes_55 ?_
      refine j_topi (fun v_20 ev_20 => ?_)
      have hw := hw v_20 ev_20
      refine j_put (pc := 56) C hiX7_comes tyX7 tyX7_ok nmX7 0 (r_at0 a cI cJ cZ s_19) rfl 8 (by decide) lkX7_comes_156 rfl rfl rfl (Nat.le_of_ble_eq_true rfl) dX7_comes_56 (j_ws (r_s0_8 a cI cJ cZ s_19 v_20) ?_)
      refine j_nmS (F := rcells a cI cJ cZ) (fun s_21 es_21 => ?_)
      have hw := hw s_21 es_21
      refine j_aload_n (pc := 59) C dX7_comes_59 0 rfl rfl ?_
      refine j_aload_n (pc := 60) C dX7_comes_60 0 rfl rfl ?_
      refine j_get (ref := RX7) (pc := 61) C hiX7_comes 0 (r_at0 a cI cJ cZ s_21) rfl 8 (by decide) lkX7_comes_156 (r_fl8 a s_21) dX7_comes_61 ?_
      refine j_aload_n (pc := 64) C dX7_comes_64 0 rfl rfl ?_
      refine j_get (ref := RX7) (pc := 65) C hiX7_comes 0 (r_at0 a cI cJ cZ s_21) rfl 9 (by decide) lkX7_comes_159 (r_fl9 a s_21) dX7_comes_65 ?_
      refine j_icmp_le (pc := 68) C 78 dX7_comes_68 (by decide) (fun z_22 => ?_) (fun z_22 => ?_)
      · have hw := hw.1 z_22
        refine j_aload_n (pc := 78) C dX7_comes_78 0 rfl rfl ?_
        refine j_get (ref := RX7) (pc := 79) C hiX7_comes 0 (r_at0 a cI cJ cZ s_21) rfl 9 (by decide) lkX7_comes_159 (r_fl9 a s_21) dX7_comes_79 ?_
        refine j_sub [] rfl ?_
        exact kX7_comes_82 C hr hG _ _ hw
      · have hw := hw.2 z_22
        refine j_aload_n (pc := 71) C dX7_comes_71 0 rfl rfl ?_
        refine j_get (ref := RX7) (pc := 72) C hiX7_comes 0 (r_at0 a cI cJ cZ s_21) rfl 8 (by decide) lkX7_comes_156 (r_fl8 a s_21) dX7_comes_72 ?_
        refine j_goto (pc := 75) C 82 dX7_comes_75 (by decide) ?_
        refine j_sub [] rfl ?_
        exact kX7_comes_82 C hr hG _ _ hw
    · have hw := hw.2 z_15
      refine j_iconst (pc := 27) (v := 0) C dX7_comes_27 (by decide) ?_
      exact j_zret (pc := 28) C hr (by decide) σ rfl hw dX7_comes_28
  · have hw := hw.2 z_14
    refine j_aload_n (pc := 8) C dX7_comes_8 0 rfl rfl ?_
    refine j_iload_n (pc := 9) C dX7_comes_9 1 rfl rfl ?_
    refine j_iload_n (pc := 10) C dX7_comes_10 2 rfl rfl ?_
    refine j_callv0 (pc := 11) C jG0_ok trivial 2 (mX7_serves hw) gX7_comes_X7_serves rfl rfl rfl (by decide +kernel) ⟨by decide, by decide⟩ 0 (r_at0 a cI cJ cZ σ) rfl rfl rfl (Nat.le_of_ble_eq_true rfl) dX7_comes_11 ⟨Nat.le_refl _, Nat.le_refl _⟩ (fun s_24 hw => ?_)
    refine j_iconst (pc := 14) (v := 1) C dX7_comes_14 (by decide) ?_
    exact j_zret (pc := 15) C hr (by decide) s_24 rfl hw dX7_comes_15

def rmX7_placeOf : Room := { frames := 0, cells := 0, slots := 0, locals := 0 }
theorem hiX7_placeOf : ∀ w ∈ u_ws RX7 TX7 50, w ∈ wsX7_placeOf := fun w h => List.mem_cons_of_mem _ (List.mem_append_right _ h)
theorem lkX7_placeOf_35 : Cond.fieldLink yX7_placeOf.cls 35 (TX7 17).1 (TX7 17).2.1 (TX7 17).2.2.1 ∈ wsX7_placeOf := by decide +kernel
def wX7_placeOf_2 (N : Nat) : Nat → jRS → Int32 → Int32 → Int32 → (Int32 → jRS → Prop) → Prop
  | 0, _, _, _, _, _ => False
  | n + 1, σ, x1, x2, x3, post => vp_in ((512 * x1) + x3) 1024 ∧ (((σ.1 17 ((512 * x1) + x3).toNatClampNeg) = x2) → (post x3 σ)) ∧ ((¬ (σ.1 17 ((512 * x1) + x3).toNatClampNeg) = x2) → (∀ x3_6 : Int32, x3_6 = x3 + 1 → wX7_placeOf_2 N n σ x1 x2 x3_6 post))
set_option maxHeartbeats 4000000 in
set_option maxRecDepth 100000 in
theorem kX7_placeOf_2 {p : Program} {l : Launch} {e : Env} {s : State} {m : MethodId} {args : Array Value} {below : List Frame} {meth : Method} {c : Code} {D : va_G} {cI cJ cZ cO : ClassId} {a : Nat → Nat} {A : Nat → Prop} {N : Nat} {post : Int32 → jRS → Prop} (C : jC p s m args meth c cX7_placeOf 4 yX7_placeOf.cls wsX7_placeOf D (jT cI cJ cZ cO) A) (hr : meth.sig.returnType = (some .int)) (hG : jG0 A s) : ∀ (n : Nat) (σ : jRS) (x1 : Int32) (x2 : Int32) (x3 : Int32), wX7_placeOf_2 N n σ x1 x2 x3 post → jJ p l e rmX7_placeOf s m args below meth c 0 0 (MQ below (va_Qi post (jE D (jT cI cJ cZ cO) A (rcells a cI cJ cZ)) A) args s 0 0 A) D A 4 (rcells a cI cJ cZ σ) [(0, .ref (a 0)), (1, .int x1), (2, .int x2), (3, .int x3)] 2 [] := by
  intro n
  induction n with
  | zero =>
    intro σ x1 x2 x3 hw
    exact False.elim hw
  | succ n ih =>
    intro σ x1 x2 x3 hw
    unfold wX7_placeOf_2 at hw
    refine j_aload_n (pc := 2) C dX7_placeOf_2 0 rfl rfl ?_
    refine j_get (ref := RX7) (pc := 3) C hiX7_placeOf 0 (r_at0 a cI cJ cZ σ) rfl 17 (by decide) lkX7_placeOf_35 (r_fl17 a σ) dX7_placeOf_3 ?_
    refine j_sipush (pc := 6) (v := 512) C dX7_placeOf_6 (by decide) ?_
    refine j_iload_n (pc := 9) C dX7_placeOf_9 1 rfl rfl ?_
    refine j_imul (pc := 10) C dX7_placeOf_10 ?_
    refine j_iload_n (pc := 11) C dX7_placeOf_11 3 rfl rfl ?_
    refine j_iadd (pc := 12) C dX7_placeOf_12 ?_
    obtain ⟨h_4, hw⟩ := hw
    refine j_iald (pc := 13) C 5 0 (r_at17 a cI cJ cZ σ) rfl h_4 dX7_placeOf_13 ?_
    refine j_iload_n (pc := 14) C dX7_placeOf_14 2 rfl rfl ?_
    refine j_icmp_eq (pc := 15) C 24 dX7_placeOf_15 (by decide) (fun z_5 => ?_) (fun z_5 => ?_)
    · have hw := hw.1 z_5
      refine j_iload_n (pc := 24) C dX7_placeOf_24 3 rfl rfl ?_
      exact j_iret (pc := 25) C hr σ rfl hw dX7_placeOf_25
    · have hw := hw.2 z_5
      obtain ⟨x3_6, ex3_6⟩ : ∃ y : Int32, y = x3 + 1 := ⟨_, rfl⟩
      have hw := hw x3_6 ex3_6
      refine j_iinc (pc := 18) (v := x3_6) (lv' := [(0, .ref (a 0)), (1, .int x1), (2, .int x2), (3, .int x3_6)]) C [1, 2, 3, 0] 3 dX7_placeOf_18 rfl (by rw [ex3_6]; rfl) (by decide) rfl ?_
      refine j_goto (pc := 21) C 2 dX7_placeOf_21 (by decide) ?_
      exact ih _ _ _ _ hw
def wX7_placeOf (N : Nat) (σ : jRS) (x1 : Int32) (x2 : Int32) (post : Int32 → jRS → Prop) : Prop := wX7_placeOf_2 N N σ x1 x2 0 post
set_option maxHeartbeats 4000000 in
set_option maxRecDepth 100000 in
theorem mX7_placeOf {l : Launch} {D : va_G} {cI cJ cZ cO : ClassId} {a : Nat → Nat} {N : Nat} {σ : jRS} {x1 x2 : Int32} {post : Int32 → jRS → Prop} (hw : wX7_placeOf N σ x1 x2 post) : jMi l D (jT cI cJ cZ cO) jG0 yX7_placeOf wsX7_placeOf rmX7_placeOf [.ref (a 0), .int x1, .int x2] (rcells a cI cJ cZ σ) post (rcells a cI cJ cZ) 0 0 := by
  refine j_ofi (cc := cX7_placeOf) (maxL := 4) (ret := (some .int)) (by decide) rfl (Nat.le_of_ble_eq_true rfl) ?_
  intro p e s m args below meth c A C hr hnm hG
  refine j_sub (lv' := [(0, .ref (a 0)), (1, .int x1), (2, .int x2)]) [0, 1, 2] rfl ?_
  unfold wX7_placeOf at hw
  refine j_iconst (pc := 0) (v := 0) C dX7_placeOf_0 (by decide) ?_
  refine j_istore_n (pc := 1) (lv' := [(0, .ref (a 0)), (1, .int x1), (2, .int x2), (3, .int 0)]) C [1, 2, 3, 0] dX7_placeOf_1 rfl (by decide) rfl ?_
  exact kX7_placeOf_2 C hr hG N _ _ _ _ hw

def rmX7_takesOff : Room := { frames := 0, cells := 0, slots := 0, locals := 0 }
theorem hiX7_takesOff : ∀ w ∈ u_ws RX7 TX7 50, w ∈ wsX7_takesOff := fun w h => List.mem_cons_of_mem _ (List.mem_append_right _ h)
theorem lkX7_takesOff_32 : Cond.fieldLink yX7_takesOff.cls 32 (TX7 16).1 (TX7 16).2.1 (TX7 16).2.2.1 ∈ wsX7_takesOff := by decide +kernel
theorem lkX7_takesOff_35 : Cond.fieldLink yX7_takesOff.cls 35 (TX7 17).1 (TX7 17).2.1 (TX7 17).2.2.1 ∈ wsX7_takesOff := by decide +kernel
theorem lkX7_takesOff_38 : Cond.fieldLink yX7_takesOff.cls 38 (TX7 18).1 (TX7 18).2.1 (TX7 18).2.2.1 ∈ wsX7_takesOff := by decide +kernel
theorem lkX7_takesOff_41 : Cond.fieldLink yX7_takesOff.cls 41 (TX7 19).1 (TX7 19).2.1 (TX7 19).2.2.1 ∈ wsX7_takesOff := by decide +kernel
theorem lkX7_takesOff_44 : Cond.fieldLink yX7_takesOff.cls 44 (TX7 20).1 (TX7 20).2.1 (TX7 20).2.2.1 ∈ wsX7_takesOff := by decide +kernel
theorem lkX7_takesOff_47 : Cond.fieldLink yX7_takesOff.cls 47 (TX7 21).1 (TX7 21).2.1 (TX7 21).2.2.1 ∈ wsX7_takesOff := by decide +kernel
theorem lkX7_takesOff_51 : Cond.fieldLink yX7_takesOff.cls 51 (TX7 22).1 (TX7 22).2.1 (TX7 22).2.2.1 ∈ wsX7_takesOff := by decide +kernel
def wX7_takesOff_12 (N : Nat) : Nat → jRS → Int32 → Int32 → (jRS → Prop) → Prop
  | 0, _, _, _, _ => False
  | n + 1, σ, x1, x3, post => vp_in x1 2 ∧ (((σ.1 16 x1.toNatClampNeg) ≤ x3) → (post σ)) ∧ ((¬ (σ.1 16 x1.toNatClampNeg) ≤ x3) → (∀ x4_35 : Int32, x4_35 = (512 * x1) + x3 → vp_in (x4_35 + 1) 1024 ∧ ∀ v_37 : Int32, v_37 = σ.1 17 (x4_35 + 1).toNatClampNeg → vp_in x4_35 1024 ∧ ∀ s_39 : jRS, s_39 = rP σ 17 x4_35.toNatClampNeg v_37 → vp_in (x4_35 + 1) 1024 ∧ ∀ v_41 : Int32, v_41 = s_39.1 18 (x4_35 + 1).toNatClampNeg → vp_in x4_35 1024 ∧ ∀ s_43 : jRS, s_43 = rP s_39 18 x4_35.toNatClampNeg v_41 → vp_in (x4_35 + 1) 1024 ∧ ∀ v_45 : Int32, v_45 = s_43.1 19 (x4_35 + 1).toNatClampNeg → vp_in x4_35 1024 ∧ ∀ s_47 : jRS, s_47 = rP s_43 19 x4_35.toNatClampNeg v_45 → vp_in (x4_35 + 1) 1024 ∧ ∀ v_49 : Int32, v_49 = s_47.1 20 (x4_35 + 1).toNatClampNeg → vp_in x4_35 1024 ∧ ∀ s_51 : jRS, s_51 = rP s_47 20 x4_35.toNatClampNeg v_49 → vp_in (x4_35 + 1) 1024 ∧ ∀ v_53 : Int32, v_53 = s_51.1 21 (x4_35 + 1).toNatClampNeg → vp_in x4_35 1024 ∧ ∀ s_55 : jRS, s_55 = rP s_51 21 x4_35.toNatClampNeg (vp_nar .boolean v_53) → vp_in (x4_35 + 1) 1024 ∧ ∀ v_57 : Int32, v_57 = s_55.1 22 (x4_35 + 1).toNatClampNeg → vp_in x4_35 1024 ∧ ∀ s_59 : jRS, s_59 = rP s_55 22 x4_35.toNatClampNeg v_57 → ∀ x3_60 : Int32, x3_60 = x3 + 1 → wX7_takesOff_12 N n s_59 x1 x3_60 post))
set_option maxHeartbeats 4000000 in
set_option maxRecDepth 100000 in
theorem kX7_takesOff_12 {p : Program} {l : Launch} {e : Env} {s : State} {m : MethodId} {args : Array Value} {below : List Frame} {meth : Method} {c : Code} {D : va_G} {cI cJ cZ cO : ClassId} {a : Nat → Nat} {A : Nat → Prop} {N : Nat} {post : jRS → Prop} (C : jC p s m args meth c cX7_takesOff 5 yX7_takesOff.cls wsX7_takesOff D (jT cI cJ cZ cO) A) (hr : meth.sig.returnType = none) (hG : jG0 A s) : ∀ (n : Nat) (σ : jRS) (x1 : Int32) (x3 : Int32), wX7_takesOff_12 N n σ x1 x3 post → jJ p l e rmX7_takesOff s m args below meth c 0 0 (MQ below (va_Qv post (jE D (jT cI cJ cZ cO) A (rcells a cI cJ cZ)) A) args s 0 0 A) D A 5 (rcells a cI cJ cZ σ) [(0, .ref (a 0)), (1, .int x1), (3, .int x3)] 12 [] := by
  intro n
  induction n with
  | zero =>
    intro σ x1 x3 hw
    exact False.elim hw
  | succ n ih =>
    intro σ x1 x3 hw
    unfold wX7_takesOff_12 at hw
    refine j_iload_n (pc := 12) C dX7_takesOff_12 2 rfl rfl ?_
    refine j_aload_n (pc := 13) C dX7_takesOff_13 0 rfl rfl ?_
    refine j_get (ref := RX7) (pc := 14) C hiX7_takesOff 0 (r_at0 a cI cJ cZ σ) rfl 16 (by decide) lkX7_takesOff_32 (r_fl16 a σ) dX7_takesOff_14 ?_
    refine j_iload_n (pc := 17) C dX7_takesOff_17 1 rfl rfl ?_
    obtain ⟨h_33, hw⟩ := hw
    refine j_iald (pc := 18) C 4 0 (r_at16 a cI cJ cZ σ) rfl h_33 dX7_takesOff_18 ?_
    refine j_icmp_ge (pc := 19) C 133 dX7_takesOff_19 (by decide) (fun z_34 => ?_) (fun z_34 => ?_)
    · have hw := hw.1 z_34
      exact j_vret (pc := 133) C hr σ rfl hw dX7_takesOff_133
    · have hw := hw.2 z_34
      refine j_sipush (pc := 22) (v := 512) C dX7_takesOff_22 (by decide) ?_
      refine j_iload_n (pc := 25) C dX7_takesOff_25 1 rfl rfl ?_
      refine j_imul (pc := 26) C dX7_takesOff_26 ?_
      refine j_iload_n (pc := 27) C dX7_takesOff_27 2 rfl rfl ?_
      refine j_iadd (pc := 28) C dX7_takesOff_28 ?_
      refine j_topi (fun x4_35 ex4_35 => ?_)
      have hw := hw x4_35 ex4_35
      refine j_istore (pc := 29) (lv' := [(0, .ref (a 0)), (1, .int x1), (3, .int x3), (4, .int x4_35)]) C [1, 2, 3, 0] dX7_takesOff_29 (by decide) rfl ?_
      refine j_aload_n (pc := 31) C dX7_takesOff_31 0 rfl rfl ?_
      refine j_get (ref := RX7) (pc := 32) C hiX7_takesOff 0 (r_at0 a cI cJ cZ σ) rfl 17 (by decide) lkX7_takesOff_35 (r_fl17 a σ) dX7_takesOff_32 ?_
      refine j_iload (pc := 35) C dX7_takesOff_35 3 rfl ?_
      refine j_aload_n (pc := 37) C dX7_takesOff_37 0 rfl rfl ?_
      refine j_get (ref := RX7) (pc := 38) C hiX7_takesOff 0 (r_at0 a cI cJ cZ σ) rfl 17 (by decide) lkX7_takesOff_35 (r_fl17 a σ) dX7_takesOff_38 ?_
      refine j_iload (pc := 41) C dX7_takesOff_41 3 rfl ?_
      refine j_iconst (pc := 43) (v := 1) C dX7_takesOff_43 (by decide) ?_
      refine j_iadd (pc := 44) C dX7_takesOff_44 ?_
      obtain ⟨h_36, hw⟩ := hw
      refine j_iald (pc := 45) C 5 0 (r_at17 a cI cJ cZ σ) rfl h_36 dX7_takesOff_45 ?_
      refine j_topi (fun v_37 ev_37 => ?_)
      have hw := hw v_37 ev_37
      obtain ⟨h_38, hw⟩ := hw
      refine j_iast (pc := 46) C 5 0 (r_at17 a cI cJ cZ σ) rfl h_38 dX7_takesOff_46 (j_ws (r_s17 a cI cJ cZ σ x4_35.toNatClampNeg v_37) ?_)
      refine j_nmS (F := rcells a cI cJ cZ) (fun s_39 es_39 => ?_)
      have hw := hw s_39 es_39
      refine j_aload_n (pc := 47) C dX7_takesOff_47 0 rfl rfl ?_
      refine j_get (ref := RX7) (pc := 48) C hiX7_takesOff 0 (r_at0 a cI cJ cZ s_39) rfl 18 (by decide) lkX7_takesOff_38 (r_fl18 a s_39) dX7_takesOff_48 ?_
      refine j_iload (pc := 51) C dX7_takesOff_51 3 rfl ?_
      refine j_aload_n (pc := 53) C dX7_takesOff_53 0 rfl rfl ?_
      refine j_get (ref := RX7) (pc := 54) C hiX7_takesOff 0 (r_at0 a cI cJ cZ s_39) rfl 18 (by decide) lkX7_takesOff_38 (r_fl18 a s_39) dX7_takesOff_54 ?_
      refine j_iload (pc := 57) C dX7_takesOff_57 3 rfl ?_
      refine j_iconst (pc := 59) (v := 1) C dX7_takesOff_59 (by decide) ?_
      refine j_iadd (pc := 60) C dX7_takesOff_60 ?_
      obtain ⟨h_40, hw⟩ := hw
      refine j_iald (pc := 61) C 6 0 (r_at18 a cI cJ cZ s_39) rfl h_40 dX7_takesOff_61 ?_
      refine j_topi (fun v_41 ev_41 => ?_)
      have hw := hw v_41 ev_41
      obtain ⟨h_42, hw⟩ := hw
      refine j_iast (pc := 62) C 6 0 (r_at18 a cI cJ cZ s_39) rfl h_42 dX7_takesOff_62 (j_ws (r_s18 a cI cJ cZ s_39 x4_35.toNatClampNeg v_41) ?_)
      refine j_nmS (F := rcells a cI cJ cZ) (fun s_43 es_43 => ?_)
      have hw := hw s_43 es_43
      refine j_aload_n (pc := 63) C dX7_takesOff_63 0 rfl rfl ?_
      refine j_get (ref := RX7) (pc := 64) C hiX7_takesOff 0 (r_at0 a cI cJ cZ s_43) rfl 19 (by decide) lkX7_takesOff_41 (r_fl19 a s_43) dX7_takesOff_64 ?_
      refine j_iload (pc := 67) C dX7_takesOff_67 3 rfl ?_
      refine j_aload_n (pc := 69) C dX7_takesOff_69 0 rfl rfl ?_
      refine j_get (ref := RX7) (pc := 70) C hiX7_takesOff 0 (r_at0 a cI cJ cZ s_43) rfl 19 (by decide) lkX7_takesOff_41 (r_fl19 a s_43) dX7_takesOff_70 ?_
      refine j_iload (pc := 73) C dX7_takesOff_73 3 rfl ?_
      refine j_iconst (pc := 75) (v := 1) C dX7_takesOff_75 (by decide) ?_
      refine j_iadd (pc := 76) C dX7_takesOff_76 ?_
      obtain ⟨h_44, hw⟩ := hw
      refine j_iald (pc := 77) C 7 0 (r_at19 a cI cJ cZ s_43) rfl h_44 dX7_takesOff_77 ?_
      refine j_topi (fun v_45 ev_45 => ?_)
      have hw := hw v_45 ev_45
      obtain ⟨h_46, hw⟩ := hw
      refine j_iast (pc := 78) C 7 0 (r_at19 a cI cJ cZ s_43) rfl h_46 dX7_takesOff_78 (j_ws (r_s19 a cI cJ cZ s_43 x4_35.toNatClampNeg v_45) ?_)
      refine j_nmS (F := rcells a cI cJ cZ) (fun s_47 es_47 => ?_)
      have hw := hw s_47 es_47
      refine j_aload_n (pc := 79) C dX7_takesOff_79 0 rfl rfl ?_
      refine j_get (ref := RX7) (pc := 80) C hiX7_takesOff 0 (r_at0 a cI cJ cZ s_47) rfl 20 (by decide) lkX7_takesOff_44 (r_fl20 a s_47) dX7_takesOff_80 ?_
      refine j_iload (pc := 83) C dX7_takesOff_83 3 rfl ?_
      refine j_aload_n (pc := 85) C dX7_takesOff_85 0 rfl rfl ?_
      refine j_get (ref := RX7) (pc := 86) C hiX7_takesOff 0 (r_at0 a cI cJ cZ s_47) rfl 20 (by decide) lkX7_takesOff_44 (r_fl20 a s_47) dX7_takesOff_86 ?_
      refine j_iload (pc := 89) C dX7_takesOff_89 3 rfl ?_
      refine j_iconst (pc := 91) (v := 1) C dX7_takesOff_91 (by decide) ?_
      refine j_iadd (pc := 92) C dX7_takesOff_92 ?_
      obtain ⟨h_48, hw⟩ := hw
      refine j_iald (pc := 93) C 8 0 (r_at20 a cI cJ cZ s_47) rfl h_48 dX7_takesOff_93 ?_
      refine j_topi (fun v_49 ev_49 => ?_)
      have hw := hw v_49 ev_49
      obtain ⟨h_50, hw⟩ := hw
      refine j_iast (pc := 94) C 8 0 (r_at20 a cI cJ cZ s_47) rfl h_50 dX7_takesOff_94 (j_ws (r_s20 a cI cJ cZ s_47 x4_35.toNatClampNeg v_49) ?_)
      refine j_nmS (F := rcells a cI cJ cZ) (fun s_51 es_51 => ?_)
      have hw := hw s_51 es_51
      refine j_aload_n (pc := 95) C dX7_takesOff_95 0 rfl rfl ?_
      refine j_get (ref := RX7) (pc := 96) C hiX7_takesOff 0 (r_at0 a cI cJ cZ s_51) rfl 21 (by decide) lkX7_takesOff_47 (r_fl21 a s_51) dX7_takesOff_96 ?_
      refine j_iload (pc := 99) C dX7_takesOff_99 3 rfl ?_
      refine j_aload_n (pc := 101) C dX7_takesOff_101 0 rfl rfl ?_
      refine j_get (ref := RX7) (pc := 102) C hiX7_takesOff 0 (r_at0 a cI cJ cZ s_51) rfl 21 (by decide) lkX7_takesOff_47 (r_fl21 a s_51) dX7_takesOff_102 ?_
      refine j_iload (pc := 105) C dX7_takesOff_105 3 rfl ?_
      refine j_iconst (pc := 107) (v := 1) C dX7_takesOff_107 (by decide) ?_
      refine j_iadd (pc := 108) C dX7_takesOff_108 ?_
      obtain ⟨h_52, hw⟩ := hw
      refine j_zald (pc := 109) C 9 2 (r_at21 a cI cJ cZ s_51) rfl h_52 dX7_takesOff_109 ?_
      refine j_topi (fun v_53 ev_53 => ?_)
      have hw := hw v_53 ev_53
      obtain ⟨h_54, hw⟩ := hw
      refine j_zast (pc := 110) C 9 2 (r_at21 a cI cJ cZ s_51) rfl h_54 dX7_takesOff_110 (j_ws (r_s21 a cI cJ cZ s_51 x4_35.toNatClampNeg (vp_nar .boolean v_53)) ?_)
      refine j_nmS (F := rcells a cI cJ cZ) (fun s_55 es_55 => ?_)
      have hw := hw s_55 es_55
      refine j_aload_n (pc := 111) C dX7_takesOff_111 0 rfl rfl ?_
      refine j_get (ref := RX7) (pc := 112) C hiX7_takesOff 0 (r_at0 a cI cJ cZ s_55) rfl 22 (by decide) lkX7_takesOff_51 (r_fl22 a s_55) dX7_takesOff_112 ?_
      refine j_iload (pc := 115) C dX7_takesOff_115 3 rfl ?_
      refine j_aload_n (pc := 117) C dX7_takesOff_117 0 rfl rfl ?_
      refine j_get (ref := RX7) (pc := 118) C hiX7_takesOff 0 (r_at0 a cI cJ cZ s_55) rfl 22 (by decide) lkX7_takesOff_51 (r_fl22 a s_55) dX7_takesOff_118 ?_
      refine j_iload (pc := 121) C dX7_takesOff_121 3 rfl ?_
      refine j_iconst (pc := 123) (v := 1) C dX7_takesOff_123 (by decide) ?_
      refine j_iadd (pc := 124) C dX7_takesOff_124 ?_
      obtain ⟨h_56, hw⟩ := hw
      refine j_iald (pc := 125) C 10 0 (r_at22 a cI cJ cZ s_55) rfl h_56 dX7_takesOff_125 ?_
      refine j_topi (fun v_57 ev_57 => ?_)
      have hw := hw v_57 ev_57
      obtain ⟨h_58, hw⟩ := hw
      refine j_iast (pc := 126) C 10 0 (r_at22 a cI cJ cZ s_55) rfl h_58 dX7_takesOff_126 (j_ws (r_s22 a cI cJ cZ s_55 x4_35.toNatClampNeg v_57) ?_)
      refine j_nmS (F := rcells a cI cJ cZ) (fun s_59 es_59 => ?_)
      have hw := hw s_59 es_59
      obtain ⟨x3_60, ex3_60⟩ : ∃ y : Int32, y = x3 + 1 := ⟨_, rfl⟩
      have hw := hw x3_60 ex3_60
      refine j_iinc (pc := 127) (v := x3_60) (lv' := [(0, .ref (a 0)), (1, .int x1), (3, .int x3_60), (4, .int x4_35)]) C [1, 2, 0, 3] 2 dX7_takesOff_127 rfl (by rw [ex3_60]; rfl) (by decide) rfl ?_
      refine j_goto (pc := 130) C 12 dX7_takesOff_130 (by decide) ?_
      refine j_sub [0, 1, 2] rfl ?_
      exact ih _ _ _ hw
def wX7_takesOff (N : Nat) (σ : jRS) (x1 : Int32) (x2 : Int32) (post : jRS → Prop) : Prop := vp_in x1 2 ∧ ∀ v_62 : Int32, v_62 = (σ.1 16 x1.toNatClampNeg) - 1 → vp_in x1 2 ∧ ∀ s_64 : jRS, s_64 = rP σ 16 x1.toNatClampNeg v_62 → wX7_takesOff_12 N N s_64 x1 x2 post
set_option maxHeartbeats 4000000 in
set_option maxRecDepth 100000 in
theorem mX7_takesOff {l : Launch} {D : va_G} {cI cJ cZ cO : ClassId} {a : Nat → Nat} {N : Nat} {σ : jRS} {x1 x2 : Int32} {post : jRS → Prop} (hw : wX7_takesOff N σ x1 x2 post) : jMv l D (jT cI cJ cZ cO) jG0 yX7_takesOff wsX7_takesOff rmX7_takesOff [.ref (a 0), .int x1, .int x2] (rcells a cI cJ cZ σ) post (rcells a cI cJ cZ) 0 0 := by
  refine j_ofv (cc := cX7_takesOff) (maxL := 5) (ret := none) (by decide) rfl (Nat.le_of_ble_eq_true rfl) ?_
  intro p e s m args below meth c A C hr hnm hG
  refine j_sub (lv' := [(0, .ref (a 0)), (1, .int x1), (2, .int x2)]) [0, 1, 2] rfl ?_
  unfold wX7_takesOff at hw
  refine j_aload_n (pc := 0) C dX7_takesOff_0 0 rfl rfl ?_
  refine j_get (ref := RX7) (pc := 1) C hiX7_takesOff 0 (r_at0 a cI cJ cZ σ) rfl 16 (by decide) lkX7_takesOff_32 (r_fl16 a σ) dX7_takesOff_1 ?_
  refine j_iload_n (pc := 4) C dX7_takesOff_4 1 rfl rfl ?_
  refine j_dup2 (pc := 5) C dX7_takesOff_5 rfl rfl ?_
  obtain ⟨h_61, hw⟩ := hw
  refine j_iald (pc := 6) C 4 0 (r_at16 a cI cJ cZ σ) rfl h_61 dX7_takesOff_6 ?_
  refine j_iconst (pc := 7) (v := 1) C dX7_takesOff_7 (by decide) ?_
  refine j_isub (pc := 8) C dX7_takesOff_8 ?_
  refine j_topi (fun v_62 ev_62 => ?_)
  have hw := hw v_62 ev_62
  obtain ⟨h_63, hw⟩ := hw
  refine j_iast (pc := 9) C 4 0 (r_at16 a cI cJ cZ σ) rfl h_63 dX7_takesOff_9 (j_ws (r_s16 a cI cJ cZ σ x1.toNatClampNeg v_62) ?_)
  refine j_nmS (F := rcells a cI cJ cZ) (fun s_64 es_64 => ?_)
  have hw := hw s_64 es_64
  refine j_iload_n (pc := 10) C dX7_takesOff_10 2 rfl rfl ?_
  refine j_istore_n (pc := 11) (lv' := [(0, .ref (a 0)), (1, .int x1), (2, .int x2), (3, .int x2)]) C [1, 2, 3, 0] dX7_takesOff_11 rfl (by decide) rfl ?_
  refine j_sub [0, 1, 3] rfl ?_
  exact kX7_takesOff_12 C hr hG N _ _ _ hw

def rmX7_gate : Room := { frames := 1, cells := 0, slots := 0, locals := 22 }
theorem hiX7_gate : ∀ w ∈ u_ws RX7 TX7 50, w ∈ wsX7_gate := fun w h => List.mem_cons_of_mem _ (List.mem_append_right _ h)
theorem lkX7_gate_7 : Cond.fieldLink yX7_gate.cls 7 (TX7 1).1 (TX7 1).2.1 (TX7 1).2.2.1 ∈ wsX7_gate := by decide +kernel
theorem lkX7_gate_13 : Cond.fieldLink yX7_gate.cls 13 (TX7 2).1 (TX7 2).2.1 (TX7 2).2.2.1 ∈ wsX7_gate := by decide +kernel
theorem lkX7_gate_16 : Cond.fieldLink yX7_gate.cls 16 (TX7 3).1 (TX7 3).2.1 (TX7 3).2.2.1 ∈ wsX7_gate := by decide +kernel
def wX7_gate (N : Nat) (σ : jRS) (x1 : Int32) (x2 : Int32) (x3 : Int32) (post : Int32 → jRS → Prop) : Prop := ∀ r_10 : Int32, r_10 = jwithin x1 1 40 → ((r_10 = 0) → (post ((-2)) σ)) ∧ ((¬ r_10 = 0) → (∀ r_12 : Int32, r_12 = jwithin x2 1 60 → ((r_12 = 0) → (post ((-2)) σ)) ∧ ((¬ r_12 = 0) → (∀ r_14 : Int32, r_14 = jwithin x3 1 200 → ((¬ r_14 = 0) → (∀ s_16 : jRS, s_16 = rP σ 0 1 x1 → ∀ s_17 : jRS, s_17 = rP s_16 0 2 x2 → ∀ s_18 : jRS, s_18 = rP s_17 0 3 x3 → post 1 s_18)) ∧ ((r_14 = 0) → (post ((-2)) σ))))))
set_option maxHeartbeats 4000000 in
set_option maxRecDepth 100000 in
theorem mX7_gate {l : Launch} {D : va_G} {cI cJ cZ cO : ClassId} {a : Nat → Nat} {N : Nat} {σ : jRS} {x1 x2 x3 : Int32} {post : Int32 → jRS → Prop} (hw : wX7_gate N σ x1 x2 x3 post) : jMi l D (jT cI cJ cZ cO) jG0 yX7_gate wsX7_gate rmX7_gate [.ref (a 0), .int x1, .int x2, .int x3] (rcells a cI cJ cZ σ) post (rcells a cI cJ cZ) 0 0 := by
  refine j_ofi (cc := cX7_gate) (maxL := 4) (ret := (some .int)) (by decide) rfl (Nat.le_of_ble_eq_true rfl) ?_
  intro p e s m args below meth c A C hr hnm hG
  refine j_sub (lv' := [(0, .ref (a 0)), (1, .int x1), (2, .int x2), (3, .int x3)]) [0, 1, 2, 3] rfl ?_
  unfold wX7_gate at hw
  refine j_iload_n (pc := 0) C dX7_gate_0 1 rfl rfl ?_
  refine j_iconst (pc := 1) (v := 1) C dX7_gate_1 (by decide) ?_
  refine j_bipush (pc := 2) (v := 40) C dX7_gate_2 (by decide) ?_
  refine j_scalli (pc := 4) C 3 (mX7_within x1 1 40) gX7_gate_X7_within rfl rfl rfl (by decide +kernel) ⟨by decide, by decide⟩ rfl rfl (Nat.le_of_ble_eq_true rfl) dX7_gate_4 ⟨Nat.le_refl _, Nat.le_refl _⟩ (fun r_10 er_10 => ?_)
  have hw := hw r_10 er_10
  refine j_if_eq (pc := 7) C 31 dX7_gate_7 (by decide) (fun z_11 => ?_) (fun z_11 => ?_)
  · have hw := hw.1 z_11
    refine j_bipush (pc := 31) (v := (-2)) C dX7_gate_31 (by decide) ?_
    exact j_iret (pc := 33) C hr σ rfl hw dX7_gate_33
  · have hw := hw.2 z_11
    refine j_iload_n (pc := 10) C dX7_gate_10 2 rfl rfl ?_
    refine j_iconst (pc := 11) (v := 1) C dX7_gate_11 (by decide) ?_
    refine j_bipush (pc := 12) (v := 60) C dX7_gate_12 (by decide) ?_
    refine j_scalli (pc := 14) C 3 (mX7_within x2 1 60) gX7_gate_X7_within rfl rfl rfl (by decide +kernel) ⟨by decide, by decide⟩ rfl rfl (Nat.le_of_ble_eq_true rfl) dX7_gate_14 ⟨Nat.le_refl _, Nat.le_refl _⟩ (fun r_12 er_12 => ?_)
    have hw := hw r_12 er_12
    refine j_if_eq (pc := 17) C 31 dX7_gate_17 (by decide) (fun z_13 => ?_) (fun z_13 => ?_)
    · have hw := hw.1 z_13
      refine j_bipush (pc := 31) (v := (-2)) C dX7_gate_31 (by decide) ?_
      exact j_iret (pc := 33) C hr σ rfl hw dX7_gate_33
    · have hw := hw.2 z_13
      refine j_iload_n (pc := 20) C dX7_gate_20 3 rfl rfl ?_
      refine j_iconst (pc := 21) (v := 1) C dX7_gate_21 (by decide) ?_
      refine j_sipush (pc := 22) (v := 200) C dX7_gate_22 (by decide) ?_
      refine j_scalli (pc := 25) C 3 (mX7_within x3 1 200) gX7_gate_X7_within rfl rfl rfl (by decide +kernel) ⟨by decide, by decide⟩ rfl rfl (Nat.le_of_ble_eq_true rfl) dX7_gate_25 ⟨Nat.le_refl _, Nat.le_refl _⟩ (fun r_14 er_14 => ?_)
      have hw := hw r_14 er_14
      refine j_if_ne (pc := 28) C 34 dX7_gate_28 (by decide) (fun z_15 => ?_) (fun z_15 => ?_)
      · have hw := hw.1 z_15
        refine j_aload_n (pc := 34) C dX7_gate_34 0 rfl rfl ?_
        refine j_iload_n (pc := 35) C dX7_gate_35 1 rfl rfl ?_
        refine j_put (pc := 36) C hiX7_gate tyX7 tyX7_ok nmX7 0 (r_at0 a cI cJ cZ σ) rfl 1 (by decide) lkX7_gate_7 rfl rfl rfl (Nat.le_of_ble_eq_true rfl) dX7_gate_36 (j_ws (r_s0_1 a cI cJ cZ σ x1) ?_)
        refine j_nmS (F := rcells a cI cJ cZ) (fun s_16 es_16 => ?_)
        have hw := hw s_16 es_16
        refine j_aload_n (pc := 39) C dX7_gate_39 0 rfl rfl ?_
        refine j_iload_n (pc := 40) C dX7_gate_40 2 rfl rfl ?_
        refine j_put (pc := 41) C hiX7_gate tyX7 tyX7_ok nmX7 0 (r_at0 a cI cJ cZ s_16) rfl 2 (by decide) lkX7_gate_13 rfl rfl rfl (Nat.le_of_ble_eq_true rfl) dX7_gate_41 (j_ws (r_s0_2 a cI cJ cZ s_16 x2) ?_)
        refine j_nmS (F := rcells a cI cJ cZ) (fun s_17 es_17 => ?_)
        have hw := hw s_17 es_17
        refine j_aload_n (pc := 44) C dX7_gate_44 0 rfl rfl ?_
        refine j_iload_n (pc := 45) C dX7_gate_45 3 rfl rfl ?_
        refine j_put (pc := 46) C hiX7_gate tyX7 tyX7_ok nmX7 0 (r_at0 a cI cJ cZ s_17) rfl 3 (by decide) lkX7_gate_16 rfl rfl rfl (Nat.le_of_ble_eq_true rfl) dX7_gate_46 (j_ws (r_s0_3 a cI cJ cZ s_17 x3) ?_)
        refine j_nmS (F := rcells a cI cJ cZ) (fun s_18 es_18 => ?_)
        have hw := hw s_18 es_18
        refine j_iconst (pc := 49) (v := 1) C dX7_gate_49 (by decide) ?_
        exact j_iret (pc := 50) C hr s_18 rfl hw dX7_gate_50
      · have hw := hw.2 z_15
        refine j_bipush (pc := 31) (v := (-2)) C dX7_gate_31 (by decide) ?_
        exact j_iret (pc := 33) C hr σ rfl hw dX7_gate_33

def rmX7_guests : Room := { frames := 1, cells := 0, slots := 0, locals := 22 }
theorem hiX7_guests : ∀ w ∈ u_ws RX7 TX7 50, w ∈ wsX7_guests := fun w h => List.mem_cons_of_mem _ (List.mem_append_right _ h)
theorem lkX7_guests_140 : Cond.fieldLink yX7_guests.cls 140 (TX7 4).1 (TX7 4).2.1 (TX7 4).2.2.1 ∈ wsX7_guests := by decide +kernel
def wX7_guests (N : Nat) (σ : jRS) (x1 : Int32) (post : Int32 → jRS → Prop) : Prop := ∀ r_5 : Int32, r_5 = jwithin x1 0 200 → ((¬ r_5 = 0) → (∀ x2_7 : Int32, x2_7 = σ.1 0 4 → ∀ s_8 : jRS, s_8 = rP σ 0 4 x1 → post x2_7 s_8)) ∧ ((r_5 = 0) → (post ((-2)) σ))
set_option maxHeartbeats 4000000 in
set_option maxRecDepth 100000 in
theorem mX7_guests {l : Launch} {D : va_G} {cI cJ cZ cO : ClassId} {a : Nat → Nat} {N : Nat} {σ : jRS} {x1 : Int32} {post : Int32 → jRS → Prop} (hw : wX7_guests N σ x1 post) : jMi l D (jT cI cJ cZ cO) jG0 yX7_guests wsX7_guests rmX7_guests [.ref (a 0), .int x1] (rcells a cI cJ cZ σ) post (rcells a cI cJ cZ) 0 0 := by
  refine j_ofi (cc := cX7_guests) (maxL := 3) (ret := (some .int)) (by decide) rfl (Nat.le_of_ble_eq_true rfl) ?_
  intro p e s m args below meth c A C hr hnm hG
  refine j_sub (lv' := [(0, .ref (a 0)), (1, .int x1)]) [0, 1] rfl ?_
  unfold wX7_guests at hw
  refine j_iload_n (pc := 0) C dX7_guests_0 1 rfl rfl ?_
  refine j_iconst (pc := 1) (v := 0) C dX7_guests_1 (by decide) ?_
  refine j_sipush (pc := 2) (v := 200) C dX7_guests_2 (by decide) ?_
  refine j_scalli (pc := 5) C 3 (mX7_within x1 0 200) gX7_guests_X7_within rfl rfl rfl (by decide +kernel) ⟨by decide, by decide⟩ rfl rfl (Nat.le_of_ble_eq_true rfl) dX7_guests_5 ⟨Nat.le_refl _, Nat.le_refl _⟩ (fun r_5 er_5 => ?_)
  have hw := hw r_5 er_5
  refine j_if_ne (pc := 8) C 14 dX7_guests_8 (by decide) (fun z_6 => ?_) (fun z_6 => ?_)
  · have hw := hw.1 z_6
    refine j_aload_n (pc := 14) C dX7_guests_14 0 rfl rfl ?_
    refine j_get (ref := RX7) (pc := 15) C hiX7_guests 0 (r_at0 a cI cJ cZ σ) rfl 4 (by decide) lkX7_guests_140 (r_fl4 a σ) dX7_guests_15 ?_
    refine j_topi (fun x2_7 ex2_7 => ?_)
    have hw := hw x2_7 ex2_7
    refine j_istore_n (pc := 18) (lv' := [(0, .ref (a 0)), (1, .int x1), (2, .int x2_7)]) C [1, 2, 0] dX7_guests_18 rfl (by decide) rfl ?_
    refine j_aload_n (pc := 19) C dX7_guests_19 0 rfl rfl ?_
    refine j_iload_n (pc := 20) C dX7_guests_20 1 rfl rfl ?_
    refine j_put (pc := 21) C hiX7_guests tyX7 tyX7_ok nmX7 0 (r_at0 a cI cJ cZ σ) rfl 4 (by decide) lkX7_guests_140 rfl rfl rfl (Nat.le_of_ble_eq_true rfl) dX7_guests_21 (j_ws (r_s0_4 a cI cJ cZ σ x1) ?_)
    refine j_nmS (F := rcells a cI cJ cZ) (fun s_8 es_8 => ?_)
    have hw := hw s_8 es_8
    refine j_iload_n (pc := 24) C dX7_guests_24 2 rfl rfl ?_
    exact j_iret (pc := 25) C hr s_8 rfl hw dX7_guests_25
  · have hw := hw.2 z_6
    refine j_bipush (pc := 11) (v := (-2)) C dX7_guests_11 (by decide) ?_
    exact j_iret (pc := 13) C hr σ rfl hw dX7_guests_13

def rmX6_greatestDivisor : Room := { frames := 0, cells := 0, slots := 0, locals := 0 }
def wX6_greatestDivisor_7 (N : Nat) : Nat → Unit → Int32 → Int32 → Int32 → (Int32 → Unit → Prop) → Prop
  | 0, _, _, _, _, _ => False
  | n + 1, σ, x2, x3, x4, post => ((64 ≤ x4) → (post x2 σ)) ∧ ((¬ 64 ≤ x4) → (((x3 = 0) → (post x2 σ)) ∧ ((¬ x3 = 0) → ((¬ x3 = 0) ∧ ∀ x5_9 : Int32, x5_9 = x2 - x2 / x3 * x3 → ∀ x4_10 : Int32, x4_10 = x4 + 1 → wX6_greatestDivisor_7 N n σ x3 x5_9 x4_10 post))))
set_option maxHeartbeats 4000000 in
set_option maxRecDepth 100000 in
theorem kX6_greatestDivisor_7 {p : Program} {l : Launch} {e : Env} {s : State} {m : MethodId} {args : Array Value} {below : List Frame} {meth : Method} {c : Code} {D : va_G} {tys : List (ClassId × FieldType)} {A : Nat → Prop} {N : Nat} {post : Int32 → Unit → Prop} (C : jC p s m args meth c cX6_greatestDivisor 6 yX6_greatestDivisor.cls wsX6_greatestDivisor D tys A) (hr : meth.sig.returnType = (some .int)) (hG : jG0 A s) : ∀ (n : Nat) (σ : Unit) (x2 : Int32) (x3 : Int32) (x4 : Int32), wX6_greatestDivisor_7 N n σ x2 x3 x4 post → jJ p l e rmX6_greatestDivisor s m args below meth c 0 0 (MQ below (va_Qi post (jE D tys A (fun _ : Unit => [])) A) args s 0 0 A) D A 6 [] [(2, .int x2), (3, .int x3), (4, .int x4)] 7 [] := by
  intro n
  induction n with
  | zero =>
    intro σ x2 x3 x4 hw
    exact False.elim hw
  | succ n ih =>
    intro σ x2 x3 x4 hw
    unfold wX6_greatestDivisor_7 at hw
    refine j_iload (pc := 7) C dX6_greatestDivisor_7 2 rfl ?_
    refine j_bipush (pc := 9) (v := 64) C dX6_greatestDivisor_9 (by decide) ?_
    refine j_icmp_ge (pc := 11) C 34 dX6_greatestDivisor_11 (by decide) (fun z_6 => ?_) (fun z_6 => ?_)
    · have hw := hw.1 z_6
      refine j_iload_n (pc := 34) C dX6_greatestDivisor_34 0 rfl rfl ?_
      exact j_iret (pc := 35) C hr σ rfl hw dX6_greatestDivisor_35
    · have hw := hw.2 z_6
      refine j_iload_n (pc := 14) C dX6_greatestDivisor_14 1 rfl rfl ?_
      refine j_if_eq (pc := 15) C 34 dX6_greatestDivisor_15 (by decide) (fun z_7 => ?_) (fun z_7 => ?_)
      · have hw := hw.1 z_7
        refine j_iload_n (pc := 34) C dX6_greatestDivisor_34 0 rfl rfl ?_
        exact j_iret (pc := 35) C hr σ rfl hw dX6_greatestDivisor_35
      · have hw := hw.2 z_7
        refine j_iload_n (pc := 18) C dX6_greatestDivisor_18 0 rfl rfl ?_
        refine j_iload_n (pc := 19) C dX6_greatestDivisor_19 1 rfl rfl ?_
        obtain ⟨h_8, hw⟩ := hw
        refine j_irem (pc := 20) C dX6_greatestDivisor_20 h_8 ?_
        refine j_topi (fun x5_9 ex5_9 => ?_)
        have hw := hw x5_9 ex5_9
        refine j_istore (pc := 21) (lv' := [(2, .int x2), (3, .int x3), (4, .int x4), (5, .int x5_9)]) C [1, 2, 3, 0] dX6_greatestDivisor_21 (by decide) rfl ?_
        refine j_iload_n (pc := 23) C dX6_greatestDivisor_23 1 rfl rfl ?_
        refine j_istore_n (pc := 24) (lv' := [(2, .int x3), (3, .int x3), (4, .int x4), (5, .int x5_9)]) C [0, 1, 2, 3] dX6_greatestDivisor_24 rfl (by decide) rfl ?_
        refine j_iload (pc := 25) C dX6_greatestDivisor_25 3 rfl ?_
        refine j_istore_n (pc := 27) (lv' := [(2, .int x3), (3, .int x5_9), (4, .int x4), (5, .int x5_9)]) C [1, 0, 2, 3] dX6_greatestDivisor_27 rfl (by decide) rfl ?_
        obtain ⟨x4_10, ex4_10⟩ : ∃ y : Int32, y = x4 + 1 := ⟨_, rfl⟩
        have hw := hw x4_10 ex4_10
        refine j_iinc (pc := 28) (v := x4_10) (lv' := [(2, .int x3), (3, .int x5_9), (4, .int x4_10), (5, .int x5_9)]) C [1, 2, 0, 3] 2 dX6_greatestDivisor_28 rfl (by rw [ex4_10]; rfl) (by decide) rfl ?_
        refine j_goto (pc := 31) C 7 dX6_greatestDivisor_31 (by decide) ?_
        refine j_sub [0, 1, 2] rfl ?_
        exact ih _ _ _ _ hw
def wX6_greatestDivisor (N : Nat) (σ : Unit) (x0 : Int32) (x1 : Int32) (post : Int32 → Unit → Prop) : Prop := wX6_greatestDivisor_7 N N σ x0 x1 0 post
set_option maxHeartbeats 4000000 in
set_option maxRecDepth 100000 in
theorem mX6_greatestDivisor {l : Launch} {D : va_G} {tys : List (ClassId × FieldType)} {N : Nat} {σ : Unit} {x0 x1 : Int32} {post : Int32 → Unit → Prop} (hw : wX6_greatestDivisor N σ x0 x1 post) : jMi l D tys jG0 yX6_greatestDivisor wsX6_greatestDivisor rmX6_greatestDivisor [.int x0, .int x1] [] post (fun _ : Unit => []) 0 0 := by
  refine j_ofi (cc := cX6_greatestDivisor) (maxL := 6) (ret := (some .int)) (by decide) rfl (Nat.le_of_ble_eq_true rfl) ?_
  intro p e s m args below meth c A C hr hnm hG
  refine j_sub (lv' := [(0, .int x0), (1, .int x1)]) [0, 1] rfl ?_
  unfold wX6_greatestDivisor at hw
  refine j_iload_n (pc := 0) C dX6_greatestDivisor_0 0 rfl rfl ?_
  refine j_istore_n (pc := 1) (lv' := [(0, .int x0), (1, .int x1), (2, .int x0)]) C [1, 2, 0] dX6_greatestDivisor_1 rfl (by decide) rfl ?_
  refine j_iload_n (pc := 2) C dX6_greatestDivisor_2 1 rfl rfl ?_
  refine j_istore_n (pc := 3) (lv' := [(0, .int x0), (1, .int x1), (2, .int x0), (3, .int x1)]) C [1, 2, 3, 0] dX6_greatestDivisor_3 rfl (by decide) rfl ?_
  refine j_iconst (pc := 4) (v := 0) C dX6_greatestDivisor_4 (by decide) ?_
  refine j_istore (pc := 5) (lv' := [(0, .int x0), (1, .int x1), (2, .int x0), (3, .int x1), (4, .int 0)]) C [1, 2, 3, 4, 0] dX6_greatestDivisor_5 (by decide) rfl ?_
  refine j_sub [2, 3, 4] rfl ?_
  exact kX6_greatestDivisor_7 C hr hG N _ _ _ _ hw

def rmX6_busy : Room := { frames := 1, cells := 0, slots := 0, locals := 25 }
theorem hiX6_busy_X6 : ∀ w ∈ u_ws RX6 TX6 6, w ∈ wsX6_busy := by decide +kernel
theorem lkX6_busy_82 : Cond.fieldLink yX6_busy.cls 82 (TX6 5).1 (TX6 5).2.1 (TX6 5).2.2.1 ∈ wsX6_busy := by decide +kernel
theorem lkX6_busy_85 : Cond.fieldLink yX6_busy.cls 85 (TX6 3).1 (TX6 3).2.1 (TX6 3).2.2.1 ∈ wsX6_busy := by decide +kernel
def wX6_busy_47 (N : Nat) (x : jXS) (a0 a1 : jSS) (b : jGS) (x2 : Int32) (y0 : Int32) (post : Int64 → jXS → jSS → jSS → jGS → Prop) : Prop := (¬ x2 = 0) ∧ post ((y0 / x2).toInt64) x a0 a1 b
set_option maxHeartbeats 4000000 in
set_option maxRecDepth 100000 in
theorem kX6_busy_47 {p : Program} {l : Launch} {e : Env} {s : State} {m : MethodId} {args : Array Value} {below : List Frame} {meth : Method} {c : Code} {D : va_G} {cI cJ cZ cO : ClassId} {f0 f1 h : Nat → Nat} {ax : Nat} {A : Nat → Prop} {N : Nat} {post : Int64 → jXS → jSS → jSS → jGS → Prop} (C : jC p s m args meth c cX6_busy 3 yX6_busy.cls wsX6_busy D (jT cI cJ cZ cO) A) (hr : meth.sig.returnType = (some .long)) (hG : gz A s) (x : jXS) (a0 a1 : jSS) (b : jGS) (x2 : Int32) (y0 : Int32) (hw : wX6_busy_47 N x a0 a1 b x2 y0 post) : jJ p l e rmX6_busy s m args below meth c 0 0 (MQ below (va_Ql (fun r (u : jMS) => post r u.1 u.2.1 u.2.2.1 u.2.2.2) (jE D (jT cI cJ cZ cO) A (mF f0 f1 h ax cI cO)) A) args s 0 0 A) D A 3 (acells f0 cI cO (bY h cO (scells f1 cI cO a1 ++ xcell h f0 f1 ax x) b) a0) [(2, .int x2)] 47 [.int y0] := by
  unfold wX6_busy_47 at hw
  refine j_iload_n (pc := 47) C dX6_busy_47 0 rfl rfl ?_
  obtain ⟨h_7, hw⟩ := hw
  refine j_idiv (pc := 48) C dX6_busy_48 h_7 ?_
  refine j_i2l (pc := 49) C dX6_busy_49 ?_
  exact j_lret (pc := 50) C hr (x, a0, a1, b) rfl hw dX6_busy_50
def wX6_busy (N : Nat) (x : jXS) (a0 a1 : jSS) (b : jGS) (x1 : Int32) (post : Int64 → jXS → jSS → jSS → jGS → Prop) : Prop := ∀ r_8 : Int32, r_8 = jwithin x1 0 1 → ((¬ r_8 = 0) → (wX6_greatestDivisor N () (x 5) (x 3) (fun r_10 _ => ((¬ r_10 = 0) → (((¬ x1 = 0) → (wX6_busy_47 N x a0 a1 b r_10 (x 3) post)) ∧ ((x1 = 0) → (wX6_busy_47 N x a0 a1 b r_10 (x 5) post)))) ∧ ((r_10 = 0) → (post x1.toInt64 x a0 a1 b))))) ∧ ((r_8 = 0) → (post ((-9223372036854775808)) x a0 a1 b))
set_option maxHeartbeats 4000000 in
set_option maxRecDepth 100000 in
theorem mX6_busy {l : Launch} {D : va_G} {cI cJ cZ cO : ClassId} {f0 f1 h : Nat → Nat} {ax : Nat} {N : Nat} {x : jXS} {a0 a1 : jSS} {b : jGS} {x1 : Int32} {post : Int64 → jXS → jSS → jSS → jGS → Prop} (hw : wX6_busy N x a0 a1 b x1 post) : jMl l D (jT cI cJ cZ cO) gz yX6_busy wsX6_busy rmX6_busy [.ref ax, .int x1] (acells f0 cI cO (bY h cO (scells f1 cI cO a1 ++ xcell h f0 f1 ax x) b) a0) (fun r (u : jMS) => post r u.1 u.2.1 u.2.2.1 u.2.2.2) (mF f0 f1 h ax cI cO) 0 0 := by
  refine j_ofl (cc := cX6_busy) (maxL := 3) (ret := (some .long)) (by decide) rfl (Nat.le_of_ble_eq_true rfl) ?_
  intro p e s m args below meth c A C hr hnm hG
  refine j_sub (lv' := [(0, .ref ax), (1, .int x1)]) [0, 1] rfl ?_
  unfold wX6_busy at hw
  refine j_iload_n (pc := 0) C dX6_busy_0 1 rfl rfl ?_
  refine j_iconst (pc := 1) (v := 0) C dX6_busy_1 (by decide) ?_
  refine j_iconst (pc := 2) (v := 1) C dX6_busy_2 (by decide) ?_
  refine j_scalli (pc := 3) C 3 (mX6_within x1 0 1) gX6_busy_X6_within rfl rfl rfl (by decide +kernel) ⟨Nat.le_of_ble_eq_true rfl, Nat.le_of_ble_eq_true rfl⟩ rfl rfl (Nat.le_of_ble_eq_true rfl) dX6_busy_3 ⟨Nat.le_refl _, Nat.le_refl _⟩ (fun r_8 er_8 => ?_)
  have hw := hw r_8 er_8
  refine j_if_ne (pc := 6) C 13 dX6_busy_6 (by decide) (fun z_9 => ?_) (fun z_9 => ?_)
  · have hw := hw.1 z_9
    refine j_aload_n (pc := 13) C dX6_busy_13 0 rfl rfl ?_
    refine j_get (ref := RX6) (pc := 14) C hiX6_busy_X6 22 (e_at f0 f1 h f0 f1 ax cI cO a0 a1 x b) rfl 5 (by decide) lkX6_busy_82 (e_fl5 h f0 f1 x) dX6_busy_14 ?_
    refine j_aload_n (pc := 17) C dX6_busy_17 0 rfl rfl ?_
    refine j_get (ref := RX6) (pc := 18) C hiX6_busy_X6 22 (e_at f0 f1 h f0 f1 ax cI cO a0 a1 x b) rfl 3 (by decide) lkX6_busy_85 (e_fl3 h f0 f1 x) dX6_busy_18 ?_
    refine j_scalli (pc := 21) C 2 (mX6_greatestDivisor hw) gX6_busy_X6_greatestDivisor rfl rfl rfl (by decide +kernel) ⟨Nat.le_of_ble_eq_true rfl, Nat.le_of_ble_eq_true rfl⟩ rfl rfl (Nat.le_of_ble_eq_true rfl) dX6_busy_21 ⟨Nat.le_refl _, Nat.le_refl _⟩ (fun r_10 hw => ?_)
    refine j_istore_n (pc := 24) (lv' := [(0, .ref ax), (1, .int x1), (2, .int r_10)]) C [1, 2, 0] dX6_busy_24 rfl (by decide) rfl ?_
    refine j_iload_n (pc := 25) C dX6_busy_25 2 rfl rfl ?_
    refine j_if_ne (pc := 26) C 32 dX6_busy_26 (by decide) (fun z_11 => ?_) (fun z_11 => ?_)
    · have hw := hw.1 z_11
      refine j_iload_n (pc := 32) C dX6_busy_32 1 rfl rfl ?_
      refine j_if_ne (pc := 33) C 43 dX6_busy_33 (by decide) (fun z_12 => ?_) (fun z_12 => ?_)
      · have hw := hw.1 z_12
        refine j_aload_n (pc := 43) C dX6_busy_43 0 rfl rfl ?_
        refine j_get (ref := RX6) (pc := 44) C hiX6_busy_X6 22 (e_at f0 f1 h f0 f1 ax cI cO a0 a1 x b) rfl 3 (by decide) lkX6_busy_85 (e_fl3 h f0 f1 x) dX6_busy_44 ?_
        refine j_sub [2] rfl ?_
        exact kX6_busy_47 C hr hG _ _ _ _ _ _ hw
      · have hw := hw.2 z_12
        refine j_aload_n (pc := 36) C dX6_busy_36 0 rfl rfl ?_
        refine j_get (ref := RX6) (pc := 37) C hiX6_busy_X6 22 (e_at f0 f1 h f0 f1 ax cI cO a0 a1 x b) rfl 5 (by decide) lkX6_busy_82 (e_fl5 h f0 f1 x) dX6_busy_37 ?_
        refine j_goto (pc := 40) C 47 dX6_busy_40 (by decide) ?_
        refine j_sub [2] rfl ?_
        exact kX6_busy_47 C hr hG _ _ _ _ _ _ hw
    · have hw := hw.2 z_11
      refine j_iload_n (pc := 29) C dX6_busy_29 1 rfl rfl ?_
      refine j_i2l (pc := 30) C dX6_busy_30 ?_
      exact j_lret (pc := 31) C hr (x, a0, a1, b) rfl hw dX6_busy_31
  · have hw := hw.2 z_9
    refine j_ldc2 (pc := 9) (v := (-9223372036854775808)) C dX6_busy_9 (by decide +kernel) ?_
    exact j_lret (pc := 12) C hr (x, a0, a1, b) rfl hw dX6_busy_12

def rmX6_gate : Room := { frames := 1, cells := 0, slots := 0, locals := 22 }
theorem hiX6_gate_X6 : ∀ w ∈ u_ws RX6 TX6 6, w ∈ wsX6_gate := by decide +kernel
theorem hiX6_gate_X1 : ∀ w ∈ u_ws RX1 TX1 12, w ∈ wsX6_gate := by decide +kernel
theorem lkX6_gate_14 : Cond.fieldLink yX6_gate.cls 14 (TX6 0).1 (TX6 0).2.1 (TX6 0).2.2.1 ∈ wsX6_gate := by decide +kernel
theorem lkX6_gate_32 : Cond.fieldLink yX6_gate.cls 32 (TX1 0).1 (TX1 0).2.1 (TX1 0).2.2.1 ∈ wsX6_gate := by decide +kernel
theorem lkX6_gate_36 : Cond.fieldLink yX6_gate.cls 36 (TX1 1).1 (TX1 1).2.1 (TX1 1).2.2.1 ∈ wsX6_gate := by decide +kernel
theorem lkX6_gate_39 : Cond.fieldLink yX6_gate.cls 39 (TX1 2).1 (TX1 2).2.1 (TX1 2).2.2.1 ∈ wsX6_gate := by decide +kernel
def wX6_gate (N : Nat) (x : jXS) (a0 a1 : jSS) (b : jGS) (x1 : Int32) (x2 : Int32) (x3 : Int32) (post : Int32 → jXS → jSS → jSS → jGS → Prop) : Prop := ∀ r_10 : Int32, r_10 = jwithin x1 1 40 → ((r_10 = 0) → (post ((-2)) x a0 a1 b)) ∧ ((¬ r_10 = 0) → (∀ r_12 : Int32, r_12 = jwithin x2 1 60 → ((r_12 = 0) → (post ((-2)) x a0 a1 b)) ∧ ((¬ r_12 = 0) → (∀ r_14 : Int32, r_14 = jwithin x3 1 200 → ((¬ r_14 = 0) → (∀ b_16 : jGS, b_16 = gP b 0 x1 → ∀ b_17 : jGS, b_17 = gP b_16 1 x2 → ∀ b_18 : jGS, b_18 = gP b_17 2 x3 → post 1 x a0 a1 b_18)) ∧ ((r_14 = 0) → (post ((-2)) x a0 a1 b))))))
set_option maxHeartbeats 4000000 in
set_option maxRecDepth 100000 in
theorem mX6_gate {l : Launch} {D : va_G} {cI cJ cZ cO : ClassId} {f0 f1 h : Nat → Nat} {ax : Nat} {N : Nat} {x : jXS} {a0 a1 : jSS} {b : jGS} {x1 : Int32} {x2 : Int32} {x3 : Int32} {post : Int32 → jXS → jSS → jSS → jGS → Prop} (hw : wX6_gate N x a0 a1 b x1 x2 x3 post) : jMi l D (jT cI cJ cZ cO) gz yX6_gate wsX6_gate rmX6_gate [.ref ax, .int x1, .int x2, .int x3] (acells f0 cI cO (bY h cO (scells f1 cI cO a1 ++ xcell h f0 f1 ax x) b) a0) (fun r (u : jMS) => post r u.1 u.2.1 u.2.2.1 u.2.2.2) (mF f0 f1 h ax cI cO) 0 0 := by
  refine j_ofi (cc := cX6_gate) (maxL := 4) (ret := (some .int)) (by decide) rfl (Nat.le_of_ble_eq_true rfl) ?_
  intro p e s m args below meth c A C hr hnm hG
  refine j_sub (lv' := [(0, .ref ax), (1, .int x1), (2, .int x2), (3, .int x3)]) [0, 1, 2, 3] rfl ?_
  unfold wX6_gate at hw
  refine j_iload_n (pc := 0) C dX6_gate_0 1 rfl rfl ?_
  refine j_iconst (pc := 1) (v := 1) C dX6_gate_1 (by decide) ?_
  refine j_bipush (pc := 2) (v := 40) C dX6_gate_2 (by decide) ?_
  refine j_scalli (pc := 4) C 3 (mX6_within x1 1 40) gX6_gate_X6_within rfl rfl rfl (by decide +kernel) ⟨Nat.le_of_ble_eq_true rfl, Nat.le_of_ble_eq_true rfl⟩ rfl rfl (Nat.le_of_ble_eq_true rfl) dX6_gate_4 ⟨Nat.le_refl _, Nat.le_refl _⟩ (fun r_10 er_10 => ?_)
  have hw := hw r_10 er_10
  refine j_if_eq (pc := 7) C 31 dX6_gate_7 (by decide) (fun z_11 => ?_) (fun z_11 => ?_)
  · have hw := hw.1 z_11
    refine j_bipush (pc := 31) (v := (-2)) C dX6_gate_31 (by decide) ?_
    exact j_iret (pc := 33) C hr (x, a0, a1, b) rfl hw dX6_gate_33
  · have hw := hw.2 z_11
    refine j_iload_n (pc := 10) C dX6_gate_10 2 rfl rfl ?_
    refine j_iconst (pc := 11) (v := 1) C dX6_gate_11 (by decide) ?_
    refine j_bipush (pc := 12) (v := 60) C dX6_gate_12 (by decide) ?_
    refine j_scalli (pc := 14) C 3 (mX6_within x2 1 60) gX6_gate_X6_within rfl rfl rfl (by decide +kernel) ⟨Nat.le_of_ble_eq_true rfl, Nat.le_of_ble_eq_true rfl⟩ rfl rfl (Nat.le_of_ble_eq_true rfl) dX6_gate_14 ⟨Nat.le_refl _, Nat.le_refl _⟩ (fun r_12 er_12 => ?_)
    have hw := hw r_12 er_12
    refine j_if_eq (pc := 17) C 31 dX6_gate_17 (by decide) (fun z_13 => ?_) (fun z_13 => ?_)
    · have hw := hw.1 z_13
      refine j_bipush (pc := 31) (v := (-2)) C dX6_gate_31 (by decide) ?_
      exact j_iret (pc := 33) C hr (x, a0, a1, b) rfl hw dX6_gate_33
    · have hw := hw.2 z_13
      refine j_iload_n (pc := 20) C dX6_gate_20 3 rfl rfl ?_
      refine j_iconst (pc := 21) (v := 1) C dX6_gate_21 (by decide) ?_
      refine j_sipush (pc := 22) (v := 200) C dX6_gate_22 (by decide) ?_
      refine j_scalli (pc := 25) C 3 (mX6_within x3 1 200) gX6_gate_X6_within rfl rfl rfl (by decide +kernel) ⟨Nat.le_of_ble_eq_true rfl, Nat.le_of_ble_eq_true rfl⟩ rfl rfl (Nat.le_of_ble_eq_true rfl) dX6_gate_25 ⟨Nat.le_refl _, Nat.le_refl _⟩ (fun r_14 er_14 => ?_)
      have hw := hw r_14 er_14
      refine j_if_ne (pc := 28) C 34 dX6_gate_28 (by decide) (fun z_15 => ?_) (fun z_15 => ?_)
      · have hw := hw.1 z_15
        refine j_aload_n (pc := 34) C dX6_gate_34 0 rfl rfl ?_
        refine j_get (ref := RX6) (pc := 35) C hiX6_gate_X6 22 (e_at f0 f1 h f0 f1 ax cI cO a0 a1 x b) rfl 0 (by decide) lkX6_gate_14 (e_fl0 h f0 f1 x) dX6_gate_35 ?_
        refine j_iload_n (pc := 38) C dX6_gate_38 1 rfl rfl ?_
        refine j_put (pc := 39) C hiX6_gate_X1 tyX1 tyX1_ok nmX1 10 (c_at10 f0 h cI cO (scells f1 cI cO a1 ++ xcell h f0 f1 ax x) a0 b) rfl 0 (by decide) lkX6_gate_32 rfl rfl rfl (Nat.le_of_ble_eq_true rfl) dX6_gate_39 (j_ws (c_s10_0 f0 h cI cO (scells f1 cI cO a1 ++ xcell h f0 f1 ax x) a0 b x1) ?_)
        refine j_nmB (fun b_16 eb_16 => ?_)
        have hw := hw b_16 eb_16
        refine j_aload_n (pc := 42) C dX6_gate_42 0 rfl rfl ?_
        refine j_get (ref := RX6) (pc := 43) C hiX6_gate_X6 22 (e_at f0 f1 h f0 f1 ax cI cO a0 a1 x b_16) rfl 0 (by decide) lkX6_gate_14 (e_fl0 h f0 f1 x) dX6_gate_43 ?_
        refine j_iload_n (pc := 46) C dX6_gate_46 2 rfl rfl ?_
        refine j_put (pc := 47) C hiX6_gate_X1 tyX1 tyX1_ok nmX1 10 (c_at10 f0 h cI cO (scells f1 cI cO a1 ++ xcell h f0 f1 ax x) a0 b_16) rfl 1 (by decide) lkX6_gate_36 rfl rfl rfl (Nat.le_of_ble_eq_true rfl) dX6_gate_47 (j_ws (c_s10_1 f0 h cI cO (scells f1 cI cO a1 ++ xcell h f0 f1 ax x) a0 b_16 x2) ?_)
        refine j_nmB (fun b_17 eb_17 => ?_)
        have hw := hw b_17 eb_17
        refine j_aload_n (pc := 50) C dX6_gate_50 0 rfl rfl ?_
        refine j_get (ref := RX6) (pc := 51) C hiX6_gate_X6 22 (e_at f0 f1 h f0 f1 ax cI cO a0 a1 x b_17) rfl 0 (by decide) lkX6_gate_14 (e_fl0 h f0 f1 x) dX6_gate_51 ?_
        refine j_iload_n (pc := 54) C dX6_gate_54 3 rfl rfl ?_
        refine j_put (pc := 55) C hiX6_gate_X1 tyX1 tyX1_ok nmX1 10 (c_at10 f0 h cI cO (scells f1 cI cO a1 ++ xcell h f0 f1 ax x) a0 b_17) rfl 2 (by decide) lkX6_gate_39 rfl rfl rfl (Nat.le_of_ble_eq_true rfl) dX6_gate_55 (j_ws (c_s10_2 f0 h cI cO (scells f1 cI cO a1 ++ xcell h f0 f1 ax x) a0 b_17 x3) ?_)
        refine j_nmB (fun b_18 eb_18 => ?_)
        have hw := hw b_18 eb_18
        refine j_iconst (pc := 58) (v := 1) C dX6_gate_58 (by decide) ?_
        exact j_iret (pc := 59) C hr (x, a0, a1, b_18) rfl hw dX6_gate_59
      · have hw := hw.2 z_15
        refine j_bipush (pc := 31) (v := (-2)) C dX6_gate_31 (by decide) ?_
        exact j_iret (pc := 33) C hr (x, a0, a1, b) rfl hw dX6_gate_33

def rmX6_guests : Room := { frames := 1, cells := 0, slots := 0, locals := 22 }
theorem hiX6_guests_X6 : ∀ w ∈ u_ws RX6 TX6 6, w ∈ wsX6_guests := by decide +kernel
theorem lkX6_guests_42 : Cond.fieldLink yX6_guests.cls 42 (TX6 4).1 (TX6 4).2.1 (TX6 4).2.2.1 ∈ wsX6_guests := by decide +kernel
def wX6_guests (N : Nat) (x : jXS) (a0 a1 : jSS) (b : jGS) (x1 : Int32) (post : Int32 → jXS → jSS → jSS → jGS → Prop) : Prop := ∀ r_5 : Int32, r_5 = jwithin x1 0 200 → ((¬ r_5 = 0) → (∀ x2_7 : Int32, x2_7 = x 4 → ∀ x_8 : jXS, x_8 = upd x 4 x1 → post x2_7 x_8 a0 a1 b)) ∧ ((r_5 = 0) → (post ((-2)) x a0 a1 b))
set_option maxHeartbeats 4000000 in
set_option maxRecDepth 100000 in
theorem mX6_guests {l : Launch} {D : va_G} {cI cJ cZ cO : ClassId} {f0 f1 h : Nat → Nat} {ax : Nat} {N : Nat} {x : jXS} {a0 a1 : jSS} {b : jGS} {x1 : Int32} {post : Int32 → jXS → jSS → jSS → jGS → Prop} (hw : wX6_guests N x a0 a1 b x1 post) : jMi l D (jT cI cJ cZ cO) gz yX6_guests wsX6_guests rmX6_guests [.ref ax, .int x1] (acells f0 cI cO (bY h cO (scells f1 cI cO a1 ++ xcell h f0 f1 ax x) b) a0) (fun r (u : jMS) => post r u.1 u.2.1 u.2.2.1 u.2.2.2) (mF f0 f1 h ax cI cO) 0 0 := by
  refine j_ofi (cc := cX6_guests) (maxL := 3) (ret := (some .int)) (by decide) rfl (Nat.le_of_ble_eq_true rfl) ?_
  intro p e s m args below meth c A C hr hnm hG
  refine j_sub (lv' := [(0, .ref ax), (1, .int x1)]) [0, 1] rfl ?_
  unfold wX6_guests at hw
  refine j_iload_n (pc := 0) C dX6_guests_0 1 rfl rfl ?_
  refine j_iconst (pc := 1) (v := 0) C dX6_guests_1 (by decide) ?_
  refine j_sipush (pc := 2) (v := 200) C dX6_guests_2 (by decide) ?_
  refine j_scalli (pc := 5) C 3 (mX6_within x1 0 200) gX6_guests_X6_within rfl rfl rfl (by decide +kernel) ⟨Nat.le_of_ble_eq_true rfl, Nat.le_of_ble_eq_true rfl⟩ rfl rfl (Nat.le_of_ble_eq_true rfl) dX6_guests_5 ⟨Nat.le_refl _, Nat.le_refl _⟩ (fun r_5 er_5 => ?_)
  have hw := hw r_5 er_5
  refine j_if_ne (pc := 8) C 14 dX6_guests_8 (by decide) (fun z_6 => ?_) (fun z_6 => ?_)
  · have hw := hw.1 z_6
    refine j_aload_n (pc := 14) C dX6_guests_14 0 rfl rfl ?_
    refine j_get (ref := RX6) (pc := 15) C hiX6_guests_X6 22 (e_at f0 f1 h f0 f1 ax cI cO a0 a1 x b) rfl 4 (by decide) lkX6_guests_42 (e_fl4 h f0 f1 x) dX6_guests_15 ?_
    refine j_topi (fun x2_7 ex2_7 => ?_)
    have hw := hw x2_7 ex2_7
    refine j_istore_n (pc := 18) (lv' := [(0, .ref ax), (1, .int x1), (2, .int x2_7)]) C [1, 2, 0] dX6_guests_18 rfl (by decide) rfl ?_
    refine j_aload_n (pc := 19) C dX6_guests_19 0 rfl rfl ?_
    refine j_iload_n (pc := 20) C dX6_guests_20 1 rfl rfl ?_
    refine j_put (pc := 21) C hiX6_guests_X6 tyX6 tyX6_ok nmX6 22 (e_at f0 f1 h f0 f1 ax cI cO a0 a1 x b) rfl 4 (by decide) lkX6_guests_42 rfl rfl rfl (Nat.le_of_ble_eq_true rfl) dX6_guests_21 (j_ws (e_s4 f0 f1 h f0 f1 ax cI cO a0 a1 x b x1) ?_)
    refine j_nmX (fun x_8 ex_8 => ?_)
    have hw := hw x_8 ex_8
    refine j_iload_n (pc := 24) C dX6_guests_24 2 rfl rfl ?_
    exact j_iret (pc := 25) C hr (x_8, a0, a1, b) rfl hw dX6_guests_25
  · have hw := hw.2 z_6
    refine j_bipush (pc := 11) (v := (-2)) C dX6_guests_11 (by decide) ?_
    exact j_iret (pc := 13) C hr (x, a0, a1, b) rfl hw dX6_guests_13

def rmX6_stock : Room := { frames := 1, cells := 0, slots := 0, locals := 22 }
theorem hiX6_stock_X5 : ∀ w ∈ u_ws RX5 TX5 16, w ∈ wsX6_stock := by decide +kernel
theorem lkX6_stock_49 : Cond.fieldLink yX6_stock.cls 49 (TX5 3).1 (TX5 3).2.1 (TX5 3).2.2.1 ∈ wsX6_stock := by decide +kernel
def wX6_stock (N : Nat) (x : jXS) (a0 a1 : jSS) (b : jGS) (x1 : Int32) (x2 : Int32) (post : Int32 → jXS → jSS → jSS → jGS → Prop) : Prop := ((x1 = 0) → (∀ r_15 : Int32, r_15 = jwithin x2 1 5000 → ((¬ r_15 = 0) → (((((a0.1 0 3) + x2) ≤ 100000) → (∀ v_18 : Int32, v_18 = (a0.1 0 3) + x2 → ∀ a_19 : jSS, a_19 = aP a0 0 3 v_18 → post (a_19.1 0 3) x a_19 a1 b)) ∧ ((¬ ((a0.1 0 3) + x2) ≤ 100000) → (post ((-4)) x a0 a1 b)))) ∧ ((r_15 = 0) → (post ((-2)) x a0 a1 b)))) ∧ ((¬ x1 = 0) → (((x1 = 1) → (∀ r_20 : Int32, r_20 = jwithin x2 1 5000 → ((¬ r_20 = 0) → (((((a1.1 0 3) + x2) ≤ 100000) → (∀ v_23 : Int32, v_23 = (a1.1 0 3) + x2 → ∀ a_24 : jSS, a_24 = aP a1 0 3 v_23 → post (a_24.1 0 3) x a0 a_24 b)) ∧ ((¬ ((a1.1 0 3) + x2) ≤ 100000) → (post ((-4)) x a0 a1 b)))) ∧ ((r_20 = 0) → (post ((-2)) x a0 a1 b)))) ∧ ((¬ x1 = 1) → (post ((-1)) x a0 a1 b))))
set_option maxHeartbeats 4000000 in
set_option maxRecDepth 100000 in
theorem mX6_stock {l : Launch} {D : va_G} {cI cJ cZ cO : ClassId} {f0 f1 h : Nat → Nat} {ax : Nat} {N : Nat} {x : jXS} {a0 a1 : jSS} {b : jGS} {x1 : Int32} {x2 : Int32} {post : Int32 → jXS → jSS → jSS → jGS → Prop} (hw : wX6_stock N x a0 a1 b x1 x2 post) : jMi l D (jT cI cJ cZ cO) gz yX6_stock wsX6_stock rmX6_stock [.ref ax, .int x1, .int x2] (acells f0 cI cO (bY h cO (scells f1 cI cO a1 ++ xcell h f0 f1 ax x) b) a0) (fun r (u : jMS) => post r u.1 u.2.1 u.2.2.1 u.2.2.2) (mF f0 f1 h ax cI cO) 0 0 := by
  refine j_ofi (cc := cX6_stock) (maxL := 4) (ret := (some .int)) (by decide) rfl (Nat.le_of_ble_eq_true rfl) ?_
  intro p e s m args below meth c A C hr hnm hG
  refine j_sub (lv' := [(0, .ref ax), (1, .int x1), (2, .int x2)]) [0, 1, 2] rfl ?_
  unfold wX6_stock at hw
  refine j_aload_n (pc := 0) C dX6_stock_0 0 rfl rfl ?_
  refine j_iload_n (pc := 1) C dX6_stock_1 1 rfl rfl ?_
  refine j_senderOf (pc := 2) C gz_ok hG (s0 := x1) mX6_senderOf gX6_stock_X6_senderOf (by decide +kernel) ⟨Nat.le_of_ble_eq_true rfl, Nat.le_of_ble_eq_true rfl⟩ 22 (e_at f0 f1 h f0 f1 ax cI cO a0 a1 x b) rfl (Nat.le_of_ble_eq_true rfl) dX6_stock_2 ⟨Nat.le_refl _, Nat.le_refl _⟩ (fun z_13 => ?_) (fun z_13 z_14 => ?_) (fun z_13 z_14 => ?_)
  · have hw := hw.1 z_13
    refine j_astore_n (pc := 5) (lv' := [(0, .ref ax), (1, .int x1), (2, .int x2), (3, .ref (f0 0))]) C [1, 2, 3, 0] dX6_stock_5 rfl (by decide) rfl ?_
    refine j_aload_n (pc := 6) C dX6_stock_6 3 rfl rfl ?_
    refine j_ifnonnull (pc := 7) C 12 dX6_stock_7 (by decide) ?_
    refine j_iload_n (pc := 12) C dX6_stock_12 2 rfl rfl ?_
    refine j_iconst (pc := 13) (v := 1) C dX6_stock_13 (by decide) ?_
    refine j_sipush (pc := 14) (v := 5000) C dX6_stock_14 (by decide) ?_
    refine j_scalli (pc := 17) C 3 (mX6_within x2 1 5000) gX6_stock_X6_within rfl rfl rfl (by decide +kernel) ⟨Nat.le_of_ble_eq_true rfl, Nat.le_of_ble_eq_true rfl⟩ rfl rfl (Nat.le_of_ble_eq_true rfl) dX6_stock_17 ⟨Nat.le_refl _, Nat.le_refl _⟩ (fun r_15 er_15 => ?_)
    have hw := hw r_15 er_15
    refine j_if_ne (pc := 20) C 26 dX6_stock_20 (by decide) (fun z_16 => ?_) (fun z_16 => ?_)
    · have hw := hw.1 z_16
      refine j_aload_n (pc := 26) C dX6_stock_26 3 rfl rfl ?_
      refine j_get (ref := RX5) (pc := 27) C hiX6_stock_X5 0 (c_at0 f0 cI cO (bY h cO (scells f1 cI cO a1 ++ xcell h f0 f1 ax x) b) a0) rfl 3 (by decide) lkX6_stock_49 (c_fl0_3 f0 a0) dX6_stock_27 ?_
      refine j_iload_n (pc := 30) C dX6_stock_30 2 rfl rfl ?_
      refine j_iadd (pc := 31) C dX6_stock_31 ?_
      refine j_ldc (pc := 32) (v := 100000) C dX6_stock_32 (by decide +kernel) ?_
      refine j_icmp_le (pc := 34) C 40 dX6_stock_34 (by decide) (fun z_17 => ?_) (fun z_17 => ?_)
      · have hw := hw.1 z_17
        refine j_aload_n (pc := 40) C dX6_stock_40 3 rfl rfl ?_
        refine j_dup (pc := 41) C dX6_stock_41 rfl ?_
        refine j_get (ref := RX5) (pc := 42) C hiX6_stock_X5 0 (c_at0 f0 cI cO (bY h cO (scells f1 cI cO a1 ++ xcell h f0 f1 ax x) b) a0) rfl 3 (by decide) lkX6_stock_49 (c_fl0_3 f0 a0) dX6_stock_42 ?_
        refine j_iload_n (pc := 45) C dX6_stock_45 2 rfl rfl ?_
        refine j_iadd (pc := 46) C dX6_stock_46 ?_
        refine j_topi (fun v_18 ev_18 => ?_)
        have hw := hw v_18 ev_18
        refine j_put (pc := 47) C hiX6_stock_X5 tyX5 tyX5_ok nmX5 0 (c_at0 f0 cI cO (bY h cO (scells f1 cI cO a1 ++ xcell h f0 f1 ax x) b) a0) rfl 3 (by decide) lkX6_stock_49 rfl rfl rfl (Nat.le_of_ble_eq_true rfl) dX6_stock_47 (j_ws (c_s0_3 f0 cI cO (bY h cO (scells f1 cI cO a1 ++ xcell h f0 f1 ax x) b) a0 v_18) ?_)
        refine j_nmA (fun a_19 ea_19 => ?_)
        have hw := hw a_19 ea_19
        refine j_aload_n (pc := 50) C dX6_stock_50 3 rfl rfl ?_
        refine j_get (ref := RX5) (pc := 51) C hiX6_stock_X5 0 (c_at0 f0 cI cO (bY h cO (scells f1 cI cO a1 ++ xcell h f0 f1 ax x) b) a_19) rfl 3 (by decide) lkX6_stock_49 (c_fl0_3 f0 a_19) dX6_stock_51 ?_
        exact j_iret (pc := 54) C hr (x, a_19, a1, b) rfl hw dX6_stock_54
      · have hw := hw.2 z_17
        refine j_bipush (pc := 37) (v := (-4)) C dX6_stock_37 (by decide) ?_
        exact j_iret (pc := 39) C hr (x, a0, a1, b) rfl hw dX6_stock_39
    · have hw := hw.2 z_16
      refine j_bipush (pc := 23) (v := (-2)) C dX6_stock_23 (by decide) ?_
      exact j_iret (pc := 25) C hr (x, a0, a1, b) rfl hw dX6_stock_25
  · have hw := (hw.2 z_13).1 z_14
    refine j_astore_n (pc := 5) (lv' := [(0, .ref ax), (1, .int x1), (2, .int x2), (3, .ref (f1 0))]) C [1, 2, 3, 0] dX6_stock_5 rfl (by decide) rfl ?_
    refine j_aload_n (pc := 6) C dX6_stock_6 3 rfl rfl ?_
    refine j_ifnonnull (pc := 7) C 12 dX6_stock_7 (by decide) ?_
    refine j_iload_n (pc := 12) C dX6_stock_12 2 rfl rfl ?_
    refine j_iconst (pc := 13) (v := 1) C dX6_stock_13 (by decide) ?_
    refine j_sipush (pc := 14) (v := 5000) C dX6_stock_14 (by decide) ?_
    refine j_scalli (pc := 17) C 3 (mX6_within x2 1 5000) gX6_stock_X6_within rfl rfl rfl (by decide +kernel) ⟨Nat.le_of_ble_eq_true rfl, Nat.le_of_ble_eq_true rfl⟩ rfl rfl (Nat.le_of_ble_eq_true rfl) dX6_stock_17 ⟨Nat.le_refl _, Nat.le_refl _⟩ (fun r_20 er_20 => ?_)
    have hw := hw r_20 er_20
    refine j_if_ne (pc := 20) C 26 dX6_stock_20 (by decide) (fun z_21 => ?_) (fun z_21 => ?_)
    · have hw := hw.1 z_21
      refine j_aload_n (pc := 26) C dX6_stock_26 3 rfl rfl ?_
      refine j_swap ?_
      refine j_get (ref := RX5) (pc := 27) C hiX6_stock_X5 0 (c_at0 f1 cI cO (bY h cO (scells f0 cI cO a0 ++ xcell h f0 f1 ax x) b) a1) rfl 3 (by decide) lkX6_stock_49 (c_fl0_3 f1 a1) dX6_stock_27 ?_
      refine j_iload_n (pc := 30) C dX6_stock_30 2 rfl rfl ?_
      refine j_iadd (pc := 31) C dX6_stock_31 ?_
      refine j_ldc (pc := 32) (v := 100000) C dX6_stock_32 (by decide +kernel) ?_
      refine j_icmp_le (pc := 34) C 40 dX6_stock_34 (by decide) (fun z_22 => ?_) (fun z_22 => ?_)
      · have hw := hw.1 z_22
        refine j_aload_n (pc := 40) C dX6_stock_40 3 rfl rfl ?_
        refine j_dup (pc := 41) C dX6_stock_41 rfl ?_
        refine j_get (ref := RX5) (pc := 42) C hiX6_stock_X5 0 (c_at0 f1 cI cO (bY h cO (scells f0 cI cO a0 ++ xcell h f0 f1 ax x) b) a1) rfl 3 (by decide) lkX6_stock_49 (c_fl0_3 f1 a1) dX6_stock_42 ?_
        refine j_iload_n (pc := 45) C dX6_stock_45 2 rfl rfl ?_
        refine j_iadd (pc := 46) C dX6_stock_46 ?_
        refine j_topi (fun v_23 ev_23 => ?_)
        have hw := hw v_23 ev_23
        refine j_put (pc := 47) C hiX6_stock_X5 tyX5 tyX5_ok nmX5 0 (c_at0 f1 cI cO (bY h cO (scells f0 cI cO a0 ++ xcell h f0 f1 ax x) b) a1) rfl 3 (by decide) lkX6_stock_49 rfl rfl rfl (Nat.le_of_ble_eq_true rfl) dX6_stock_47 (j_ws (c_s0_3 f1 cI cO (bY h cO (scells f0 cI cO a0 ++ xcell h f0 f1 ax x) b) a1 v_23) ?_)
        refine j_nmA (fun a_24 ea_24 => ?_)
        have hw := hw a_24 ea_24
        refine j_aload_n (pc := 50) C dX6_stock_50 3 rfl rfl ?_
        refine j_get (ref := RX5) (pc := 51) C hiX6_stock_X5 0 (c_at0 f1 cI cO (bY h cO (scells f0 cI cO a0 ++ xcell h f0 f1 ax x) b) a_24) rfl 3 (by decide) lkX6_stock_49 (c_fl0_3 f1 a_24) dX6_stock_51 ?_
        refine j_swap ?_
        exact j_iret (pc := 54) C hr (x, a0, a_24, b) rfl hw dX6_stock_54
      · have hw := hw.2 z_22
        refine j_bipush (pc := 37) (v := (-4)) C dX6_stock_37 (by decide) ?_
        refine j_swap ?_
        exact j_iret (pc := 39) C hr (x, a0, a1, b) rfl hw dX6_stock_39
    · have hw := hw.2 z_21
      refine j_bipush (pc := 23) (v := (-2)) C dX6_stock_23 (by decide) ?_
      exact j_iret (pc := 25) C hr (x, a0, a1, b) rfl hw dX6_stock_25
  · have hw := (hw.2 z_13).2 z_14
    refine j_astore_nN (pc := 5) (lv' := [(0, .ref ax), (1, .int x1), (2, .int x2), (3, .null)]) C [1, 2, 3, 0] dX6_stock_5 rfl (by decide) rfl ?_
    refine j_aload_nN (pc := 6) C dX6_stock_6 3 rfl rfl ?_
    refine j_ifnonnullN (pc := 7) C dX6_stock_7 ?_
    refine j_iconst (pc := 10) (v := (-1)) C dX6_stock_10 (by decide) ?_
    exact j_iret (pc := 11) C hr (x, a0, a1, b) rfl hw dX6_stock_11

def rmX6_ofGate : Room := { frames := 1, cells := 0, slots := 0, locals := 20 }
theorem hiX6_ofGate_X6 : ∀ w ∈ u_ws RX6 TX6 6, w ∈ wsX6_ofGate := by decide +kernel
theorem hiX6_ofGate_X1 : ∀ w ∈ u_ws RX1 TX1 12, w ∈ wsX6_ofGate := by decide +kernel
theorem hiX6_ofGate_X5 : ∀ w ∈ u_ws RX5 TX5 16, w ∈ wsX6_ofGate := by decide +kernel
theorem lkX6_ofGate_14 : Cond.fieldLink yX6_ofGate.cls 14 (TX6 0).1 (TX6 0).2.1 (TX6 0).2.2.1 ∈ wsX6_ofGate := by decide +kernel
theorem lkX6_ofGate_57 : Cond.fieldLink yX6_ofGate.cls 57 (TX1 7).1 (TX1 7).2.1 (TX1 7).2.2.1 ∈ wsX6_ofGate := by decide +kernel
theorem lkX6_ofGate_60 : Cond.fieldLink yX6_ofGate.cls 60 (TX1 3).1 (TX1 3).2.1 (TX1 3).2.2.1 ∈ wsX6_ofGate := by decide +kernel
theorem lkX6_ofGate_21 : Cond.fieldLink yX6_ofGate.cls 21 (TX6 1).1 (TX6 1).2.1 (TX6 1).2.2.1 ∈ wsX6_ofGate := by decide +kernel
theorem lkX6_ofGate_68 : Cond.fieldLink yX6_ofGate.cls 68 (TX5 5).1 (TX5 5).2.1 (TX5 5).2.2.1 ∈ wsX6_ofGate := by decide +kernel
theorem lkX6_ofGate_25 : Cond.fieldLink yX6_ofGate.cls 25 (TX6 2).1 (TX6 2).2.1 (TX6 2).2.2.1 ∈ wsX6_ofGate := by decide +kernel
theorem lkX6_ofGate_71 : Cond.fieldLink yX6_ofGate.cls 71 (TX1 9).1 (TX1 9).2.1 (TX1 9).2.2.1 ∈ wsX6_ofGate := by decide +kernel
theorem lkX6_ofGate_74 : Cond.fieldLink yX6_ofGate.cls 74 (TX1 10).1 (TX1 10).2.1 (TX1 10).2.2.1 ∈ wsX6_ofGate := by decide +kernel
theorem lkX6_ofGate_77 : Cond.fieldLink yX6_ofGate.cls 77 (TX1 8).1 (TX1 8).2.1 (TX1 8).2.2.1 ∈ wsX6_ofGate := by decide +kernel
def wX6_ofGate_67 (N : Nat) (x : jXS) (a0 a1 : jSS) (b : jGS) (y0 : Int32) (post : Int32 → jXS → jSS → jSS → jGS → Prop) : Prop := ∀ r_11 : Int32, r_11 = jasNumber y0 → post r_11 x a0 a1 b
set_option maxHeartbeats 4000000 in
set_option maxRecDepth 100000 in
theorem kX6_ofGate_67 {p : Program} {l : Launch} {e : Env} {s : State} {m : MethodId} {args : Array Value} {below : List Frame} {meth : Method} {c : Code} {D : va_G} {cI cJ cZ cO : ClassId} {f0 f1 h : Nat → Nat} {ax : Nat} {A : Nat → Prop} {N : Nat} {post : Int32 → jXS → jSS → jSS → jGS → Prop} (C : jC p s m args meth c cX6_ofGate 2 yX6_ofGate.cls wsX6_ofGate D (jT cI cJ cZ cO) A) (hr : meth.sig.returnType = (some .int)) (hG : gz A s) (x : jXS) (a0 a1 : jSS) (b : jGS) (y0 : Int32) (hw : wX6_ofGate_67 N x a0 a1 b y0 post) : jJ p l e rmX6_ofGate s m args below meth c 0 0 (MQ below (va_Qi (fun r (u : jMS) => post r u.1 u.2.1 u.2.2.1 u.2.2.2) (jE D (jT cI cJ cZ cO) A (mF f0 f1 h ax cI cO)) A) args s 0 0 A) D A 2 (acells f0 cI cO (bY h cO (scells f1 cI cO a1 ++ xcell h f0 f1 ax x) b) a0) [] 67 [.int y0] := by
  unfold wX6_ofGate_67 at hw
  refine j_scalli (pc := 67) C 1 (mX6_asNumber y0) gX6_ofGate_X6_asNumber rfl rfl rfl (by decide +kernel) ⟨Nat.le_of_ble_eq_true rfl, Nat.le_of_ble_eq_true rfl⟩ rfl rfl (Nat.le_of_ble_eq_true rfl) dX6_ofGate_67 ⟨Nat.le_refl _, Nat.le_refl _⟩ (fun r_11 er_11 => ?_)
  have hw := hw r_11 er_11
  exact j_iret (pc := 70) C hr (x, a0, a1, b) rfl hw dX6_ofGate_70
def wX6_ofGate (N : Nat) (x : jXS) (a0 a1 : jSS) (b : jGS) (x1 : Int32) (post : Int32 → jXS → jSS → jSS → jGS → Prop) : Prop := ((x1 = 0) → (post (gI b 7) x a0 a1 b)) ∧ ((¬ x1 = 0) → (((x1 = 1) → (((gV b = none) → (wX6_ofGate_67 N x a0 a1 b 0 post)) ∧ (∀ q_15 : Nat, gV b = some q_15 → (wX6_ofGate_67 N x a0 a1 b 1 post)))) ∧ ((¬ x1 = 1) → (((x1 = 2) → (post (a0.1 0 5) x a0 a1 b)) ∧ ((¬ x1 = 2) → (((x1 = 3) → (post (a1.1 0 5) x a0 a1 b)) ∧ ((¬ x1 = 3) → (((x1 = 4) → (post (gI b 9) x a0 a1 b)) ∧ ((¬ x1 = 4) → (((x1 = 5) → (post (gI b 10) x a0 a1 b)) ∧ ((¬ x1 = 5) → (((x1 = 6) → (post (gI b 8) x a0 a1 b)) ∧ ((¬ x1 = 6) → (post ((-2)) x a0 a1 b))))))))))))))
set_option maxHeartbeats 4000000 in
set_option maxRecDepth 100000 in
theorem mX6_ofGate {l : Launch} {D : va_G} {cI cJ cZ cO : ClassId} {f0 f1 h : Nat → Nat} {ax : Nat} {N : Nat} {x : jXS} {a0 a1 : jSS} {b : jGS} {x1 : Int32} {post : Int32 → jXS → jSS → jSS → jGS → Prop} (hw : wX6_ofGate N x a0 a1 b x1 post) : jMi l D (jT cI cJ cZ cO) gz yX6_ofGate wsX6_ofGate rmX6_ofGate [.ref ax, .int x1] (acells f0 cI cO (bY h cO (scells f1 cI cO a1 ++ xcell h f0 f1 ax x) b) a0) (fun r (u : jMS) => post r u.1 u.2.1 u.2.2.1 u.2.2.2) (mF f0 f1 h ax cI cO) 0 0 := by
  refine j_ofi (cc := cX6_ofGate) (maxL := 2) (ret := (some .int)) (by decide) rfl (Nat.le_of_ble_eq_true rfl) ?_
  intro p e s m args below meth c A C hr hnm hG
  refine j_sub (lv' := [(0, .ref ax), (1, .int x1)]) [0, 1] rfl ?_
  unfold wX6_ofGate at hw
  refine j_iload_n (pc := 0) C dX6_ofGate_0 1 rfl rfl ?_
  by_cases z_12 : x1 = 0
  · have hw := hw.1 z_12
    refine j_tableIn (pc := 1) C 44 dX6_ofGate_1 (by rw [z_12]; decide) (by rw [z_12]; decide) (by rw [z_12]; rfl) (by decide) ?_
    refine j_aload_n (pc := 44) C dX6_ofGate_44 0 rfl rfl ?_
    refine j_get (ref := RX6) (pc := 45) C hiX6_ofGate_X6 22 (e_at f0 f1 h f0 f1 ax cI cO a0 a1 x b) rfl 0 (by decide) lkX6_ofGate_14 (e_fl0 h f0 f1 x) dX6_ofGate_45 ?_
    refine j_get (ref := RX1) (pc := 48) C hiX6_ofGate_X1 10 (c_at10 f0 h cI cO (scells f1 cI cO a1 ++ xcell h f0 f1 ax x) a0 b) rfl 7 (by decide) lkX6_ofGate_57 (c_fl10_7 h b) dX6_ofGate_48 ?_
    exact j_iret (pc := 51) C hr (x, a0, a1, b) rfl hw dX6_ofGate_51
  · have hw := hw.2 z_12
    by_cases z_13 : x1 = 1
    · have hw := hw.1 z_13
      refine j_tableIn (pc := 1) C 52 dX6_ofGate_1 (by rw [z_13]; decide) (by rw [z_13]; decide) (by rw [z_13]; rfl) (by decide) ?_
      refine j_aload_n (pc := 52) C dX6_ofGate_52 0 rfl rfl ?_
      refine j_get (ref := RX6) (pc := 53) C hiX6_ofGate_X6 22 (e_at f0 f1 h f0 f1 ax cI cO a0 a1 x b) rfl 0 (by decide) lkX6_ofGate_14 (e_fl0 h f0 f1 x) dX6_ofGate_53 ?_
      refine j_get (ref := RX1) (pc := 56) C hiX6_ofGate_X1 10 (c_at10 f0 h cI cO (scells f1 cI cO a1 ++ xcell h f0 f1 ax x) a0 b) rfl 3 (by decide) lkX6_ofGate_60 (c_fl10_3 h b) dX6_ofGate_56 ?_
      refine j_opt (fun z_14 => ?_) (fun q_15 z_14 => ?_)
      · have hw := hw.1 z_14
        refine j_ifnullN (pc := 59) C 66 dX6_ofGate_59 (by decide) ?_
        refine j_iconst (pc := 66) (v := 0) C dX6_ofGate_66 (by decide) ?_
        refine j_sub [] rfl ?_
        exact kX6_ofGate_67 C hr hG _ _ _ _ _ hw
      · have hw := hw.2 q_15 z_14
        refine j_ifnull (pc := 59) C dX6_ofGate_59 ?_
        refine j_iconst (pc := 62) (v := 1) C dX6_ofGate_62 (by decide) ?_
        refine j_goto (pc := 63) C 67 dX6_ofGate_63 (by decide) ?_
        refine j_sub [] rfl ?_
        exact kX6_ofGate_67 C hr hG _ _ _ _ _ hw
    · have hw := hw.2 z_13
      by_cases z_16 : x1 = 2
      · have hw := hw.1 z_16
        refine j_tableIn (pc := 1) C 71 dX6_ofGate_1 (by rw [z_16]; decide) (by rw [z_16]; decide) (by rw [z_16]; rfl) (by decide) ?_
        refine j_aload_n (pc := 71) C dX6_ofGate_71 0 rfl rfl ?_
        refine j_get (ref := RX6) (pc := 72) C hiX6_ofGate_X6 22 (e_at f0 f1 h f0 f1 ax cI cO a0 a1 x b) rfl 1 (by decide) lkX6_ofGate_21 (e_fl1 h f0 f1 x) dX6_ofGate_72 ?_
        refine j_get (ref := RX5) (pc := 75) C hiX6_ofGate_X5 0 (c_at0 f0 cI cO (bY h cO (scells f1 cI cO a1 ++ xcell h f0 f1 ax x) b) a0) rfl 5 (by decide) lkX6_ofGate_68 (c_fl0_5 f0 a0) dX6_ofGate_75 ?_
        exact j_iret (pc := 78) C hr (x, a0, a1, b) rfl hw dX6_ofGate_78
      · have hw := hw.2 z_16
        by_cases z_17 : x1 = 3
        · have hw := hw.1 z_17
          refine j_tableIn (pc := 1) C 79 dX6_ofGate_1 (by rw [z_17]; decide) (by rw [z_17]; decide) (by rw [z_17]; rfl) (by decide) ?_
          refine j_aload_n (pc := 79) C dX6_ofGate_79 0 rfl rfl ?_
          refine j_get (ref := RX6) (pc := 80) C hiX6_ofGate_X6 22 (e_at f0 f1 h f0 f1 ax cI cO a0 a1 x b) rfl 2 (by decide) lkX6_ofGate_25 (e_fl2 h f0 f1 x) dX6_ofGate_80 ?_
          refine j_swap ?_
          refine j_get (ref := RX5) (pc := 83) C hiX6_ofGate_X5 0 (c_at0 f1 cI cO (bY h cO (scells f0 cI cO a0 ++ xcell h f0 f1 ax x) b) a1) rfl 5 (by decide) lkX6_ofGate_68 (c_fl0_5 f1 a1) dX6_ofGate_83 ?_
          refine j_swap ?_
          exact j_iret (pc := 86) C hr (x, a0, a1, b) rfl hw dX6_ofGate_86
        · have hw := hw.2 z_17
          by_cases z_18 : x1 = 4
          · have hw := hw.1 z_18
            refine j_tableIn (pc := 1) C 87 dX6_ofGate_1 (by rw [z_18]; decide) (by rw [z_18]; decide) (by rw [z_18]; rfl) (by decide) ?_
            refine j_aload_n (pc := 87) C dX6_ofGate_87 0 rfl rfl ?_
            refine j_get (ref := RX6) (pc := 88) C hiX6_ofGate_X6 22 (e_at f0 f1 h f0 f1 ax cI cO a0 a1 x b) rfl 0 (by decide) lkX6_ofGate_14 (e_fl0 h f0 f1 x) dX6_ofGate_88 ?_
            refine j_get (ref := RX1) (pc := 91) C hiX6_ofGate_X1 10 (c_at10 f0 h cI cO (scells f1 cI cO a1 ++ xcell h f0 f1 ax x) a0 b) rfl 9 (by decide) lkX6_ofGate_71 (c_fl10_9 h b) dX6_ofGate_91 ?_
            exact j_iret (pc := 94) C hr (x, a0, a1, b) rfl hw dX6_ofGate_94
          · have hw := hw.2 z_18
            by_cases z_19 : x1 = 5
            · have hw := hw.1 z_19
              refine j_tableIn (pc := 1) C 95 dX6_ofGate_1 (by rw [z_19]; decide) (by rw [z_19]; decide) (by rw [z_19]; rfl) (by decide) ?_
              refine j_aload_n (pc := 95) C dX6_ofGate_95 0 rfl rfl ?_
              refine j_get (ref := RX6) (pc := 96) C hiX6_ofGate_X6 22 (e_at f0 f1 h f0 f1 ax cI cO a0 a1 x b) rfl 0 (by decide) lkX6_ofGate_14 (e_fl0 h f0 f1 x) dX6_ofGate_96 ?_
              refine j_get (ref := RX1) (pc := 99) C hiX6_ofGate_X1 10 (c_at10 f0 h cI cO (scells f1 cI cO a1 ++ xcell h f0 f1 ax x) a0 b) rfl 10 (by decide) lkX6_ofGate_74 (c_fl10_10 h b) dX6_ofGate_99 ?_
              exact j_iret (pc := 102) C hr (x, a0, a1, b) rfl hw dX6_ofGate_102
            · have hw := hw.2 z_19
              by_cases z_20 : x1 = 6
              · have hw := hw.1 z_20
                refine j_tableIn (pc := 1) C 103 dX6_ofGate_1 (by rw [z_20]; decide) (by rw [z_20]; decide) (by rw [z_20]; rfl) (by decide) ?_
                refine j_aload_n (pc := 103) C dX6_ofGate_103 0 rfl rfl ?_
                refine j_get (ref := RX6) (pc := 104) C hiX6_ofGate_X6 22 (e_at f0 f1 h f0 f1 ax cI cO a0 a1 x b) rfl 0 (by decide) lkX6_ofGate_14 (e_fl0 h f0 f1 x) dX6_ofGate_104 ?_
                refine j_get (ref := RX1) (pc := 107) C hiX6_ofGate_X1 10 (c_at10 f0 h cI cO (scells f1 cI cO a1 ++ xcell h f0 f1 ax x) a0 b) rfl 8 (by decide) lkX6_ofGate_77 (c_fl10_8 h b) dX6_ofGate_107 ?_
                exact j_iret (pc := 110) C hr (x, a0, a1, b) rfl hw dX6_ofGate_110
              · have hw := hw.2 z_20
                have q0 := j_ne z_12 0 (by decide)
                have q1 := j_ne z_13 1 (by decide)
                have q2 := j_ne z_16 2 (by decide)
                have q3 := j_ne z_17 3 (by decide)
                have q4 := j_ne z_18 4 (by decide)
                have q5 := j_ne z_19 5 (by decide)
                have q6 := j_ne z_20 6 (by decide)
                refine j_tableOut (pc := 1) C 111 dX6_ofGate_1 (by omega) (by decide) ?_
                refine j_bipush (pc := 111) (v := (-2)) C dX6_ofGate_111 (by decide) ?_
                exact j_iret (pc := 113) C hr (x, a0, a1, b) rfl hw dX6_ofGate_113

def rmX6_ofSender : Room := { frames := 2, cells := 0, slots := 0, locals := 45 }
theorem hiX6_ofSender_X5 : ∀ w ∈ u_ws RX5 TX5 16, w ∈ wsX6_ofSender := by decide +kernel
theorem hiX6_ofSender_X0 : ∀ w ∈ u_ws RX0 TX0 12, w ∈ wsX6_ofSender := by decide +kernel
theorem hiX6_ofSender_X3 : ∀ w ∈ u_ws RX3 TX3 2, w ∈ wsX6_ofSender := by decide +kernel
theorem hiX6_ofSender_X6 : ∀ w ∈ u_ws RX6 TX6 6, w ∈ wsX6_ofSender := by decide +kernel
theorem lkX6_ofSender_92 : Cond.fieldLink yX6_ofSender.cls 92 (TX5 2).1 (TX5 2).2.1 (TX5 2).2.2.1 ∈ wsX6_ofSender := by decide +kernel
theorem lkX6_ofSender_96 : Cond.fieldLink yX6_ofSender.cls 96 (TX0 0).1 (TX0 0).2.1 (TX0 0).2.2.1 ∈ wsX6_ofSender := by decide +kernel
theorem lkX6_ofSender_101 : Cond.fieldLink yX6_ofSender.cls 101 (TX5 0).1 (TX5 0).2.1 (TX5 0).2.2.1 ∈ wsX6_ofSender := by decide +kernel
theorem lkX6_ofSender_105 : Cond.fieldLink yX6_ofSender.cls 105 (TX3 1).1 (TX3 1).2.1 (TX3 1).2.2.1 ∈ wsX6_ofSender := by decide +kernel
theorem lkX6_ofSender_110 : Cond.fieldLink yX6_ofSender.cls 110 (TX5 7).1 (TX5 7).2.1 (TX5 7).2.2.1 ∈ wsX6_ofSender := by decide +kernel
theorem lkX6_ofSender_113 : Cond.fieldLink yX6_ofSender.cls 113 (TX5 12).1 (TX5 12).2.1 (TX5 12).2.2.1 ∈ wsX6_ofSender := by decide +kernel
theorem lkX6_ofSender_116 : Cond.fieldLink yX6_ofSender.cls 116 (TX5 13).1 (TX5 13).2.1 (TX5 13).2.2.1 ∈ wsX6_ofSender := by decide +kernel
theorem lkX6_ofSender_129 : Cond.fieldLink yX6_ofSender.cls 129 (TX5 10).1 (TX5 10).2.1 (TX5 10).2.2.1 ∈ wsX6_ofSender := by decide +kernel
theorem lkX6_ofSender_132 : Cond.fieldLink yX6_ofSender.cls 132 (TX5 6).1 (TX5 6).2.1 (TX5 6).2.2.1 ∈ wsX6_ofSender := by decide +kernel
theorem lkX6_ofSender_49 : Cond.fieldLink yX6_ofSender.cls 49 (TX5 3).1 (TX5 3).2.1 (TX5 3).2.2.1 ∈ wsX6_ofSender := by decide +kernel
theorem lkX6_ofSender_135 : Cond.fieldLink yX6_ofSender.cls 135 (TX5 9).1 (TX5 9).2.1 (TX5 9).2.2.1 ∈ wsX6_ofSender := by decide +kernel
theorem lkX6_ofSender_138 : Cond.fieldLink yX6_ofSender.cls 138 (TX5 4).1 (TX5 4).2.1 (TX5 4).2.2.1 ∈ wsX6_ofSender := by decide +kernel
theorem lkX6_ofSender_141 : Cond.fieldLink yX6_ofSender.cls 141 (TX5 15).1 (TX5 15).2.1 (TX5 15).2.2.1 ∈ wsX6_ofSender := by decide +kernel
theorem lkX6_ofSender_85 : Cond.fieldLink yX6_ofSender.cls 85 (TX6 3).1 (TX6 3).2.1 (TX6 3).2.2.1 ∈ wsX6_ofSender := by decide +kernel
def wX6_ofSender (N : Nat) (x : jXS) (a0 a1 : jSS) (b : jGS) (x1 : Int32) (x2 : Int32) (post : Int32 → jXS → jSS → jSS → jGS → Prop) : Prop := ((x1 = 0) → (((x2 = 0) → (post (a0.1 3 0) x a0 a1 b)) ∧ ((¬ x2 = 0) → (((x2 = 1) → (post (a0.1 1 1) x a0 a1 b)) ∧ ((¬ x2 = 1) → (((x2 = 2) → (post (a0.1 0 7) x a0 a1 b)) ∧ ((¬ x2 = 2) → (((x2 = 3) → (post (a0.1 0 12) x a0 a1 b)) ∧ ((¬ x2 = 3) → (((x2 = 4) → (post (a0.1 0 13) x a0 a1 b)) ∧ ((¬ x2 = 4) → (((x2 = 5) → (wX5_product N a0 (fun r_53 a_54 => post r_53.toInt32 x a_54 a1 b))) ∧ ((¬ x2 = 5) → (((x2 = 6) → (wX5_window N a0 (fun r_56 a_57 => post r_56.toInt32 x a_57 a1 b))) ∧ ((¬ x2 = 6) → (((x2 = 7) → (wX0_gain N a0 (fun r_59 a_60 => post r_59 x a_60 a1 b))) ∧ ((¬ x2 = 7) → (((x2 = 8) → (post (a0.1 0 10) x a0 a1 b)) ∧ ((¬ x2 = 8) → (((x2 = 9) → (post (a0.1 0 6) x a0 a1 b)) ∧ ((¬ x2 = 9) → (((x2 = 10) → (post (a0.1 0 3) x a0 a1 b)) ∧ ((¬ x2 = 10) → (((x2 = 11) → (post (a0.1 0 9) x a0 a1 b)) ∧ ((¬ x2 = 11) → (((x2 = 12) → (post (a0.1 0 4) x a0 a1 b)) ∧ ((¬ x2 = 12) → (((x2 = 13) → (∀ m_67 : Int64, m_67 = jmaxl 0 (a0.2.1 - (1000 * ((x 3).toInt64))) → post m_67.toInt32 x a0 a1 b)) ∧ ((¬ x2 = 13) → (post ((-2)) x a0 a1 b)))))))))))))))))))))))))))))) ∧ ((¬ x1 = 0) → (((x1 = 1) → (((x2 = 0) → (post (a1.1 3 0) x a0 a1 b)) ∧ ((¬ x2 = 0) → (((x2 = 1) → (post (a1.1 1 1) x a0 a1 b)) ∧ ((¬ x2 = 1) → (((x2 = 2) → (post (a1.1 0 7) x a0 a1 b)) ∧ ((¬ x2 = 2) → (((x2 = 3) → (post (a1.1 0 12) x a0 a1 b)) ∧ ((¬ x2 = 3) → (((x2 = 4) → (post (a1.1 0 13) x a0 a1 b)) ∧ ((¬ x2 = 4) → (((x2 = 5) → (wX5_product N a1 (fun r_74 a_75 => post r_74.toInt32 x a0 a_75 b))) ∧ ((¬ x2 = 5) → (((x2 = 6) → (wX5_window N a1 (fun r_77 a_78 => post r_77.toInt32 x a0 a_78 b))) ∧ ((¬ x2 = 6) → (((x2 = 7) → (wX0_gain N a1 (fun r_80 a_81 => post r_80 x a0 a_81 b))) ∧ ((¬ x2 = 7) → (((x2 = 8) → (post (a1.1 0 10) x a0 a1 b)) ∧ ((¬ x2 = 8) → (((x2 = 9) → (post (a1.1 0 6) x a0 a1 b)) ∧ ((¬ x2 = 9) → (((x2 = 10) → (post (a1.1 0 3) x a0 a1 b)) ∧ ((¬ x2 = 10) → (((x2 = 11) → (post (a1.1 0 9) x a0 a1 b)) ∧ ((¬ x2 = 11) → (((x2 = 12) → (post (a1.1 0 4) x a0 a1 b)) ∧ ((¬ x2 = 12) → (((x2 = 13) → (∀ m_88 : Int64, m_88 = jmaxl 0 (a1.2.1 - (1000 * ((x 3).toInt64))) → post m_88.toInt32 x a0 a1 b)) ∧ ((¬ x2 = 13) → (post ((-2)) x a0 a1 b)))))))))))))))))))))))))))))) ∧ ((¬ x1 = 1) → (post ((-1)) x a0 a1 b))))
set_option maxHeartbeats 4000000 in
set_option maxRecDepth 100000 in
theorem mX6_ofSender {l : Launch} {D : va_G} {cI cJ cZ cO : ClassId} {f0 f1 h : Nat → Nat} {ax : Nat} {N : Nat} {x : jXS} {a0 a1 : jSS} {b : jGS} {x1 : Int32} {x2 : Int32} {post : Int32 → jXS → jSS → jSS → jGS → Prop} (hw : wX6_ofSender N x a0 a1 b x1 x2 post) : jMi l D (jT cI cJ cZ cO) gz yX6_ofSender wsX6_ofSender rmX6_ofSender [.ref ax, .int x1, .int x2] (acells f0 cI cO (bY h cO (scells f1 cI cO a1 ++ xcell h f0 f1 ax x) b) a0) (fun r (u : jMS) => post r u.1 u.2.1 u.2.2.1 u.2.2.2) (mF f0 f1 h ax cI cO) 0 0 := by
  refine j_ofi (cc := cX6_ofSender) (maxL := 4) (ret := (some .int)) (by decide) rfl (Nat.le_of_ble_eq_true rfl) ?_
  intro p e s m args below meth c A C hr hnm hG
  refine j_sub (lv' := [(0, .ref ax), (1, .int x1), (2, .int x2)]) [0, 1, 2] rfl ?_
  unfold wX6_ofSender at hw
  refine j_aload_n (pc := 0) C dX6_ofSender_0 0 rfl rfl ?_
  refine j_iload_n (pc := 1) C dX6_ofSender_1 1 rfl rfl ?_
  refine j_senderOf (pc := 2) C gz_ok hG (s0 := x1) mX6_senderOf gX6_ofSender_X6_senderOf (by decide +kernel) ⟨Nat.le_of_ble_eq_true rfl, Nat.le_of_ble_eq_true rfl⟩ 22 (e_at f0 f1 h f0 f1 ax cI cO a0 a1 x b) rfl (Nat.le_of_ble_eq_true rfl) dX6_ofSender_2 ⟨Nat.le_refl _, Nat.le_refl _⟩ (fun z_45 => ?_) (fun z_45 z_46 => ?_) (fun z_45 z_46 => ?_)
  · have hw := hw.1 z_45
    refine j_astore_n (pc := 5) (lv' := [(0, .ref ax), (1, .int x1), (2, .int x2), (3, .ref (f0 0))]) C [1, 2, 3, 0] dX6_ofSender_5 rfl (by decide) rfl ?_
    refine j_aload_n (pc := 6) C dX6_ofSender_6 3 rfl rfl ?_
    refine j_ifnonnull (pc := 7) C 12 dX6_ofSender_7 (by decide) ?_
    refine j_iload_n (pc := 12) C dX6_ofSender_12 2 rfl rfl ?_
    by_cases z_47 : x2 = 0
    · have hw := hw.1 z_47
      refine j_tableIn (pc := 13) C 84 dX6_ofSender_13 (by rw [z_47]; decide) (by rw [z_47]; decide) (by rw [z_47]; rfl) (by decide) ?_
      refine j_aload_n (pc := 84) C dX6_ofSender_84 3 rfl rfl ?_
      refine j_get (ref := RX5) (pc := 85) C hiX6_ofSender_X5 0 (c_at0 f0 cI cO (bY h cO (scells f1 cI cO a1 ++ xcell h f0 f1 ax x) b) a0) rfl 2 (by decide) lkX6_ofSender_92 (c_fl0_2 f0 a0) dX6_ofSender_85 ?_
      refine j_get (ref := RX0) (pc := 88) C hiX6_ofSender_X0 3 (c_at3 f0 cI cO (bY h cO (scells f1 cI cO a1 ++ xcell h f0 f1 ax x) b) a0) rfl 0 (by decide) lkX6_ofSender_96 (c_fl3_0 f0 a0) dX6_ofSender_88 ?_
      exact j_iret (pc := 91) C hr (x, a0, a1, b) rfl hw dX6_ofSender_91
    · have hw := hw.2 z_47
      by_cases z_48 : x2 = 1
      · have hw := hw.1 z_48
        refine j_tableIn (pc := 13) C 92 dX6_ofSender_13 (by rw [z_48]; decide) (by rw [z_48]; decide) (by rw [z_48]; rfl) (by decide) ?_
        refine j_aload_n (pc := 92) C dX6_ofSender_92 3 rfl rfl ?_
        refine j_get (ref := RX5) (pc := 93) C hiX6_ofSender_X5 0 (c_at0 f0 cI cO (bY h cO (scells f1 cI cO a1 ++ xcell h f0 f1 ax x) b) a0) rfl 0 (by decide) lkX6_ofSender_101 (c_fl0_0 f0 a0) dX6_ofSender_93 ?_
        refine j_get (ref := RX3) (pc := 96) C hiX6_ofSender_X3 1 (c_at1 f0 cI cO (bY h cO (scells f1 cI cO a1 ++ xcell h f0 f1 ax x) b) a0) rfl 1 (by decide) lkX6_ofSender_105 (c_fl1_1 f0 a0) dX6_ofSender_96 ?_
        exact j_iret (pc := 99) C hr (x, a0, a1, b) rfl hw dX6_ofSender_99
      · have hw := hw.2 z_48
        by_cases z_49 : x2 = 2
        · have hw := hw.1 z_49
          refine j_tableIn (pc := 13) C 100 dX6_ofSender_13 (by rw [z_49]; decide) (by rw [z_49]; decide) (by rw [z_49]; rfl) (by decide) ?_
          refine j_aload_n (pc := 100) C dX6_ofSender_100 3 rfl rfl ?_
          refine j_get (ref := RX5) (pc := 101) C hiX6_ofSender_X5 0 (c_at0 f0 cI cO (bY h cO (scells f1 cI cO a1 ++ xcell h f0 f1 ax x) b) a0) rfl 7 (by decide) lkX6_ofSender_110 (c_fl0_7 f0 a0) dX6_ofSender_101 ?_
          exact j_iret (pc := 104) C hr (x, a0, a1, b) rfl hw dX6_ofSender_104
        · have hw := hw.2 z_49
          by_cases z_50 : x2 = 3
          · have hw := hw.1 z_50
            refine j_tableIn (pc := 13) C 105 dX6_ofSender_13 (by rw [z_50]; decide) (by rw [z_50]; decide) (by rw [z_50]; rfl) (by decide) ?_
            refine j_aload_n (pc := 105) C dX6_ofSender_105 3 rfl rfl ?_
            refine j_get (ref := RX5) (pc := 106) C hiX6_ofSender_X5 0 (c_at0 f0 cI cO (bY h cO (scells f1 cI cO a1 ++ xcell h f0 f1 ax x) b) a0) rfl 12 (by decide) lkX6_ofSender_113 (c_fl0_12 f0 a0) dX6_ofSender_106 ?_
            exact j_iret (pc := 109) C hr (x, a0, a1, b) rfl hw dX6_ofSender_109
          · have hw := hw.2 z_50
            by_cases z_51 : x2 = 4
            · have hw := hw.1 z_51
              refine j_tableIn (pc := 13) C 110 dX6_ofSender_13 (by rw [z_51]; decide) (by rw [z_51]; decide) (by rw [z_51]; rfl) (by decide) ?_
              refine j_aload_n (pc := 110) C dX6_ofSender_110 3 rfl rfl ?_
              refine j_get (ref := RX5) (pc := 111) C hiX6_ofSender_X5 0 (c_at0 f0 cI cO (bY h cO (scells f1 cI cO a1 ++ xcell h f0 f1 ax x) b) a0) rfl 13 (by decide) lkX6_ofSender_116 (c_fl0_13 f0 a0) dX6_ofSender_111 ?_
              exact j_iret (pc := 114) C hr (x, a0, a1, b) rfl hw dX6_ofSender_114
            · have hw := hw.2 z_51
              by_cases z_52 : x2 = 5
              · have hw := hw.1 z_52
                refine j_tableIn (pc := 13) C 115 dX6_ofSender_13 (by rw [z_52]; decide) (by rw [z_52]; decide) (by rw [z_52]; rfl) (by decide) ?_
                refine j_aload_n (pc := 115) C dX6_ofSender_115 3 rfl rfl ?_
                refine j_calll0 (pc := 116) C gz_ok hG 0 (mX5_product hw) gX6_ofSender_X5_product rfl rfl rfl (by decide +kernel) ⟨Nat.le_of_ble_eq_true rfl, Nat.le_of_ble_eq_true rfl⟩ 0 (c_at0 f0 cI cO (bY h cO (scells f1 cI cO a1 ++ xcell h f0 f1 ax x) b) a0) rfl rfl rfl (Nat.le_of_ble_eq_true rfl) dX6_ofSender_116 ⟨Nat.le_refl _, Nat.le_refl _⟩ (fun r_53 a_54 hw => ?_)
                refine j_l2i (pc := 119) C dX6_ofSender_119 ?_
                exact j_iret (pc := 120) C hr (x, a_54, a1, b) rfl hw dX6_ofSender_120
              · have hw := hw.2 z_52
                by_cases z_55 : x2 = 6
                · have hw := hw.1 z_55
                  refine j_tableIn (pc := 13) C 121 dX6_ofSender_13 (by rw [z_55]; decide) (by rw [z_55]; decide) (by rw [z_55]; rfl) (by decide) ?_
                  refine j_aload_n (pc := 121) C dX6_ofSender_121 3 rfl rfl ?_
                  refine j_calll0 (pc := 122) C gz_ok hG 0 (mX5_window hw) gX6_ofSender_X5_window rfl rfl rfl (by decide +kernel) ⟨Nat.le_of_ble_eq_true rfl, Nat.le_of_ble_eq_true rfl⟩ 0 (c_at0 f0 cI cO (bY h cO (scells f1 cI cO a1 ++ xcell h f0 f1 ax x) b) a0) rfl rfl rfl (Nat.le_of_ble_eq_true rfl) dX6_ofSender_122 ⟨Nat.le_refl _, Nat.le_refl _⟩ (fun r_56 a_57 hw => ?_)
                  refine j_l2i (pc := 125) C dX6_ofSender_125 ?_
                  exact j_iret (pc := 126) C hr (x, a_57, a1, b) rfl hw dX6_ofSender_126
                · have hw := hw.2 z_55
                  by_cases z_58 : x2 = 7
                  · have hw := hw.1 z_58
                    refine j_tableIn (pc := 13) C 127 dX6_ofSender_13 (by rw [z_58]; decide) (by rw [z_58]; decide) (by rw [z_58]; rfl) (by decide) ?_
                    refine j_aload_n (pc := 127) C dX6_ofSender_127 3 rfl rfl ?_
                    refine j_get (ref := RX5) (pc := 128) C hiX6_ofSender_X5 0 (c_at0 f0 cI cO (bY h cO (scells f1 cI cO a1 ++ xcell h f0 f1 ax x) b) a0) rfl 2 (by decide) lkX6_ofSender_92 (c_fl0_2 f0 a0) dX6_ofSender_128 ?_
                    refine j_calli0 (pc := 131) C gz_ok hG 0 (mX0_gain hw) gX6_ofSender_X0_gain rfl rfl rfl (by decide +kernel) ⟨Nat.le_of_ble_eq_true rfl, Nat.le_of_ble_eq_true rfl⟩ 3 (c_at3 f0 cI cO (bY h cO (scells f1 cI cO a1 ++ xcell h f0 f1 ax x) b) a0) rfl rfl rfl (Nat.le_of_ble_eq_true rfl) dX6_ofSender_131 ⟨Nat.le_refl _, Nat.le_refl _⟩ (fun r_59 a_60 hw => ?_)
                    exact j_iret (pc := 134) C hr (x, a_60, a1, b) rfl hw dX6_ofSender_134
                  · have hw := hw.2 z_58
                    by_cases z_61 : x2 = 8
                    · have hw := hw.1 z_61
                      refine j_tableIn (pc := 13) C 135 dX6_ofSender_13 (by rw [z_61]; decide) (by rw [z_61]; decide) (by rw [z_61]; rfl) (by decide) ?_
                      refine j_aload_n (pc := 135) C dX6_ofSender_135 3 rfl rfl ?_
                      refine j_get (ref := RX5) (pc := 136) C hiX6_ofSender_X5 0 (c_at0 f0 cI cO (bY h cO (scells f1 cI cO a1 ++ xcell h f0 f1 ax x) b) a0) rfl 10 (by decide) lkX6_ofSender_129 (c_fl0_10 f0 a0) dX6_ofSender_136 ?_
                      exact j_iret (pc := 139) C hr (x, a0, a1, b) rfl hw dX6_ofSender_139
                    · have hw := hw.2 z_61
                      by_cases z_62 : x2 = 9
                      · have hw := hw.1 z_62
                        refine j_tableIn (pc := 13) C 140 dX6_ofSender_13 (by rw [z_62]; decide) (by rw [z_62]; decide) (by rw [z_62]; rfl) (by decide) ?_
                        refine j_aload_n (pc := 140) C dX6_ofSender_140 3 rfl rfl ?_
                        refine j_get (ref := RX5) (pc := 141) C hiX6_ofSender_X5 0 (c_at0 f0 cI cO (bY h cO (scells f1 cI cO a1 ++ xcell h f0 f1 ax x) b) a0) rfl 6 (by decide) lkX6_ofSender_132 (c_fl0_6 f0 a0) dX6_ofSender_141 ?_
                        exact j_iret (pc := 144) C hr (x, a0, a1, b) rfl hw dX6_ofSender_144
                      · have hw := hw.2 z_62
                        by_cases z_63 : x2 = 10
                        · have hw := hw.1 z_63
                          refine j_tableIn (pc := 13) C 145 dX6_ofSender_13 (by rw [z_63]; decide) (by rw [z_63]; decide) (by rw [z_63]; rfl) (by decide) ?_
                          refine j_aload_n (pc := 145) C dX6_ofSender_145 3 rfl rfl ?_
                          refine j_get (ref := RX5) (pc := 146) C hiX6_ofSender_X5 0 (c_at0 f0 cI cO (bY h cO (scells f1 cI cO a1 ++ xcell h f0 f1 ax x) b) a0) rfl 3 (by decide) lkX6_ofSender_49 (c_fl0_3 f0 a0) dX6_ofSender_146 ?_
                          exact j_iret (pc := 149) C hr (x, a0, a1, b) rfl hw dX6_ofSender_149
                        · have hw := hw.2 z_63
                          by_cases z_64 : x2 = 11
                          · have hw := hw.1 z_64
                            refine j_tableIn (pc := 13) C 150 dX6_ofSender_13 (by rw [z_64]; decide) (by rw [z_64]; decide) (by rw [z_64]; rfl) (by decide) ?_
                            refine j_aload_n (pc := 150) C dX6_ofSender_150 3 rfl rfl ?_
                            refine j_get (ref := RX5) (pc := 151) C hiX6_ofSender_X5 0 (c_at0 f0 cI cO (bY h cO (scells f1 cI cO a1 ++ xcell h f0 f1 ax x) b) a0) rfl 9 (by decide) lkX6_ofSender_135 (c_fl0_9 f0 a0) dX6_ofSender_151 ?_
                            exact j_iret (pc := 154) C hr (x, a0, a1, b) rfl hw dX6_ofSender_154
                          · have hw := hw.2 z_64
                            by_cases z_65 : x2 = 12
                            · have hw := hw.1 z_65
                              refine j_tableIn (pc := 13) C 155 dX6_ofSender_13 (by rw [z_65]; decide) (by rw [z_65]; decide) (by rw [z_65]; rfl) (by decide) ?_
                              refine j_aload_n (pc := 155) C dX6_ofSender_155 3 rfl rfl ?_
                              refine j_get (ref := RX5) (pc := 156) C hiX6_ofSender_X5 0 (c_at0 f0 cI cO (bY h cO (scells f1 cI cO a1 ++ xcell h f0 f1 ax x) b) a0) rfl 4 (by decide) lkX6_ofSender_138 (c_fl0_4 f0 a0) dX6_ofSender_156 ?_
                              exact j_iret (pc := 159) C hr (x, a0, a1, b) rfl hw dX6_ofSender_159
                            · have hw := hw.2 z_65
                              by_cases z_66 : x2 = 13
                              · have hw := hw.1 z_66
                                refine j_tableIn (pc := 13) C 160 dX6_ofSender_13 (by rw [z_66]; decide) (by rw [z_66]; decide) (by rw [z_66]; rfl) (by decide) ?_
                                refine j_lconst (pc := 160) (v := 0) C dX6_ofSender_160 (by decide) ?_
                                refine j_aload_n (pc := 161) C dX6_ofSender_161 3 rfl rfl ?_
                                refine j_get (ref := RX5) (pc := 162) C hiX6_ofSender_X5 0 (c_at0 f0 cI cO (bY h cO (scells f1 cI cO a1 ++ xcell h f0 f1 ax x) b) a0) rfl 15 (by decide) lkX6_ofSender_141 (c_fl0_15 f0 a0) dX6_ofSender_162 ?_
                                refine j_ldc2 (pc := 165) (v := 1000) C dX6_ofSender_165 (by decide +kernel) ?_
                                refine j_aload_n (pc := 168) C dX6_ofSender_168 0 rfl rfl ?_
                                refine j_get (ref := RX6) (pc := 169) C hiX6_ofSender_X6 22 (e_at f0 f1 h f0 f1 ax cI cO a0 a1 x b) rfl 3 (by decide) lkX6_ofSender_85 (e_fl3 h f0 f1 x) dX6_ofSender_169 ?_
                                refine j_i2l (pc := 172) C dX6_ofSender_172 ?_
                                refine j_lmul (pc := 173) C dX6_ofSender_173 ?_
                                refine j_lsub (pc := 174) C dX6_ofSender_174 ?_
                                refine j_mmaxl (pc := 175) C ⟨by decide +kernel, by decide +kernel, by decide +kernel, by decide +kernel⟩ ⟨Nat.le_of_ble_eq_true rfl, Nat.le_of_ble_eq_true rfl⟩ ⟨Nat.le_refl _, Nat.le_refl _⟩ dX6_ofSender_175 ?_
                                refine j_topl (fun m_67 em_67 => ?_)
                                have hw := hw m_67 em_67
                                refine j_l2i (pc := 178) C dX6_ofSender_178 ?_
                                exact j_iret (pc := 179) C hr (x, a0, a1, b) rfl hw dX6_ofSender_179
                              · have hw := hw.2 z_66
                                have q0 := j_ne z_47 0 (by decide)
                                have q1 := j_ne z_48 1 (by decide)
                                have q2 := j_ne z_49 2 (by decide)
                                have q3 := j_ne z_50 3 (by decide)
                                have q4 := j_ne z_51 4 (by decide)
                                have q5 := j_ne z_52 5 (by decide)
                                have q6 := j_ne z_55 6 (by decide)
                                have q7 := j_ne z_58 7 (by decide)
                                have q8 := j_ne z_61 8 (by decide)
                                have q9 := j_ne z_62 9 (by decide)
                                have q10 := j_ne z_63 10 (by decide)
                                have q11 := j_ne z_64 11 (by decide)
                                have q12 := j_ne z_65 12 (by decide)
                                have q13 := j_ne z_66 13 (by decide)
                                refine j_tableOut (pc := 13) C 180 dX6_ofSender_13 (by omega) (by decide) ?_
                                refine j_bipush (pc := 180) (v := (-2)) C dX6_ofSender_180 (by decide) ?_
                                exact j_iret (pc := 182) C hr (x, a0, a1, b) rfl hw dX6_ofSender_182
  · have hw := (hw.2 z_45).1 z_46
    refine j_astore_n (pc := 5) (lv' := [(0, .ref ax), (1, .int x1), (2, .int x2), (3, .ref (f1 0))]) C [1, 2, 3, 0] dX6_ofSender_5 rfl (by decide) rfl ?_
    refine j_aload_n (pc := 6) C dX6_ofSender_6 3 rfl rfl ?_
    refine j_ifnonnull (pc := 7) C 12 dX6_ofSender_7 (by decide) ?_
    refine j_iload_n (pc := 12) C dX6_ofSender_12 2 rfl rfl ?_
    by_cases z_68 : x2 = 0
    · have hw := hw.1 z_68
      refine j_tableIn (pc := 13) C 84 dX6_ofSender_13 (by rw [z_68]; decide) (by rw [z_68]; decide) (by rw [z_68]; rfl) (by decide) ?_
      refine j_aload_n (pc := 84) C dX6_ofSender_84 3 rfl rfl ?_
      refine j_swap ?_
      refine j_get (ref := RX5) (pc := 85) C hiX6_ofSender_X5 0 (c_at0 f1 cI cO (bY h cO (scells f0 cI cO a0 ++ xcell h f0 f1 ax x) b) a1) rfl 2 (by decide) lkX6_ofSender_92 (c_fl0_2 f1 a1) dX6_ofSender_85 ?_
      refine j_get (ref := RX0) (pc := 88) C hiX6_ofSender_X0 3 (c_at3 f1 cI cO (bY h cO (scells f0 cI cO a0 ++ xcell h f0 f1 ax x) b) a1) rfl 0 (by decide) lkX6_ofSender_96 (c_fl3_0 f1 a1) dX6_ofSender_88 ?_
      refine j_swap ?_
      exact j_iret (pc := 91) C hr (x, a0, a1, b) rfl hw dX6_ofSender_91
    · have hw := hw.2 z_68
      by_cases z_69 : x2 = 1
      · have hw := hw.1 z_69
        refine j_tableIn (pc := 13) C 92 dX6_ofSender_13 (by rw [z_69]; decide) (by rw [z_69]; decide) (by rw [z_69]; rfl) (by decide) ?_
        refine j_aload_n (pc := 92) C dX6_ofSender_92 3 rfl rfl ?_
        refine j_swap ?_
        refine j_get (ref := RX5) (pc := 93) C hiX6_ofSender_X5 0 (c_at0 f1 cI cO (bY h cO (scells f0 cI cO a0 ++ xcell h f0 f1 ax x) b) a1) rfl 0 (by decide) lkX6_ofSender_101 (c_fl0_0 f1 a1) dX6_ofSender_93 ?_
        refine j_get (ref := RX3) (pc := 96) C hiX6_ofSender_X3 1 (c_at1 f1 cI cO (bY h cO (scells f0 cI cO a0 ++ xcell h f0 f1 ax x) b) a1) rfl 1 (by decide) lkX6_ofSender_105 (c_fl1_1 f1 a1) dX6_ofSender_96 ?_
        refine j_swap ?_
        exact j_iret (pc := 99) C hr (x, a0, a1, b) rfl hw dX6_ofSender_99
      · have hw := hw.2 z_69
        by_cases z_70 : x2 = 2
        · have hw := hw.1 z_70
          refine j_tableIn (pc := 13) C 100 dX6_ofSender_13 (by rw [z_70]; decide) (by rw [z_70]; decide) (by rw [z_70]; rfl) (by decide) ?_
          refine j_aload_n (pc := 100) C dX6_ofSender_100 3 rfl rfl ?_
          refine j_swap ?_
          refine j_get (ref := RX5) (pc := 101) C hiX6_ofSender_X5 0 (c_at0 f1 cI cO (bY h cO (scells f0 cI cO a0 ++ xcell h f0 f1 ax x) b) a1) rfl 7 (by decide) lkX6_ofSender_110 (c_fl0_7 f1 a1) dX6_ofSender_101 ?_
          refine j_swap ?_
          exact j_iret (pc := 104) C hr (x, a0, a1, b) rfl hw dX6_ofSender_104
        · have hw := hw.2 z_70
          by_cases z_71 : x2 = 3
          · have hw := hw.1 z_71
            refine j_tableIn (pc := 13) C 105 dX6_ofSender_13 (by rw [z_71]; decide) (by rw [z_71]; decide) (by rw [z_71]; rfl) (by decide) ?_
            refine j_aload_n (pc := 105) C dX6_ofSender_105 3 rfl rfl ?_
            refine j_swap ?_
            refine j_get (ref := RX5) (pc := 106) C hiX6_ofSender_X5 0 (c_at0 f1 cI cO (bY h cO (scells f0 cI cO a0 ++ xcell h f0 f1 ax x) b) a1) rfl 12 (by decide) lkX6_ofSender_113 (c_fl0_12 f1 a1) dX6_ofSender_106 ?_
            refine j_swap ?_
            exact j_iret (pc := 109) C hr (x, a0, a1, b) rfl hw dX6_ofSender_109
          · have hw := hw.2 z_71
            by_cases z_72 : x2 = 4
            · have hw := hw.1 z_72
              refine j_tableIn (pc := 13) C 110 dX6_ofSender_13 (by rw [z_72]; decide) (by rw [z_72]; decide) (by rw [z_72]; rfl) (by decide) ?_
              refine j_aload_n (pc := 110) C dX6_ofSender_110 3 rfl rfl ?_
              refine j_swap ?_
              refine j_get (ref := RX5) (pc := 111) C hiX6_ofSender_X5 0 (c_at0 f1 cI cO (bY h cO (scells f0 cI cO a0 ++ xcell h f0 f1 ax x) b) a1) rfl 13 (by decide) lkX6_ofSender_116 (c_fl0_13 f1 a1) dX6_ofSender_111 ?_
              refine j_swap ?_
              exact j_iret (pc := 114) C hr (x, a0, a1, b) rfl hw dX6_ofSender_114
            · have hw := hw.2 z_72
              by_cases z_73 : x2 = 5
              · have hw := hw.1 z_73
                refine j_tableIn (pc := 13) C 115 dX6_ofSender_13 (by rw [z_73]; decide) (by rw [z_73]; decide) (by rw [z_73]; rfl) (by decide) ?_
                refine j_aload_n (pc := 115) C dX6_ofSender_115 3 rfl rfl ?_
                refine j_swap ?_
                refine j_calll0 (pc := 116) C gz_ok hG 0 (mX5_product hw) gX6_ofSender_X5_product rfl rfl rfl (by decide +kernel) ⟨Nat.le_of_ble_eq_true rfl, Nat.le_of_ble_eq_true rfl⟩ 0 (c_at0 f1 cI cO (bY h cO (scells f0 cI cO a0 ++ xcell h f0 f1 ax x) b) a1) rfl rfl rfl (Nat.le_of_ble_eq_true rfl) dX6_ofSender_116 ⟨Nat.le_refl _, Nat.le_refl _⟩ (fun r_74 a_75 hw => ?_)
                refine j_l2i (pc := 119) C dX6_ofSender_119 ?_
                refine j_swap ?_
                exact j_iret (pc := 120) C hr (x, a0, a_75, b) rfl hw dX6_ofSender_120
              · have hw := hw.2 z_73
                by_cases z_76 : x2 = 6
                · have hw := hw.1 z_76
                  refine j_tableIn (pc := 13) C 121 dX6_ofSender_13 (by rw [z_76]; decide) (by rw [z_76]; decide) (by rw [z_76]; rfl) (by decide) ?_
                  refine j_aload_n (pc := 121) C dX6_ofSender_121 3 rfl rfl ?_
                  refine j_swap ?_
                  refine j_calll0 (pc := 122) C gz_ok hG 0 (mX5_window hw) gX6_ofSender_X5_window rfl rfl rfl (by decide +kernel) ⟨Nat.le_of_ble_eq_true rfl, Nat.le_of_ble_eq_true rfl⟩ 0 (c_at0 f1 cI cO (bY h cO (scells f0 cI cO a0 ++ xcell h f0 f1 ax x) b) a1) rfl rfl rfl (Nat.le_of_ble_eq_true rfl) dX6_ofSender_122 ⟨Nat.le_refl _, Nat.le_refl _⟩ (fun r_77 a_78 hw => ?_)
                  refine j_l2i (pc := 125) C dX6_ofSender_125 ?_
                  refine j_swap ?_
                  exact j_iret (pc := 126) C hr (x, a0, a_78, b) rfl hw dX6_ofSender_126
                · have hw := hw.2 z_76
                  by_cases z_79 : x2 = 7
                  · have hw := hw.1 z_79
                    refine j_tableIn (pc := 13) C 127 dX6_ofSender_13 (by rw [z_79]; decide) (by rw [z_79]; decide) (by rw [z_79]; rfl) (by decide) ?_
                    refine j_aload_n (pc := 127) C dX6_ofSender_127 3 rfl rfl ?_
                    refine j_swap ?_
                    refine j_get (ref := RX5) (pc := 128) C hiX6_ofSender_X5 0 (c_at0 f1 cI cO (bY h cO (scells f0 cI cO a0 ++ xcell h f0 f1 ax x) b) a1) rfl 2 (by decide) lkX6_ofSender_92 (c_fl0_2 f1 a1) dX6_ofSender_128 ?_
                    refine j_calli0 (pc := 131) C gz_ok hG 0 (mX0_gain hw) gX6_ofSender_X0_gain rfl rfl rfl (by decide +kernel) ⟨Nat.le_of_ble_eq_true rfl, Nat.le_of_ble_eq_true rfl⟩ 3 (c_at3 f1 cI cO (bY h cO (scells f0 cI cO a0 ++ xcell h f0 f1 ax x) b) a1) rfl rfl rfl (Nat.le_of_ble_eq_true rfl) dX6_ofSender_131 ⟨Nat.le_refl _, Nat.le_refl _⟩ (fun r_80 a_81 hw => ?_)
                    refine j_swap ?_
                    exact j_iret (pc := 134) C hr (x, a0, a_81, b) rfl hw dX6_ofSender_134
                  · have hw := hw.2 z_79
                    by_cases z_82 : x2 = 8
                    · have hw := hw.1 z_82
                      refine j_tableIn (pc := 13) C 135 dX6_ofSender_13 (by rw [z_82]; decide) (by rw [z_82]; decide) (by rw [z_82]; rfl) (by decide) ?_
                      refine j_aload_n (pc := 135) C dX6_ofSender_135 3 rfl rfl ?_
                      refine j_swap ?_
                      refine j_get (ref := RX5) (pc := 136) C hiX6_ofSender_X5 0 (c_at0 f1 cI cO (bY h cO (scells f0 cI cO a0 ++ xcell h f0 f1 ax x) b) a1) rfl 10 (by decide) lkX6_ofSender_129 (c_fl0_10 f1 a1) dX6_ofSender_136 ?_
                      refine j_swap ?_
                      exact j_iret (pc := 139) C hr (x, a0, a1, b) rfl hw dX6_ofSender_139
                    · have hw := hw.2 z_82
                      by_cases z_83 : x2 = 9
                      · have hw := hw.1 z_83
                        refine j_tableIn (pc := 13) C 140 dX6_ofSender_13 (by rw [z_83]; decide) (by rw [z_83]; decide) (by rw [z_83]; rfl) (by decide) ?_
                        refine j_aload_n (pc := 140) C dX6_ofSender_140 3 rfl rfl ?_
                        refine j_swap ?_
                        refine j_get (ref := RX5) (pc := 141) C hiX6_ofSender_X5 0 (c_at0 f1 cI cO (bY h cO (scells f0 cI cO a0 ++ xcell h f0 f1 ax x) b) a1) rfl 6 (by decide) lkX6_ofSender_132 (c_fl0_6 f1 a1) dX6_ofSender_141 ?_
                        refine j_swap ?_
                        exact j_iret (pc := 144) C hr (x, a0, a1, b) rfl hw dX6_ofSender_144
                      · have hw := hw.2 z_83
                        by_cases z_84 : x2 = 10
                        · have hw := hw.1 z_84
                          refine j_tableIn (pc := 13) C 145 dX6_ofSender_13 (by rw [z_84]; decide) (by rw [z_84]; decide) (by rw [z_84]; rfl) (by decide) ?_
                          refine j_aload_n (pc := 145) C dX6_ofSender_145 3 rfl rfl ?_
                          refine j_swap ?_
                          refine j_get (ref := RX5) (pc := 146) C hiX6_ofSender_X5 0 (c_at0 f1 cI cO (bY h cO (scells f0 cI cO a0 ++ xcell h f0 f1 ax x) b) a1) rfl 3 (by decide) lkX6_ofSender_49 (c_fl0_3 f1 a1) dX6_ofSender_146 ?_
                          refine j_swap ?_
                          exact j_iret (pc := 149) C hr (x, a0, a1, b) rfl hw dX6_ofSender_149
                        · have hw := hw.2 z_84
                          by_cases z_85 : x2 = 11
                          · have hw := hw.1 z_85
                            refine j_tableIn (pc := 13) C 150 dX6_ofSender_13 (by rw [z_85]; decide) (by rw [z_85]; decide) (by rw [z_85]; rfl) (by decide) ?_
                            refine j_aload_n (pc := 150) C dX6_ofSender_150 3 rfl rfl ?_
                            refine j_swap ?_
                            refine j_get (ref := RX5) (pc := 151) C hiX6_ofSender_X5 0 (c_at0 f1 cI cO (bY h cO (scells f0 cI cO a0 ++ xcell h f0 f1 ax x) b) a1) rfl 9 (by decide) lkX6_ofSender_135 (c_fl0_9 f1 a1) dX6_ofSender_151 ?_
                            refine j_swap ?_
                            exact j_iret (pc := 154) C hr (x, a0, a1, b) rfl hw dX6_ofSender_154
                          · have hw := hw.2 z_85
                            by_cases z_86 : x2 = 12
                            · have hw := hw.1 z_86
                              refine j_tableIn (pc := 13) C 155 dX6_ofSender_13 (by rw [z_86]; decide) (by rw [z_86]; decide) (by rw [z_86]; rfl) (by decide) ?_
                              refine j_aload_n (pc := 155) C dX6_ofSender_155 3 rfl rfl ?_
                              refine j_swap ?_
                              refine j_get (ref := RX5) (pc := 156) C hiX6_ofSender_X5 0 (c_at0 f1 cI cO (bY h cO (scells f0 cI cO a0 ++ xcell h f0 f1 ax x) b) a1) rfl 4 (by decide) lkX6_ofSender_138 (c_fl0_4 f1 a1) dX6_ofSender_156 ?_
                              refine j_swap ?_
                              exact j_iret (pc := 159) C hr (x, a0, a1, b) rfl hw dX6_ofSender_159
                            · have hw := hw.2 z_86
                              by_cases z_87 : x2 = 13
                              · have hw := hw.1 z_87
                                refine j_tableIn (pc := 13) C 160 dX6_ofSender_13 (by rw [z_87]; decide) (by rw [z_87]; decide) (by rw [z_87]; rfl) (by decide) ?_
                                refine j_lconst (pc := 160) (v := 0) C dX6_ofSender_160 (by decide) ?_
                                refine j_aload_n (pc := 161) C dX6_ofSender_161 3 rfl rfl ?_
                                refine j_swap ?_
                                refine j_get (ref := RX5) (pc := 162) C hiX6_ofSender_X5 0 (c_at0 f1 cI cO (bY h cO (scells f0 cI cO a0 ++ xcell h f0 f1 ax x) b) a1) rfl 15 (by decide) lkX6_ofSender_141 (c_fl0_15 f1 a1) dX6_ofSender_162 ?_
                                refine j_ldc2 (pc := 165) (v := 1000) C dX6_ofSender_165 (by decide +kernel) ?_
                                refine j_aload_n (pc := 168) C dX6_ofSender_168 0 rfl rfl ?_
                                refine j_get (ref := RX6) (pc := 169) C hiX6_ofSender_X6 22 (e_at f1 f0 h f0 f1 ax cI cO a1 a0 x b) rfl 3 (by decide) lkX6_ofSender_85 (e_fl3 h f0 f1 x) dX6_ofSender_169 ?_
                                refine j_i2l (pc := 172) C dX6_ofSender_172 ?_
                                refine j_lmul (pc := 173) C dX6_ofSender_173 ?_
                                refine j_lsub (pc := 174) C dX6_ofSender_174 ?_
                                refine j_mmaxl (pc := 175) C ⟨by decide +kernel, by decide +kernel, by decide +kernel, by decide +kernel⟩ ⟨Nat.le_of_ble_eq_true rfl, Nat.le_of_ble_eq_true rfl⟩ ⟨Nat.le_refl _, Nat.le_refl _⟩ dX6_ofSender_175 ?_
                                refine j_topl (fun m_88 em_88 => ?_)
                                have hw := hw m_88 em_88
                                refine j_l2i (pc := 178) C dX6_ofSender_178 ?_
                                refine j_swap ?_
                                exact j_iret (pc := 179) C hr (x, a0, a1, b) rfl hw dX6_ofSender_179
                              · have hw := hw.2 z_87
                                have q0 := j_ne z_68 0 (by decide)
                                have q1 := j_ne z_69 1 (by decide)
                                have q2 := j_ne z_70 2 (by decide)
                                have q3 := j_ne z_71 3 (by decide)
                                have q4 := j_ne z_72 4 (by decide)
                                have q5 := j_ne z_73 5 (by decide)
                                have q6 := j_ne z_76 6 (by decide)
                                have q7 := j_ne z_79 7 (by decide)
                                have q8 := j_ne z_82 8 (by decide)
                                have q9 := j_ne z_83 9 (by decide)
                                have q10 := j_ne z_84 10 (by decide)
                                have q11 := j_ne z_85 11 (by decide)
                                have q12 := j_ne z_86 12 (by decide)
                                have q13 := j_ne z_87 13 (by decide)
                                refine j_tableOut (pc := 13) C 180 dX6_ofSender_13 (by omega) (by decide) ?_
                                refine j_bipush (pc := 180) (v := (-2)) C dX6_ofSender_180 (by decide) ?_
                                exact j_iret (pc := 182) C hr (x, a0, a1, b) rfl hw dX6_ofSender_182
  · have hw := (hw.2 z_45).2 z_46
    refine j_astore_nN (pc := 5) (lv' := [(0, .ref ax), (1, .int x1), (2, .int x2), (3, .null)]) C [1, 2, 3, 0] dX6_ofSender_5 rfl (by decide) rfl ?_
    refine j_aload_nN (pc := 6) C dX6_ofSender_6 3 rfl rfl ?_
    refine j_ifnonnullN (pc := 7) C dX6_ofSender_7 ?_
    refine j_iconst (pc := 10) (v := (-1)) C dX6_ofSender_10 (by decide) ?_
    exact j_iret (pc := 11) C hr (x, a0, a1, b) rfl hw dX6_ofSender_11

def rmX6_sample : Room := { frames := 2, cells := 0, slots := 0, locals := 44 }
theorem hiX6_sample_X5 : ∀ w ∈ u_ws RX5 TX5 16, w ∈ wsX6_sample := by decide +kernel
theorem hiX6_sample_X4 : ∀ w ∈ u_ws RX4 TX4 5, w ∈ wsX6_sample := by decide +kernel
theorem lkX6_sample_153 : Cond.fieldLink yX6_sample.cls 153 (TX5 1).1 (TX5 1).2.1 (TX5 1).2.2.1 ∈ wsX6_sample := by decide +kernel
theorem lkX6_sample_157 : Cond.fieldLink yX6_sample.cls 157 (TX4 4).1 (TX4 4).2.1 (TX4 4).2.2.1 ∈ wsX6_sample := by decide +kernel
theorem lkX6_sample_129 : Cond.fieldLink yX6_sample.cls 129 (TX5 10).1 (TX5 10).2.1 (TX5 10).2.2.1 ∈ wsX6_sample := by decide +kernel
def wX6_sample (N : Nat) (x : jXS) (a0 a1 : jSS) (b : jGS) (x1 : Int32) (x2 : Int32) (x3 : Int32) (post : Int32 → jXS → jSS → jSS → jGS → Prop) : Prop := ((x1 = 0) → (∀ r_21 : Int32, r_21 = jwithin x2 0 ((a0.1 2 4) - 1) → ((¬ r_21 = 0) → (((x3 = 0) → (wX4_roundsOf N a0 x2 (a0.1 0 10) (fun r_24 a_25 => post r_24 x a_25 a1 b))) ∧ ((¬ x3 = 0) → (((x3 = 1) → (wX4_rateOf N a0 x2 (fun r_27 a_28 => post r_27 x a_28 a1 b))) ∧ ((¬ x3 = 1) → (post ((-2)) x a0 a1 b)))))) ∧ ((r_21 = 0) → (post ((-1)) x a0 a1 b)))) ∧ ((¬ x1 = 0) → (((x1 = 1) → (∀ r_29 : Int32, r_29 = jwithin x2 0 ((a1.1 2 4) - 1) → ((¬ r_29 = 0) → (((x3 = 0) → (wX4_roundsOf N a1 x2 (a1.1 0 10) (fun r_32 a_33 => post r_32 x a0 a_33 b))) ∧ ((¬ x3 = 0) → (((x3 = 1) → (wX4_rateOf N a1 x2 (fun r_35 a_36 => post r_35 x a0 a_36 b))) ∧ ((¬ x3 = 1) → (post ((-2)) x a0 a1 b)))))) ∧ ((r_29 = 0) → (post ((-1)) x a0 a1 b)))) ∧ ((¬ x1 = 1) → (post ((-1)) x a0 a1 b))))
set_option maxHeartbeats 4000000 in
set_option maxRecDepth 100000 in
theorem mX6_sample {l : Launch} {D : va_G} {cI cJ cZ cO : ClassId} {f0 f1 h : Nat → Nat} {ax : Nat} {N : Nat} {x : jXS} {a0 a1 : jSS} {b : jGS} {x1 : Int32} {x2 : Int32} {x3 : Int32} {post : Int32 → jXS → jSS → jSS → jGS → Prop} (hw : wX6_sample N x a0 a1 b x1 x2 x3 post) : jMi l D (jT cI cJ cZ cO) gz yX6_sample wsX6_sample rmX6_sample [.ref ax, .int x1, .int x2, .int x3] (acells f0 cI cO (bY h cO (scells f1 cI cO a1 ++ xcell h f0 f1 ax x) b) a0) (fun r (u : jMS) => post r u.1 u.2.1 u.2.2.1 u.2.2.2) (mF f0 f1 h ax cI cO) 0 0 := by
  refine j_ofi (cc := cX6_sample) (maxL := 5) (ret := (some .int)) (by decide) rfl (Nat.le_of_ble_eq_true rfl) ?_
  intro p e s m args below meth c A C hr hnm hG
  refine j_sub (lv' := [(0, .ref ax), (1, .int x1), (2, .int x2), (3, .int x3)]) [0, 1, 2, 3] rfl ?_
  unfold wX6_sample at hw
  refine j_aload_n (pc := 0) C dX6_sample_0 0 rfl rfl ?_
  refine j_iload_n (pc := 1) C dX6_sample_1 1 rfl rfl ?_
  refine j_senderOf (pc := 2) C gz_ok hG (s0 := x1) mX6_senderOf gX6_sample_X6_senderOf (by decide +kernel) ⟨Nat.le_of_ble_eq_true rfl, Nat.le_of_ble_eq_true rfl⟩ 22 (e_at f0 f1 h f0 f1 ax cI cO a0 a1 x b) rfl (Nat.le_of_ble_eq_true rfl) dX6_sample_2 ⟨Nat.le_refl _, Nat.le_refl _⟩ (fun z_19 => ?_) (fun z_19 z_20 => ?_) (fun z_19 z_20 => ?_)
  · have hw := hw.1 z_19
    refine j_astore (pc := 5) (lv' := [(0, .ref ax), (1, .int x1), (2, .int x2), (3, .int x3), (4, .ref (f0 0))]) C [1, 2, 3, 4, 0] dX6_sample_5 (by decide) rfl ?_
    refine j_aload (pc := 7) C dX6_sample_7 4 rfl ?_
    refine j_ifnull (pc := 9) C dX6_sample_9 ?_
    refine j_iload_n (pc := 12) C dX6_sample_12 2 rfl rfl ?_
    refine j_iconst (pc := 13) (v := 0) C dX6_sample_13 (by decide) ?_
    refine j_aload (pc := 14) C dX6_sample_14 4 rfl ?_
    refine j_get (ref := RX5) (pc := 16) C hiX6_sample_X5 0 (c_at0 f0 cI cO (bY h cO (scells f1 cI cO a1 ++ xcell h f0 f1 ax x) b) a0) rfl 1 (by decide) lkX6_sample_153 (c_fl0_1 f0 a0) dX6_sample_16 ?_
    refine j_get (ref := RX4) (pc := 19) C hiX6_sample_X4 2 (c_at2 f0 cI cO (bY h cO (scells f1 cI cO a1 ++ xcell h f0 f1 ax x) b) a0) rfl 4 (by decide) lkX6_sample_157 (c_fl2_4 f0 a0) dX6_sample_19 ?_
    refine j_iconst (pc := 22) (v := 1) C dX6_sample_22 (by decide) ?_
    refine j_isub (pc := 23) C dX6_sample_23 ?_
    refine j_scalli (pc := 24) C 3 (mX6_within x2 0 ((a0.1 2 4) - 1)) gX6_sample_X6_within rfl rfl rfl (by decide +kernel) ⟨Nat.le_of_ble_eq_true rfl, Nat.le_of_ble_eq_true rfl⟩ rfl rfl (Nat.le_of_ble_eq_true rfl) dX6_sample_24 ⟨Nat.le_refl _, Nat.le_refl _⟩ (fun r_21 er_21 => ?_)
    have hw := hw r_21 er_21
    refine j_if_ne (pc := 27) C 32 dX6_sample_27 (by decide) (fun z_22 => ?_) (fun z_22 => ?_)
    · have hw := hw.1 z_22
      refine j_iload_n (pc := 32) C dX6_sample_32 3 rfl rfl ?_
      by_cases z_23 : x3 = 0
      · have hw := hw.1 z_23
        refine j_lookup (pc := 33) (off := 27) C 60 dX6_sample_33 (by decide) (by rw [z_23]; decide) (by decide) ?_
        refine j_aload (pc := 60) C dX6_sample_60 4 rfl ?_
        refine j_get (ref := RX5) (pc := 62) C hiX6_sample_X5 0 (c_at0 f0 cI cO (bY h cO (scells f1 cI cO a1 ++ xcell h f0 f1 ax x) b) a0) rfl 1 (by decide) lkX6_sample_153 (c_fl0_1 f0 a0) dX6_sample_62 ?_
        refine j_iload_n (pc := 65) C dX6_sample_65 2 rfl rfl ?_
        refine j_aload (pc := 66) C dX6_sample_66 4 rfl ?_
        refine j_get (ref := RX5) (pc := 68) C hiX6_sample_X5 0 (c_at0 f0 cI cO (bY h cO (scells f1 cI cO a1 ++ xcell h f0 f1 ax x) b) a0) rfl 10 (by decide) lkX6_sample_129 (c_fl0_10 f0 a0) dX6_sample_68 ?_
        refine j_calli0 (pc := 71) C gz_ok hG 2 (mX4_roundsOf hw) gX6_sample_X4_roundsOf rfl rfl rfl (by decide +kernel) ⟨Nat.le_of_ble_eq_true rfl, Nat.le_of_ble_eq_true rfl⟩ 2 (c_at2 f0 cI cO (bY h cO (scells f1 cI cO a1 ++ xcell h f0 f1 ax x) b) a0) rfl rfl rfl (Nat.le_of_ble_eq_true rfl) dX6_sample_71 ⟨Nat.le_refl _, Nat.le_refl _⟩ (fun r_24 a_25 hw => ?_)
        exact j_iret (pc := 74) C hr (x, a_25, a1, b) rfl hw dX6_sample_74
      · have hw := hw.2 z_23
        by_cases z_26 : x3 = 1
        · have hw := hw.1 z_26
          refine j_lookup (pc := 33) (off := 42) C 75 dX6_sample_33 (by decide) (by rw [z_26]; decide) (by decide) ?_
          refine j_aload (pc := 75) C dX6_sample_75 4 rfl ?_
          refine j_get (ref := RX5) (pc := 77) C hiX6_sample_X5 0 (c_at0 f0 cI cO (bY h cO (scells f1 cI cO a1 ++ xcell h f0 f1 ax x) b) a0) rfl 1 (by decide) lkX6_sample_153 (c_fl0_1 f0 a0) dX6_sample_77 ?_
          refine j_iload_n (pc := 80) C dX6_sample_80 2 rfl rfl ?_
          refine j_calli0 (pc := 81) C gz_ok hG 1 (mX4_rateOf hw) gX6_sample_X4_rateOf rfl rfl rfl (by decide +kernel) ⟨Nat.le_of_ble_eq_true rfl, Nat.le_of_ble_eq_true rfl⟩ 2 (c_at2 f0 cI cO (bY h cO (scells f1 cI cO a1 ++ xcell h f0 f1 ax x) b) a0) rfl rfl rfl (Nat.le_of_ble_eq_true rfl) dX6_sample_81 ⟨Nat.le_refl _, Nat.le_refl _⟩ (fun r_27 a_28 hw => ?_)
          exact j_iret (pc := 84) C hr (x, a_28, a1, b) rfl hw dX6_sample_84
        · have hw := hw.2 z_26
          have q0 := j_ne z_23 0 (by decide)
          have q1 := j_ne z_26 1 (by decide)
          refine j_lookup (pc := 33) (off := 52) C 85 dX6_sample_33 (by decide) (by simp [Op.lookupswitch.offset, q0, q1, Ne.symm q0, Ne.symm q1]) (by decide) ?_
          refine j_bipush (pc := 85) (v := (-2)) C dX6_sample_85 (by decide) ?_
          exact j_iret (pc := 87) C hr (x, a0, a1, b) rfl hw dX6_sample_87
    · have hw := hw.2 z_22
      refine j_iconst (pc := 30) (v := (-1)) C dX6_sample_30 (by decide) ?_
      exact j_iret (pc := 31) C hr (x, a0, a1, b) rfl hw dX6_sample_31
  · have hw := (hw.2 z_19).1 z_20
    refine j_astore (pc := 5) (lv' := [(0, .ref ax), (1, .int x1), (2, .int x2), (3, .int x3), (4, .ref (f1 0))]) C [1, 2, 3, 4, 0] dX6_sample_5 (by decide) rfl ?_
    refine j_aload (pc := 7) C dX6_sample_7 4 rfl ?_
    refine j_ifnull (pc := 9) C dX6_sample_9 ?_
    refine j_iload_n (pc := 12) C dX6_sample_12 2 rfl rfl ?_
    refine j_iconst (pc := 13) (v := 0) C dX6_sample_13 (by decide) ?_
    refine j_aload (pc := 14) C dX6_sample_14 4 rfl ?_
    refine j_swap ?_
    refine j_get (ref := RX5) (pc := 16) C hiX6_sample_X5 0 (c_at0 f1 cI cO (bY h cO (scells f0 cI cO a0 ++ xcell h f0 f1 ax x) b) a1) rfl 1 (by decide) lkX6_sample_153 (c_fl0_1 f1 a1) dX6_sample_16 ?_
    refine j_get (ref := RX4) (pc := 19) C hiX6_sample_X4 2 (c_at2 f1 cI cO (bY h cO (scells f0 cI cO a0 ++ xcell h f0 f1 ax x) b) a1) rfl 4 (by decide) lkX6_sample_157 (c_fl2_4 f1 a1) dX6_sample_19 ?_
    refine j_iconst (pc := 22) (v := 1) C dX6_sample_22 (by decide) ?_
    refine j_isub (pc := 23) C dX6_sample_23 ?_
    refine j_scalli (pc := 24) C 3 (mX6_within x2 0 ((a1.1 2 4) - 1)) gX6_sample_X6_within rfl rfl rfl (by decide +kernel) ⟨Nat.le_of_ble_eq_true rfl, Nat.le_of_ble_eq_true rfl⟩ rfl rfl (Nat.le_of_ble_eq_true rfl) dX6_sample_24 ⟨Nat.le_refl _, Nat.le_refl _⟩ (fun r_29 er_29 => ?_)
    have hw := hw r_29 er_29
    refine j_if_ne (pc := 27) C 32 dX6_sample_27 (by decide) (fun z_30 => ?_) (fun z_30 => ?_)
    · have hw := hw.1 z_30
      refine j_iload_n (pc := 32) C dX6_sample_32 3 rfl rfl ?_
      by_cases z_31 : x3 = 0
      · have hw := hw.1 z_31
        refine j_lookup (pc := 33) (off := 27) C 60 dX6_sample_33 (by decide) (by rw [z_31]; decide) (by decide) ?_
        refine j_aload (pc := 60) C dX6_sample_60 4 rfl ?_
        refine j_get (ref := RX5) (pc := 62) C hiX6_sample_X5 0 (c_at0 f1 cI cO (bY h cO (scells f0 cI cO a0 ++ xcell h f0 f1 ax x) b) a1) rfl 1 (by decide) lkX6_sample_153 (c_fl0_1 f1 a1) dX6_sample_62 ?_
        refine j_iload_n (pc := 65) C dX6_sample_65 2 rfl rfl ?_
        refine j_aload (pc := 66) C dX6_sample_66 4 rfl ?_
        refine j_get (ref := RX5) (pc := 68) C hiX6_sample_X5 0 (c_at0 f1 cI cO (bY h cO (scells f0 cI cO a0 ++ xcell h f0 f1 ax x) b) a1) rfl 10 (by decide) lkX6_sample_129 (c_fl0_10 f1 a1) dX6_sample_68 ?_
        refine j_calli0 (pc := 71) C gz_ok hG 2 (mX4_roundsOf hw) gX6_sample_X4_roundsOf rfl rfl rfl (by decide +kernel) ⟨Nat.le_of_ble_eq_true rfl, Nat.le_of_ble_eq_true rfl⟩ 2 (c_at2 f1 cI cO (bY h cO (scells f0 cI cO a0 ++ xcell h f0 f1 ax x) b) a1) rfl rfl rfl (Nat.le_of_ble_eq_true rfl) dX6_sample_71 ⟨Nat.le_refl _, Nat.le_refl _⟩ (fun r_32 a_33 hw => ?_)
        refine j_swap ?_
        exact j_iret (pc := 74) C hr (x, a0, a_33, b) rfl hw dX6_sample_74
      · have hw := hw.2 z_31
        by_cases z_34 : x3 = 1
        · have hw := hw.1 z_34
          refine j_lookup (pc := 33) (off := 42) C 75 dX6_sample_33 (by decide) (by rw [z_34]; decide) (by decide) ?_
          refine j_aload (pc := 75) C dX6_sample_75 4 rfl ?_
          refine j_get (ref := RX5) (pc := 77) C hiX6_sample_X5 0 (c_at0 f1 cI cO (bY h cO (scells f0 cI cO a0 ++ xcell h f0 f1 ax x) b) a1) rfl 1 (by decide) lkX6_sample_153 (c_fl0_1 f1 a1) dX6_sample_77 ?_
          refine j_iload_n (pc := 80) C dX6_sample_80 2 rfl rfl ?_
          refine j_calli0 (pc := 81) C gz_ok hG 1 (mX4_rateOf hw) gX6_sample_X4_rateOf rfl rfl rfl (by decide +kernel) ⟨Nat.le_of_ble_eq_true rfl, Nat.le_of_ble_eq_true rfl⟩ 2 (c_at2 f1 cI cO (bY h cO (scells f0 cI cO a0 ++ xcell h f0 f1 ax x) b) a1) rfl rfl rfl (Nat.le_of_ble_eq_true rfl) dX6_sample_81 ⟨Nat.le_refl _, Nat.le_refl _⟩ (fun r_35 a_36 hw => ?_)
          refine j_swap ?_
          exact j_iret (pc := 84) C hr (x, a0, a_36, b) rfl hw dX6_sample_84
        · have hw := hw.2 z_34
          have q0 := j_ne z_31 0 (by decide)
          have q1 := j_ne z_34 1 (by decide)
          refine j_lookup (pc := 33) (off := 52) C 85 dX6_sample_33 (by decide) (by simp [Op.lookupswitch.offset, q0, q1, Ne.symm q0, Ne.symm q1]) (by decide) ?_
          refine j_bipush (pc := 85) (v := (-2)) C dX6_sample_85 (by decide) ?_
          refine j_swap ?_
          exact j_iret (pc := 87) C hr (x, a0, a1, b) rfl hw dX6_sample_87
    · have hw := hw.2 z_30
      refine j_iconst (pc := 30) (v := (-1)) C dX6_sample_30 (by decide) ?_
      refine j_swap ?_
      exact j_iret (pc := 31) C hr (x, a0, a1, b) rfl hw dX6_sample_31
  · have hw := (hw.2 z_19).2 z_20
    refine j_astoreN (pc := 5) (lv' := [(0, .ref ax), (1, .int x1), (2, .int x2), (3, .int x3), (4, .null)]) C [1, 2, 3, 4, 0] dX6_sample_5 (by decide) rfl ?_
    refine j_aloadN (pc := 7) C dX6_sample_7 4 rfl ?_
    refine j_ifnullN (pc := 9) C 30 dX6_sample_9 (by decide) ?_
    refine j_iconst (pc := 30) (v := (-1)) C dX6_sample_30 (by decide) ?_
    exact j_iret (pc := 31) C hr (x, a0, a1, b) rfl hw dX6_sample_31

def rmX6_best : Room := { frames := 2, cells := 0, slots := 0, locals := 44 }
theorem hiX6_best_X5 : ∀ w ∈ u_ws RX5 TX5 16, w ∈ wsX6_best := by decide +kernel
theorem lkX6_best_153 : Cond.fieldLink yX6_best.cls 153 (TX5 1).1 (TX5 1).2.1 (TX5 1).2.2.1 ∈ wsX6_best := by decide +kernel
def wX6_best (N : Nat) (x : jXS) (a0 a1 : jSS) (b : jGS) (x1 : Int32) (x2 : Int32) (post : Int32 → jXS → jSS → jSS → jGS → Prop) : Prop := ((x1 = 0) → (∀ r_13 : Int32, r_13 = jwithin x2 1 10 → ((¬ r_13 = 0) → (wX4_greatestOfLast N a0 x2 (fun r_15 a_16 => post r_15 x a_16 a1 b))) ∧ ((r_13 = 0) → (post ((-2)) x a0 a1 b)))) ∧ ((¬ x1 = 0) → (((x1 = 1) → (∀ r_17 : Int32, r_17 = jwithin x2 1 10 → ((¬ r_17 = 0) → (wX4_greatestOfLast N a1 x2 (fun r_19 a_20 => post r_19 x a0 a_20 b))) ∧ ((r_17 = 0) → (post ((-2)) x a0 a1 b)))) ∧ ((¬ x1 = 1) → (post ((-1)) x a0 a1 b))))
set_option maxHeartbeats 4000000 in
set_option maxRecDepth 100000 in
theorem mX6_best {l : Launch} {D : va_G} {cI cJ cZ cO : ClassId} {f0 f1 h : Nat → Nat} {ax : Nat} {N : Nat} {x : jXS} {a0 a1 : jSS} {b : jGS} {x1 : Int32} {x2 : Int32} {post : Int32 → jXS → jSS → jSS → jGS → Prop} (hw : wX6_best N x a0 a1 b x1 x2 post) : jMi l D (jT cI cJ cZ cO) gz yX6_best wsX6_best rmX6_best [.ref ax, .int x1, .int x2] (acells f0 cI cO (bY h cO (scells f1 cI cO a1 ++ xcell h f0 f1 ax x) b) a0) (fun r (u : jMS) => post r u.1 u.2.1 u.2.2.1 u.2.2.2) (mF f0 f1 h ax cI cO) 0 0 := by
  refine j_ofi (cc := cX6_best) (maxL := 4) (ret := (some .int)) (by decide) rfl (Nat.le_of_ble_eq_true rfl) ?_
  intro p e s m args below meth c A C hr hnm hG
  refine j_sub (lv' := [(0, .ref ax), (1, .int x1), (2, .int x2)]) [0, 1, 2] rfl ?_
  unfold wX6_best at hw
  refine j_aload_n (pc := 0) C dX6_best_0 0 rfl rfl ?_
  refine j_iload_n (pc := 1) C dX6_best_1 1 rfl rfl ?_
  refine j_senderOf (pc := 2) C gz_ok hG (s0 := x1) mX6_senderOf gX6_best_X6_senderOf (by decide +kernel) ⟨Nat.le_of_ble_eq_true rfl, Nat.le_of_ble_eq_true rfl⟩ 22 (e_at f0 f1 h f0 f1 ax cI cO a0 a1 x b) rfl (Nat.le_of_ble_eq_true rfl) dX6_best_2 ⟨Nat.le_refl _, Nat.le_refl _⟩ (fun z_11 => ?_) (fun z_11 z_12 => ?_) (fun z_11 z_12 => ?_)
  · have hw := hw.1 z_11
    refine j_astore_n (pc := 5) (lv' := [(0, .ref ax), (1, .int x1), (2, .int x2), (3, .ref (f0 0))]) C [1, 2, 3, 0] dX6_best_5 rfl (by decide) rfl ?_
    refine j_aload_n (pc := 6) C dX6_best_6 3 rfl rfl ?_
    refine j_ifnonnull (pc := 7) C 12 dX6_best_7 (by decide) ?_
    refine j_iload_n (pc := 12) C dX6_best_12 2 rfl rfl ?_
    refine j_iconst (pc := 13) (v := 1) C dX6_best_13 (by decide) ?_
    refine j_bipush (pc := 14) (v := 10) C dX6_best_14 (by decide) ?_
    refine j_scalli (pc := 16) C 3 (mX6_within x2 1 10) gX6_best_X6_within rfl rfl rfl (by decide +kernel) ⟨Nat.le_of_ble_eq_true rfl, Nat.le_of_ble_eq_true rfl⟩ rfl rfl (Nat.le_of_ble_eq_true rfl) dX6_best_16 ⟨Nat.le_refl _, Nat.le_refl _⟩ (fun r_13 er_13 => ?_)
    have hw := hw r_13 er_13
    refine j_if_ne (pc := 19) C 25 dX6_best_19 (by decide) (fun z_14 => ?_) (fun z_14 => ?_)
    · have hw := hw.1 z_14
      refine j_aload_n (pc := 25) C dX6_best_25 3 rfl rfl ?_
      refine j_get (ref := RX5) (pc := 26) C hiX6_best_X5 0 (c_at0 f0 cI cO (bY h cO (scells f1 cI cO a1 ++ xcell h f0 f1 ax x) b) a0) rfl 1 (by decide) lkX6_best_153 (c_fl0_1 f0 a0) dX6_best_26 ?_
      refine j_iload_n (pc := 29) C dX6_best_29 2 rfl rfl ?_
      refine j_calli0 (pc := 30) C gz_ok hG 1 (mX4_greatestOfLast hw) gX6_best_X4_greatestOfLast rfl rfl rfl (by decide +kernel) ⟨Nat.le_of_ble_eq_true rfl, Nat.le_of_ble_eq_true rfl⟩ 2 (c_at2 f0 cI cO (bY h cO (scells f1 cI cO a1 ++ xcell h f0 f1 ax x) b) a0) rfl rfl rfl (Nat.le_of_ble_eq_true rfl) dX6_best_30 ⟨Nat.le_refl _, Nat.le_refl _⟩ (fun r_15 a_16 hw => ?_)
      exact j_iret (pc := 33) C hr (x, a_16, a1, b) rfl hw dX6_best_33
    · have hw := hw.2 z_14
      refine j_bipush (pc := 22) (v := (-2)) C dX6_best_22 (by decide) ?_
      exact j_iret (pc := 24) C hr (x, a0, a1, b) rfl hw dX6_best_24
  · have hw := (hw.2 z_11).1 z_12
    refine j_astore_n (pc := 5) (lv' := [(0, .ref ax), (1, .int x1), (2, .int x2), (3, .ref (f1 0))]) C [1, 2, 3, 0] dX6_best_5 rfl (by decide) rfl ?_
    refine j_aload_n (pc := 6) C dX6_best_6 3 rfl rfl ?_
    refine j_ifnonnull (pc := 7) C 12 dX6_best_7 (by decide) ?_
    refine j_iload_n (pc := 12) C dX6_best_12 2 rfl rfl ?_
    refine j_iconst (pc := 13) (v := 1) C dX6_best_13 (by decide) ?_
    refine j_bipush (pc := 14) (v := 10) C dX6_best_14 (by decide) ?_
    refine j_scalli (pc := 16) C 3 (mX6_within x2 1 10) gX6_best_X6_within rfl rfl rfl (by decide +kernel) ⟨Nat.le_of_ble_eq_true rfl, Nat.le_of_ble_eq_true rfl⟩ rfl rfl (Nat.le_of_ble_eq_true rfl) dX6_best_16 ⟨Nat.le_refl _, Nat.le_refl _⟩ (fun r_17 er_17 => ?_)
    have hw := hw r_17 er_17
    refine j_if_ne (pc := 19) C 25 dX6_best_19 (by decide) (fun z_18 => ?_) (fun z_18 => ?_)
    · have hw := hw.1 z_18
      refine j_aload_n (pc := 25) C dX6_best_25 3 rfl rfl ?_
      refine j_swap ?_
      refine j_get (ref := RX5) (pc := 26) C hiX6_best_X5 0 (c_at0 f1 cI cO (bY h cO (scells f0 cI cO a0 ++ xcell h f0 f1 ax x) b) a1) rfl 1 (by decide) lkX6_best_153 (c_fl0_1 f1 a1) dX6_best_26 ?_
      refine j_iload_n (pc := 29) C dX6_best_29 2 rfl rfl ?_
      refine j_calli0 (pc := 30) C gz_ok hG 1 (mX4_greatestOfLast hw) gX6_best_X4_greatestOfLast rfl rfl rfl (by decide +kernel) ⟨Nat.le_of_ble_eq_true rfl, Nat.le_of_ble_eq_true rfl⟩ 2 (c_at2 f1 cI cO (bY h cO (scells f0 cI cO a0 ++ xcell h f0 f1 ax x) b) a1) rfl rfl rfl (Nat.le_of_ble_eq_true rfl) dX6_best_30 ⟨Nat.le_refl _, Nat.le_refl _⟩ (fun r_19 a_20 hw => ?_)
      refine j_swap ?_
      exact j_iret (pc := 33) C hr (x, a0, a_20, b) rfl hw dX6_best_33
    · have hw := hw.2 z_18
      refine j_bipush (pc := 22) (v := (-2)) C dX6_best_22 (by decide) ?_
      exact j_iret (pc := 24) C hr (x, a0, a1, b) rfl hw dX6_best_24
  · have hw := (hw.2 z_11).2 z_12
    refine j_astore_nN (pc := 5) (lv' := [(0, .ref ax), (1, .int x1), (2, .int x2), (3, .null)]) C [1, 2, 3, 0] dX6_best_5 rfl (by decide) rfl ?_
    refine j_aload_nN (pc := 6) C dX6_best_6 3 rfl rfl ?_
    refine j_ifnonnullN (pc := 7) C dX6_best_7 ?_
    refine j_iconst (pc := 10) (v := (-1)) C dX6_best_10 (by decide) ?_
    exact j_iret (pc := 11) C hr (x, a0, a1, b) rfl hw dX6_best_11

def rmX6_letter : Room := { frames := 1, cells := 0, slots := 0, locals := 21 }
theorem hiX6_letter_X5 : ∀ w ∈ u_ws RX5 TX5 16, w ∈ wsX6_letter := by decide +kernel
theorem hiX6_letter_X2 : ∀ w ∈ u_ws RX2 TX2 8, w ∈ wsX6_letter := by decide +kernel
theorem lkX6_letter_101 : Cond.fieldLink yX6_letter.cls 101 (TX5 0).1 (TX5 0).2.1 (TX5 0).2.2.1 ∈ wsX6_letter := by decide +kernel
theorem lkX6_letter_174 : Cond.fieldLink yX6_letter.cls 174 (TX2 1).1 (TX2 1).2.1 (TX2 1).2.2.1 ∈ wsX6_letter := by decide +kernel
theorem lkX6_letter_179 : Cond.fieldLink yX6_letter.cls 179 (TX2 2).1 (TX2 2).2.1 (TX2 2).2.2.1 ∈ wsX6_letter := by decide +kernel
theorem lkX6_letter_180 : Cond.fieldLink yX6_letter.cls 180 (TX2 5).1 (TX2 5).2.1 (TX2 5).2.2.1 ∈ wsX6_letter := by decide +kernel
theorem lkX6_letter_184 : Cond.fieldLink yX6_letter.cls 184 (TX2 6).1 (TX2 6).2.1 (TX2 6).2.2.1 ∈ wsX6_letter := by decide +kernel
def wX6_letter (N : Nat) (x : jXS) (a0 a1 : jSS) (b : jGS) (x1 : Int32) (x2 : Int32) (x3 : Int32) (post : Int32 → jXS → jSS → jSS → jGS → Prop) : Prop := ((x1 = 0) → (wX3_at N a0 x2 (fun r_33 a_34 => ((r_33 = none) → (post ((-1)) x a_34 a1 b)) ∧ (∀ q_36 : Nat, r_33 = some q_36 → (((x3 = 0) → (q_36 ∈ gLP b ∧ post (gF b q_36 1) x a_34 a1 b)) ∧ ((¬ x3 = 0) → (((x3 = 1) → (q_36 ∈ gLP b ∧ post (gF b q_36 2) x a_34 a1 b)) ∧ ((¬ x3 = 1) → (((x3 = 2) → (q_36 ∈ gLP b ∧ ∀ r_43 : Int32, r_43 = jasNumber (gF b q_36 5) → post r_43 x a_34 a1 b)) ∧ ((¬ x3 = 2) → (((x3 = 3) → (q_36 ∈ gLP b ∧ ∀ r_46 : Int32, r_46 = jasNumber (gF b q_36 6) → post r_46 x a_34 a1 b)) ∧ ((¬ x3 = 3) → (post ((-2)) x a_34 a1 b))))))))))))) ∧ ((¬ x1 = 0) → (((x1 = 1) → (wX3_at N a1 x2 (fun r_47 a_48 => ((r_47 = none) → (post ((-1)) x a0 a_48 b)) ∧ (∀ q_50 : Nat, r_47 = some q_50 → (((x3 = 0) → (q_50 ∈ gLP b ∧ post (gF b q_50 1) x a0 a_48 b)) ∧ ((¬ x3 = 0) → (((x3 = 1) → (q_50 ∈ gLP b ∧ post (gF b q_50 2) x a0 a_48 b)) ∧ ((¬ x3 = 1) → (((x3 = 2) → (q_50 ∈ gLP b ∧ ∀ r_57 : Int32, r_57 = jasNumber (gF b q_50 5) → post r_57 x a0 a_48 b)) ∧ ((¬ x3 = 2) → (((x3 = 3) → (q_50 ∈ gLP b ∧ ∀ r_60 : Int32, r_60 = jasNumber (gF b q_50 6) → post r_60 x a0 a_48 b)) ∧ ((¬ x3 = 3) → (post ((-2)) x a0 a_48 b))))))))))))) ∧ ((¬ x1 = 1) → (post ((-1)) x a0 a1 b))))
set_option maxHeartbeats 4000000 in
set_option maxRecDepth 100000 in
theorem mX6_letter {l : Launch} {D : va_G} {cI cJ cZ cO : ClassId} {f0 f1 h : Nat → Nat} {ax : Nat} {N : Nat} {x : jXS} {a0 a1 : jSS} {b : jGS} {x1 : Int32} {x2 : Int32} {x3 : Int32} {post : Int32 → jXS → jSS → jSS → jGS → Prop} (hw : wX6_letter N x a0 a1 b x1 x2 x3 post) : jMi l D (jT cI cJ cZ cO) gz yX6_letter wsX6_letter rmX6_letter [.ref ax, .int x1, .int x2, .int x3] (acells f0 cI cO (bY h cO (scells f1 cI cO a1 ++ xcell h f0 f1 ax x) b) a0) (fun r (u : jMS) => post r u.1 u.2.1 u.2.2.1 u.2.2.2) (mF f0 f1 h ax cI cO) 0 0 := by
  refine j_ofi (cc := cX6_letter) (maxL := 6) (ret := (some .int)) (by decide) rfl (Nat.le_of_ble_eq_true rfl) ?_
  intro p e s m args below meth c A C hr hnm hG
  refine j_sub (lv' := [(0, .ref ax), (1, .int x1), (2, .int x2), (3, .int x3)]) [0, 1, 2, 3] rfl ?_
  unfold wX6_letter at hw
  refine j_aload_n (pc := 0) C dX6_letter_0 0 rfl rfl ?_
  refine j_iload_n (pc := 1) C dX6_letter_1 1 rfl rfl ?_
  refine j_senderOf (pc := 2) C gz_ok hG (s0 := x1) mX6_senderOf gX6_letter_X6_senderOf (by decide +kernel) ⟨Nat.le_of_ble_eq_true rfl, Nat.le_of_ble_eq_true rfl⟩ 22 (e_at f0 f1 h f0 f1 ax cI cO a0 a1 x b) rfl (Nat.le_of_ble_eq_true rfl) dX6_letter_2 ⟨Nat.le_refl _, Nat.le_refl _⟩ (fun z_31 => ?_) (fun z_31 z_32 => ?_) (fun z_31 z_32 => ?_)
  · have hw := hw.1 z_31
    refine j_astore (pc := 5) (lv' := [(0, .ref ax), (1, .int x1), (2, .int x2), (3, .int x3), (4, .ref (f0 0))]) C [1, 2, 3, 4, 0] dX6_letter_5 (by decide) rfl ?_
    refine j_aload (pc := 7) C dX6_letter_7 4 rfl ?_
    refine j_ifnonnull (pc := 9) C 16 dX6_letter_9 (by decide) ?_
    refine j_aload (pc := 16) C dX6_letter_16 4 rfl ?_
    refine j_get (ref := RX5) (pc := 18) C hiX6_letter_X5 0 (c_at0 f0 cI cO (bY h cO (scells f1 cI cO a1 ++ xcell h f0 f1 ax x) b) a0) rfl 0 (by decide) lkX6_letter_101 (c_fl0_0 f0 a0) dX6_letter_18 ?_
    refine j_iload_n (pc := 21) C dX6_letter_21 2 rfl rfl ?_
    refine j_callq0 (pc := 22) C gz_ok hG 1 (mX3_at hw) gX6_letter_X3_at rfl rfl rfl (by decide +kernel) ⟨Nat.le_of_ble_eq_true rfl, Nat.le_of_ble_eq_true rfl⟩ 1 (c_at1 f0 cI cO (bY h cO (scells f1 cI cO a1 ++ xcell h f0 f1 ax x) b) a0) rfl rfl rfl (Nat.le_of_ble_eq_true rfl) dX6_letter_22 ⟨Nat.le_refl _, Nat.le_refl _⟩ (fun r_33 a_34 hw => ?_)
    refine j_opt (fun z_35 => ?_) (fun q_36 z_35 => ?_)
    · have hw := hw.1 z_35
      refine j_astoreN (pc := 25) (lv' := [(0, .ref ax), (1, .int x1), (2, .int x2), (3, .int x3), (4, .ref (f0 0)), (5, .null)]) C [1, 2, 3, 4, 5, 0] dX6_letter_25 (by decide) rfl ?_
      refine j_aloadN (pc := 27) C dX6_letter_27 5 rfl ?_
      refine j_ifnonnullN (pc := 29) C dX6_letter_29 ?_
      refine j_iconst (pc := 32) (v := (-1)) C dX6_letter_32 (by decide) ?_
      exact j_iret (pc := 33) C hr (x, a_34, a1, b) rfl hw dX6_letter_33
    · have hw := hw.2 q_36 z_35
      refine j_astore (pc := 25) (lv' := [(0, .ref ax), (1, .int x1), (2, .int x2), (3, .int x3), (4, .ref (f0 0)), (5, .ref q_36)]) C [1, 2, 3, 4, 5, 0] dX6_letter_25 (by decide) rfl ?_
      refine j_aload (pc := 27) C dX6_letter_27 5 rfl ?_
      refine j_ifnonnull (pc := 29) C 34 dX6_letter_29 (by decide) ?_
      refine j_iload_n (pc := 34) C dX6_letter_34 3 rfl rfl ?_
      by_cases z_37 : x3 = 0
      · have hw := hw.1 z_37
        refine j_tableIn (pc := 35) C 64 dX6_letter_35 (by rw [z_37]; decide) (by rw [z_37]; decide) (by rw [z_37]; rfl) (by decide) ?_
        refine j_aload (pc := 64) C dX6_letter_64 5 rfl ?_
        obtain ⟨h_38, hw⟩ := hw
        refine j_getL (pc := 66) C h_38 hiX6_letter_X2 1 (by decide) lkX6_letter_174 (c_flL_1 b q_36) dX6_letter_66 ?_
        exact j_iret (pc := 69) C hr (x, a_34, a1, b) rfl hw dX6_letter_69
      · have hw := hw.2 z_37
        by_cases z_39 : x3 = 1
        · have hw := hw.1 z_39
          refine j_tableIn (pc := 35) C 70 dX6_letter_35 (by rw [z_39]; decide) (by rw [z_39]; decide) (by rw [z_39]; rfl) (by decide) ?_
          refine j_aload (pc := 70) C dX6_letter_70 5 rfl ?_
          obtain ⟨h_40, hw⟩ := hw
          refine j_getL (pc := 72) C h_40 hiX6_letter_X2 2 (by decide) lkX6_letter_179 (c_flL_2 b q_36) dX6_letter_72 ?_
          exact j_iret (pc := 75) C hr (x, a_34, a1, b) rfl hw dX6_letter_75
        · have hw := hw.2 z_39
          by_cases z_41 : x3 = 2
          · have hw := hw.1 z_41
            refine j_tableIn (pc := 35) C 76 dX6_letter_35 (by rw [z_41]; decide) (by rw [z_41]; decide) (by rw [z_41]; rfl) (by decide) ?_
            refine j_aload (pc := 76) C dX6_letter_76 5 rfl ?_
            obtain ⟨h_42, hw⟩ := hw
            refine j_getL (pc := 78) C h_42 hiX6_letter_X2 5 (by decide) lkX6_letter_180 (c_flL_5 b q_36) dX6_letter_78 ?_
            refine j_scalli (pc := 81) C 1 (mX6_asNumber (gF b q_36 5)) gX6_letter_X6_asNumber rfl rfl rfl (by decide +kernel) ⟨Nat.le_of_ble_eq_true rfl, Nat.le_of_ble_eq_true rfl⟩ rfl rfl (Nat.le_of_ble_eq_true rfl) dX6_letter_81 ⟨Nat.le_refl _, Nat.le_refl _⟩ (fun r_43 er_43 => ?_)
            have hw := hw r_43 er_43
            exact j_iret (pc := 84) C hr (x, a_34, a1, b) rfl hw dX6_letter_84
          · have hw := hw.2 z_41
            by_cases z_44 : x3 = 3
            · have hw := hw.1 z_44
              refine j_tableIn (pc := 35) C 85 dX6_letter_35 (by rw [z_44]; decide) (by rw [z_44]; decide) (by rw [z_44]; rfl) (by decide) ?_
              refine j_aload (pc := 85) C dX6_letter_85 5 rfl ?_
              obtain ⟨h_45, hw⟩ := hw
              refine j_getL (pc := 87) C h_45 hiX6_letter_X2 6 (by decide) lkX6_letter_184 (c_flL_6 b q_36) dX6_letter_87 ?_
              refine j_scalli (pc := 90) C 1 (mX6_asNumber (gF b q_36 6)) gX6_letter_X6_asNumber rfl rfl rfl (by decide +kernel) ⟨Nat.le_of_ble_eq_true rfl, Nat.le_of_ble_eq_true rfl⟩ rfl rfl (Nat.le_of_ble_eq_true rfl) dX6_letter_90 ⟨Nat.le_refl _, Nat.le_refl _⟩ (fun r_46 er_46 => ?_)
              have hw := hw r_46 er_46
              exact j_iret (pc := 93) C hr (x, a_34, a1, b) rfl hw dX6_letter_93
            · have hw := hw.2 z_44
              have q0 := j_ne z_37 0 (by decide)
              have q1 := j_ne z_39 1 (by decide)
              have q2 := j_ne z_41 2 (by decide)
              have q3 := j_ne z_44 3 (by decide)
              refine j_tableOut (pc := 35) C 94 dX6_letter_35 (by omega) (by decide) ?_
              refine j_bipush (pc := 94) (v := (-2)) C dX6_letter_94 (by decide) ?_
              exact j_iret (pc := 96) C hr (x, a_34, a1, b) rfl hw dX6_letter_96
  · have hw := (hw.2 z_31).1 z_32
    refine j_astore (pc := 5) (lv' := [(0, .ref ax), (1, .int x1), (2, .int x2), (3, .int x3), (4, .ref (f1 0))]) C [1, 2, 3, 4, 0] dX6_letter_5 (by decide) rfl ?_
    refine j_aload (pc := 7) C dX6_letter_7 4 rfl ?_
    refine j_ifnonnull (pc := 9) C 16 dX6_letter_9 (by decide) ?_
    refine j_aload (pc := 16) C dX6_letter_16 4 rfl ?_
    refine j_swap ?_
    refine j_get (ref := RX5) (pc := 18) C hiX6_letter_X5 0 (c_at0 f1 cI cO (bY h cO (scells f0 cI cO a0 ++ xcell h f0 f1 ax x) b) a1) rfl 0 (by decide) lkX6_letter_101 (c_fl0_0 f1 a1) dX6_letter_18 ?_
    refine j_iload_n (pc := 21) C dX6_letter_21 2 rfl rfl ?_
    refine j_callq0 (pc := 22) C gz_ok hG 1 (mX3_at hw) gX6_letter_X3_at rfl rfl rfl (by decide +kernel) ⟨Nat.le_of_ble_eq_true rfl, Nat.le_of_ble_eq_true rfl⟩ 1 (c_at1 f1 cI cO (bY h cO (scells f0 cI cO a0 ++ xcell h f0 f1 ax x) b) a1) rfl rfl rfl (Nat.le_of_ble_eq_true rfl) dX6_letter_22 ⟨Nat.le_refl _, Nat.le_refl _⟩ (fun r_47 a_48 hw => ?_)
    refine j_opt (fun z_49 => ?_) (fun q_50 z_49 => ?_)
    · have hw := hw.1 z_49
      refine j_astoreN (pc := 25) (lv' := [(0, .ref ax), (1, .int x1), (2, .int x2), (3, .int x3), (4, .ref (f1 0)), (5, .null)]) C [1, 2, 3, 4, 5, 0] dX6_letter_25 (by decide) rfl ?_
      refine j_aloadN (pc := 27) C dX6_letter_27 5 rfl ?_
      refine j_ifnonnullN (pc := 29) C dX6_letter_29 ?_
      refine j_iconst (pc := 32) (v := (-1)) C dX6_letter_32 (by decide) ?_
      refine j_swap ?_
      exact j_iret (pc := 33) C hr (x, a0, a_48, b) rfl hw dX6_letter_33
    · have hw := hw.2 q_50 z_49
      refine j_astore (pc := 25) (lv' := [(0, .ref ax), (1, .int x1), (2, .int x2), (3, .int x3), (4, .ref (f1 0)), (5, .ref q_50)]) C [1, 2, 3, 4, 5, 0] dX6_letter_25 (by decide) rfl ?_
      refine j_aload (pc := 27) C dX6_letter_27 5 rfl ?_
      refine j_ifnonnull (pc := 29) C 34 dX6_letter_29 (by decide) ?_
      refine j_iload_n (pc := 34) C dX6_letter_34 3 rfl rfl ?_
      by_cases z_51 : x3 = 0
      · have hw := hw.1 z_51
        refine j_tableIn (pc := 35) C 64 dX6_letter_35 (by rw [z_51]; decide) (by rw [z_51]; decide) (by rw [z_51]; rfl) (by decide) ?_
        refine j_aload (pc := 64) C dX6_letter_64 5 rfl ?_
        obtain ⟨h_52, hw⟩ := hw
        refine j_getL (pc := 66) C h_52 hiX6_letter_X2 1 (by decide) lkX6_letter_174 (c_flL_1 b q_50) dX6_letter_66 ?_
        refine j_swap ?_
        exact j_iret (pc := 69) C hr (x, a0, a_48, b) rfl hw dX6_letter_69
      · have hw := hw.2 z_51
        by_cases z_53 : x3 = 1
        · have hw := hw.1 z_53
          refine j_tableIn (pc := 35) C 70 dX6_letter_35 (by rw [z_53]; decide) (by rw [z_53]; decide) (by rw [z_53]; rfl) (by decide) ?_
          refine j_aload (pc := 70) C dX6_letter_70 5 rfl ?_
          obtain ⟨h_54, hw⟩ := hw
          refine j_getL (pc := 72) C h_54 hiX6_letter_X2 2 (by decide) lkX6_letter_179 (c_flL_2 b q_50) dX6_letter_72 ?_
          refine j_swap ?_
          exact j_iret (pc := 75) C hr (x, a0, a_48, b) rfl hw dX6_letter_75
        · have hw := hw.2 z_53
          by_cases z_55 : x3 = 2
          · have hw := hw.1 z_55
            refine j_tableIn (pc := 35) C 76 dX6_letter_35 (by rw [z_55]; decide) (by rw [z_55]; decide) (by rw [z_55]; rfl) (by decide) ?_
            refine j_aload (pc := 76) C dX6_letter_76 5 rfl ?_
            obtain ⟨h_56, hw⟩ := hw
            refine j_getL (pc := 78) C h_56 hiX6_letter_X2 5 (by decide) lkX6_letter_180 (c_flL_5 b q_50) dX6_letter_78 ?_
            refine j_scalli (pc := 81) C 1 (mX6_asNumber (gF b q_50 5)) gX6_letter_X6_asNumber rfl rfl rfl (by decide +kernel) ⟨Nat.le_of_ble_eq_true rfl, Nat.le_of_ble_eq_true rfl⟩ rfl rfl (Nat.le_of_ble_eq_true rfl) dX6_letter_81 ⟨Nat.le_refl _, Nat.le_refl _⟩ (fun r_57 er_57 => ?_)
            have hw := hw r_57 er_57
            refine j_swap ?_
            exact j_iret (pc := 84) C hr (x, a0, a_48, b) rfl hw dX6_letter_84
          · have hw := hw.2 z_55
            by_cases z_58 : x3 = 3
            · have hw := hw.1 z_58
              refine j_tableIn (pc := 35) C 85 dX6_letter_35 (by rw [z_58]; decide) (by rw [z_58]; decide) (by rw [z_58]; rfl) (by decide) ?_
              refine j_aload (pc := 85) C dX6_letter_85 5 rfl ?_
              obtain ⟨h_59, hw⟩ := hw
              refine j_getL (pc := 87) C h_59 hiX6_letter_X2 6 (by decide) lkX6_letter_184 (c_flL_6 b q_50) dX6_letter_87 ?_
              refine j_scalli (pc := 90) C 1 (mX6_asNumber (gF b q_50 6)) gX6_letter_X6_asNumber rfl rfl rfl (by decide +kernel) ⟨Nat.le_of_ble_eq_true rfl, Nat.le_of_ble_eq_true rfl⟩ rfl rfl (Nat.le_of_ble_eq_true rfl) dX6_letter_90 ⟨Nat.le_refl _, Nat.le_refl _⟩ (fun r_60 er_60 => ?_)
              have hw := hw r_60 er_60
              refine j_swap ?_
              exact j_iret (pc := 93) C hr (x, a0, a_48, b) rfl hw dX6_letter_93
            · have hw := hw.2 z_58
              have q0 := j_ne z_51 0 (by decide)
              have q1 := j_ne z_53 1 (by decide)
              have q2 := j_ne z_55 2 (by decide)
              have q3 := j_ne z_58 3 (by decide)
              refine j_tableOut (pc := 35) C 94 dX6_letter_35 (by omega) (by decide) ?_
              refine j_bipush (pc := 94) (v := (-2)) C dX6_letter_94 (by decide) ?_
              refine j_swap ?_
              exact j_iret (pc := 96) C hr (x, a0, a_48, b) rfl hw dX6_letter_96
  · have hw := (hw.2 z_31).2 z_32
    refine j_astoreN (pc := 5) (lv' := [(0, .ref ax), (1, .int x1), (2, .int x2), (3, .int x3), (4, .null)]) C [1, 2, 3, 4, 0] dX6_letter_5 (by decide) rfl ?_
    refine j_aloadN (pc := 7) C dX6_letter_7 4 rfl ?_
    refine j_ifnonnullN (pc := 9) C dX6_letter_9 ?_
    refine j_aconst_null (pc := 12) C dX6_letter_12 ?_
    refine j_goto (pc := 13) C 25 dX6_letter_13 (by decide) ?_
    refine j_astoreN (pc := 25) (lv' := [(0, .ref ax), (1, .int x1), (2, .int x2), (3, .int x3), (4, .null), (5, .null)]) C [1, 2, 3, 4, 5, 0] dX6_letter_25 (by decide) rfl ?_
    refine j_aloadN (pc := 27) C dX6_letter_27 5 rfl ?_
    refine j_ifnonnullN (pc := 29) C dX6_letter_29 ?_
    refine j_iconst (pc := 32) (v := (-1)) C dX6_letter_32 (by decide) ?_
    exact j_iret (pc := 33) C hr (x, a0, a1, b) rfl hw dX6_letter_33

def rmX6_phase : Room := { frames := 1, cells := 0, slots := 0, locals := 22 }
theorem hiX6_phase_X5 : ∀ w ∈ u_ws RX5 TX5 16, w ∈ wsX6_phase := by decide +kernel
theorem hiX6_phase_X0 : ∀ w ∈ u_ws RX0 TX0 12, w ∈ wsX6_phase := by decide +kernel
theorem hiX6_phase_X6 : ∀ w ∈ u_ws RX6 TX6 6, w ∈ wsX6_phase := by decide +kernel
theorem lkX6_phase_92 : Cond.fieldLink yX6_phase.cls 92 (TX5 2).1 (TX5 2).2.1 (TX5 2).2.2.1 ∈ wsX6_phase := by decide +kernel
theorem lkX6_phase_96 : Cond.fieldLink yX6_phase.cls 96 (TX0 0).1 (TX0 0).2.1 (TX0 0).2.2.1 ∈ wsX6_phase := by decide +kernel
theorem lkX6_phase_85 : Cond.fieldLink yX6_phase.cls 85 (TX6 3).1 (TX6 3).2.1 (TX6 3).2.2.1 ∈ wsX6_phase := by decide +kernel
theorem lkX6_phase_190 : Cond.fieldLink yX6_phase.cls 190 (TX0 2).1 (TX0 2).2.1 (TX0 2).2.2.1 ∈ wsX6_phase := by decide +kernel
theorem lkX6_phase_187 : Cond.fieldLink yX6_phase.cls 187 (TX0 1).1 (TX0 1).2.1 (TX0 1).2.2.1 ∈ wsX6_phase := by decide +kernel
def wX6_phase (N : Nat) (x : jXS) (a0 a1 : jSS) (b : jGS) (x1 : Int32) (x2 : Int32) (post : Int32 → jXS → jSS → jSS → jGS → Prop) : Prop := ((x1 = 0) → (∀ r_13 : Int32, r_13 = jwithin x2 0 1 → ((¬ r_13 = 0) → ((((a0.1 3 0) = 2) → (((¬ x2 = 0) → (post ((x 3) - (a0.1 3 2)) x a0 a1 b)) ∧ ((x2 = 0) → (post (a0.1 3 1) x a0 a1 b)))) ∧ ((¬ (a0.1 3 0) = 2) → (post ((-9)) x a0 a1 b)))) ∧ ((r_13 = 0) → (post ((-2)) x a0 a1 b)))) ∧ ((¬ x1 = 0) → (((x1 = 1) → (∀ r_17 : Int32, r_17 = jwithin x2 0 1 → ((¬ r_17 = 0) → ((((a1.1 3 0) = 2) → (((¬ x2 = 0) → (post ((x 3) - (a1.1 3 2)) x a0 a1 b)) ∧ ((x2 = 0) → (post (a1.1 3 1) x a0 a1 b)))) ∧ ((¬ (a1.1 3 0) = 2) → (post ((-9)) x a0 a1 b)))) ∧ ((r_17 = 0) → (post ((-2)) x a0 a1 b)))) ∧ ((¬ x1 = 1) → (post ((-1)) x a0 a1 b))))
set_option maxHeartbeats 4000000 in
set_option maxRecDepth 100000 in
theorem mX6_phase {l : Launch} {D : va_G} {cI cJ cZ cO : ClassId} {f0 f1 h : Nat → Nat} {ax : Nat} {N : Nat} {x : jXS} {a0 a1 : jSS} {b : jGS} {x1 : Int32} {x2 : Int32} {post : Int32 → jXS → jSS → jSS → jGS → Prop} (hw : wX6_phase N x a0 a1 b x1 x2 post) : jMi l D (jT cI cJ cZ cO) gz yX6_phase wsX6_phase rmX6_phase [.ref ax, .int x1, .int x2] (acells f0 cI cO (bY h cO (scells f1 cI cO a1 ++ xcell h f0 f1 ax x) b) a0) (fun r (u : jMS) => post r u.1 u.2.1 u.2.2.1 u.2.2.2) (mF f0 f1 h ax cI cO) 0 0 := by
  refine j_ofi (cc := cX6_phase) (maxL := 5) (ret := (some .int)) (by decide) rfl (Nat.le_of_ble_eq_true rfl) ?_
  intro p e s m args below meth c A C hr hnm hG
  refine j_sub (lv' := [(0, .ref ax), (1, .int x1), (2, .int x2)]) [0, 1, 2] rfl ?_
  unfold wX6_phase at hw
  refine j_aload_n (pc := 0) C dX6_phase_0 0 rfl rfl ?_
  refine j_iload_n (pc := 1) C dX6_phase_1 1 rfl rfl ?_
  refine j_senderOf (pc := 2) C gz_ok hG (s0 := x1) mX6_senderOf gX6_phase_X6_senderOf (by decide +kernel) ⟨Nat.le_of_ble_eq_true rfl, Nat.le_of_ble_eq_true rfl⟩ 22 (e_at f0 f1 h f0 f1 ax cI cO a0 a1 x b) rfl (Nat.le_of_ble_eq_true rfl) dX6_phase_2 ⟨Nat.le_refl _, Nat.le_refl _⟩ (fun z_11 => ?_) (fun z_11 z_12 => ?_) (fun z_11 z_12 => ?_)
  · have hw := hw.1 z_11
    refine j_astore_n (pc := 5) (lv' := [(0, .ref ax), (1, .int x1), (2, .int x2), (3, .ref (f0 0))]) C [1, 2, 3, 0] dX6_phase_5 rfl (by decide) rfl ?_
    refine j_aload_n (pc := 6) C dX6_phase_6 3 rfl rfl ?_
    refine j_ifnonnull (pc := 7) C 12 dX6_phase_7 (by decide) ?_
    refine j_iload_n (pc := 12) C dX6_phase_12 2 rfl rfl ?_
    refine j_iconst (pc := 13) (v := 0) C dX6_phase_13 (by decide) ?_
    refine j_iconst (pc := 14) (v := 1) C dX6_phase_14 (by decide) ?_
    refine j_scalli (pc := 15) C 3 (mX6_within x2 0 1) gX6_phase_X6_within rfl rfl rfl (by decide +kernel) ⟨Nat.le_of_ble_eq_true rfl, Nat.le_of_ble_eq_true rfl⟩ rfl rfl (Nat.le_of_ble_eq_true rfl) dX6_phase_15 ⟨Nat.le_refl _, Nat.le_refl _⟩ (fun r_13 er_13 => ?_)
    have hw := hw r_13 er_13
    refine j_if_ne (pc := 18) C 24 dX6_phase_18 (by decide) (fun z_14 => ?_) (fun z_14 => ?_)
    · have hw := hw.1 z_14
      refine j_aload_n (pc := 24) C dX6_phase_24 3 rfl rfl ?_
      refine j_get (ref := RX5) (pc := 25) C hiX6_phase_X5 0 (c_at0 f0 cI cO (bY h cO (scells f1 cI cO a1 ++ xcell h f0 f1 ax x) b) a0) rfl 2 (by decide) lkX6_phase_92 (c_fl0_2 f0 a0) dX6_phase_25 ?_
      refine j_astore (pc := 28) (lv' := [(0, .ref ax), (1, .int x1), (2, .int x2), (3, .ref (f0 0)), (4, .ref (f0 3))]) C [1, 2, 3, 4, 0] dX6_phase_28 (by decide) rfl ?_
      refine j_aload (pc := 30) C dX6_phase_30 4 rfl ?_
      refine j_get (ref := RX0) (pc := 32) C hiX6_phase_X0 3 (c_at3 f0 cI cO (bY h cO (scells f1 cI cO a1 ++ xcell h f0 f1 ax x) b) a0) rfl 0 (by decide) lkX6_phase_96 (c_fl3_0 f0 a0) dX6_phase_32 ?_
      refine j_iconst (pc := 35) (v := 2) C dX6_phase_35 (by decide) ?_
      refine j_icmp_eq (pc := 36) C 42 dX6_phase_36 (by decide) (fun z_15 => ?_) (fun z_15 => ?_)
      · have hw := hw.1 z_15
        refine j_iload_n (pc := 42) C dX6_phase_42 2 rfl rfl ?_
        refine j_if_ne (pc := 43) C 54 dX6_phase_43 (by decide) (fun z_16 => ?_) (fun z_16 => ?_)
        · have hw := hw.1 z_16
          refine j_aload_n (pc := 54) C dX6_phase_54 0 rfl rfl ?_
          refine j_get (ref := RX6) (pc := 55) C hiX6_phase_X6 22 (e_at f0 f1 h f0 f1 ax cI cO a0 a1 x b) rfl 3 (by decide) lkX6_phase_85 (e_fl3 h f0 f1 x) dX6_phase_55 ?_
          refine j_aload (pc := 58) C dX6_phase_58 4 rfl ?_
          refine j_get (ref := RX0) (pc := 60) C hiX6_phase_X0 3 (c_at3 f0 cI cO (bY h cO (scells f1 cI cO a1 ++ xcell h f0 f1 ax x) b) a0) rfl 2 (by decide) lkX6_phase_190 (c_fl3_2 f0 a0) dX6_phase_60 ?_
          refine j_isub (pc := 63) C dX6_phase_63 ?_
          exact j_iret (pc := 64) C hr (x, a0, a1, b) rfl hw dX6_phase_64
        · have hw := hw.2 z_16
          refine j_aload (pc := 46) C dX6_phase_46 4 rfl ?_
          refine j_get (ref := RX0) (pc := 48) C hiX6_phase_X0 3 (c_at3 f0 cI cO (bY h cO (scells f1 cI cO a1 ++ xcell h f0 f1 ax x) b) a0) rfl 1 (by decide) lkX6_phase_187 (c_fl3_1 f0 a0) dX6_phase_48 ?_
          refine j_goto (pc := 51) C 64 dX6_phase_51 (by decide) ?_
          exact j_iret (pc := 64) C hr (x, a0, a1, b) rfl hw dX6_phase_64
      · have hw := hw.2 z_15
        refine j_bipush (pc := 39) (v := (-9)) C dX6_phase_39 (by decide) ?_
        exact j_iret (pc := 41) C hr (x, a0, a1, b) rfl hw dX6_phase_41
    · have hw := hw.2 z_14
      refine j_bipush (pc := 21) (v := (-2)) C dX6_phase_21 (by decide) ?_
      exact j_iret (pc := 23) C hr (x, a0, a1, b) rfl hw dX6_phase_23
  · have hw := (hw.2 z_11).1 z_12
    refine j_astore_n (pc := 5) (lv' := [(0, .ref ax), (1, .int x1), (2, .int x2), (3, .ref (f1 0))]) C [1, 2, 3, 0] dX6_phase_5 rfl (by decide) rfl ?_
    refine j_aload_n (pc := 6) C dX6_phase_6 3 rfl rfl ?_
    refine j_ifnonnull (pc := 7) C 12 dX6_phase_7 (by decide) ?_
    refine j_iload_n (pc := 12) C dX6_phase_12 2 rfl rfl ?_
    refine j_iconst (pc := 13) (v := 0) C dX6_phase_13 (by decide) ?_
    refine j_iconst (pc := 14) (v := 1) C dX6_phase_14 (by decide) ?_
    refine j_scalli (pc := 15) C 3 (mX6_within x2 0 1) gX6_phase_X6_within rfl rfl rfl (by decide +kernel) ⟨Nat.le_of_ble_eq_true rfl, Nat.le_of_ble_eq_true rfl⟩ rfl rfl (Nat.le_of_ble_eq_true rfl) dX6_phase_15 ⟨Nat.le_refl _, Nat.le_refl _⟩ (fun r_17 er_17 => ?_)
    have hw := hw r_17 er_17
    refine j_if_ne (pc := 18) C 24 dX6_phase_18 (by decide) (fun z_18 => ?_) (fun z_18 => ?_)
    · have hw := hw.1 z_18
      refine j_aload_n (pc := 24) C dX6_phase_24 3 rfl rfl ?_
      refine j_swap ?_
      refine j_get (ref := RX5) (pc := 25) C hiX6_phase_X5 0 (c_at0 f1 cI cO (bY h cO (scells f0 cI cO a0 ++ xcell h f0 f1 ax x) b) a1) rfl 2 (by decide) lkX6_phase_92 (c_fl0_2 f1 a1) dX6_phase_25 ?_
      refine j_astore (pc := 28) (lv' := [(0, .ref ax), (1, .int x1), (2, .int x2), (3, .ref (f1 0)), (4, .ref (f1 3))]) C [1, 2, 3, 4, 0] dX6_phase_28 (by decide) rfl ?_
      refine j_aload (pc := 30) C dX6_phase_30 4 rfl ?_
      refine j_get (ref := RX0) (pc := 32) C hiX6_phase_X0 3 (c_at3 f1 cI cO (bY h cO (scells f0 cI cO a0 ++ xcell h f0 f1 ax x) b) a1) rfl 0 (by decide) lkX6_phase_96 (c_fl3_0 f1 a1) dX6_phase_32 ?_
      refine j_iconst (pc := 35) (v := 2) C dX6_phase_35 (by decide) ?_
      refine j_icmp_eq (pc := 36) C 42 dX6_phase_36 (by decide) (fun z_19 => ?_) (fun z_19 => ?_)
      · have hw := hw.1 z_19
        refine j_iload_n (pc := 42) C dX6_phase_42 2 rfl rfl ?_
        refine j_if_ne (pc := 43) C 54 dX6_phase_43 (by decide) (fun z_20 => ?_) (fun z_20 => ?_)
        · have hw := hw.1 z_20
          refine j_aload_n (pc := 54) C dX6_phase_54 0 rfl rfl ?_
          refine j_get (ref := RX6) (pc := 55) C hiX6_phase_X6 22 (e_at f1 f0 h f0 f1 ax cI cO a1 a0 x b) rfl 3 (by decide) lkX6_phase_85 (e_fl3 h f0 f1 x) dX6_phase_55 ?_
          refine j_aload (pc := 58) C dX6_phase_58 4 rfl ?_
          refine j_get (ref := RX0) (pc := 60) C hiX6_phase_X0 3 (c_at3 f1 cI cO (bY h cO (scells f0 cI cO a0 ++ xcell h f0 f1 ax x) b) a1) rfl 2 (by decide) lkX6_phase_190 (c_fl3_2 f1 a1) dX6_phase_60 ?_
          refine j_isub (pc := 63) C dX6_phase_63 ?_
          refine j_swap ?_
          exact j_iret (pc := 64) C hr (x, a0, a1, b) rfl hw dX6_phase_64
        · have hw := hw.2 z_20
          refine j_aload (pc := 46) C dX6_phase_46 4 rfl ?_
          refine j_get (ref := RX0) (pc := 48) C hiX6_phase_X0 3 (c_at3 f1 cI cO (bY h cO (scells f0 cI cO a0 ++ xcell h f0 f1 ax x) b) a1) rfl 1 (by decide) lkX6_phase_187 (c_fl3_1 f1 a1) dX6_phase_48 ?_
          refine j_goto (pc := 51) C 64 dX6_phase_51 (by decide) ?_
          refine j_swap ?_
          exact j_iret (pc := 64) C hr (x, a0, a1, b) rfl hw dX6_phase_64
      · have hw := hw.2 z_19
        refine j_bipush (pc := 39) (v := (-9)) C dX6_phase_39 (by decide) ?_
        refine j_swap ?_
        exact j_iret (pc := 41) C hr (x, a0, a1, b) rfl hw dX6_phase_41
    · have hw := hw.2 z_18
      refine j_bipush (pc := 21) (v := (-2)) C dX6_phase_21 (by decide) ?_
      exact j_iret (pc := 23) C hr (x, a0, a1, b) rfl hw dX6_phase_23
  · have hw := (hw.2 z_11).2 z_12
    refine j_astore_nN (pc := 5) (lv' := [(0, .ref ax), (1, .int x1), (2, .int x2), (3, .null)]) C [1, 2, 3, 0] dX6_phase_5 rfl (by decide) rfl ?_
    refine j_aload_nN (pc := 6) C dX6_phase_6 3 rfl rfl ?_
    refine j_ifnonnullN (pc := 7) C dX6_phase_7 ?_
    refine j_iconst (pc := 10) (v := (-1)) C dX6_phase_10 (by decide) ?_
    exact j_iret (pc := 11) C hr (x, a0, a1, b) rfl hw dX6_phase_11

def rmX6_model : Room := { frames := 2, cells := 0, slots := 0, locals := 42 }
theorem hiX6_model_X5 : ∀ w ∈ u_ws RX5 TX5 16, w ∈ wsX6_model := by decide +kernel
theorem hiX6_model_X0 : ∀ w ∈ u_ws RX0 TX0 12, w ∈ wsX6_model := by decide +kernel
theorem hiX6_model_X6 : ∀ w ∈ u_ws RX6 TX6 6, w ∈ wsX6_model := by decide +kernel
theorem lkX6_model_92 : Cond.fieldLink yX6_model.cls 92 (TX5 2).1 (TX5 2).2.1 (TX5 2).2.2.1 ∈ wsX6_model := by decide +kernel
theorem lkX6_model_193 : Cond.fieldLink yX6_model.cls 193 (TX0 5).1 (TX0 5).2.1 (TX0 5).2.2.1 ∈ wsX6_model := by decide +kernel
theorem lkX6_model_196 : Cond.fieldLink yX6_model.cls 196 (TX0 6).1 (TX0 6).2.1 (TX0 6).2.2.1 ∈ wsX6_model := by decide +kernel
theorem lkX6_model_199 : Cond.fieldLink yX6_model.cls 199 (TX0 7).1 (TX0 7).2.1 (TX0 7).2.2.1 ∈ wsX6_model := by decide +kernel
theorem lkX6_model_85 : Cond.fieldLink yX6_model.cls 85 (TX6 3).1 (TX6 3).2.1 (TX6 3).2.2.1 ∈ wsX6_model := by decide +kernel
theorem lkX6_model_202 : Cond.fieldLink yX6_model.cls 202 (TX5 14).1 (TX5 14).2.1 (TX5 14).2.2.1 ∈ wsX6_model := by decide +kernel
def wX6_model (N : Nat) (x : jXS) (a0 a1 : jSS) (b : jGS) (x1 : Int32) (x2 : Int32) (post : Int32 → jXS → jSS → jSS → jGS → Prop) : Prop := ((x1 = 0) → (((x2 = 0) → (∀ r_22 : Int32, r_22 = jasNumber (a0.1 3 5) → post r_22 x a0 a1 b)) ∧ ((¬ x2 = 0) → (((x2 = 1) → (post (a0.1 3 6) x a0 a1 b)) ∧ ((¬ x2 = 1) → (((x2 = 2) → (post (a0.1 3 7) x a0 a1 b)) ∧ ((¬ x2 = 2) → (((x2 = 3) → (post ((x 3) - (a0.1 0 14)) x a0 a1 b)) ∧ ((¬ x2 = 3) → (((x2 = 4) → (wX0_ticksToEnd N a0 (x 3) (fun r_27 a_28 => post r_27 x a_28 a1 b))) ∧ ((¬ x2 = 4) → (post ((-2)) x a0 a1 b)))))))))))) ∧ ((¬ x1 = 0) → (((x1 = 1) → (((x2 = 0) → (∀ r_30 : Int32, r_30 = jasNumber (a1.1 3 5) → post r_30 x a0 a1 b)) ∧ ((¬ x2 = 0) → (((x2 = 1) → (post (a1.1 3 6) x a0 a1 b)) ∧ ((¬ x2 = 1) → (((x2 = 2) → (post (a1.1 3 7) x a0 a1 b)) ∧ ((¬ x2 = 2) → (((x2 = 3) → (post ((x 3) - (a1.1 0 14)) x a0 a1 b)) ∧ ((¬ x2 = 3) → (((x2 = 4) → (wX0_ticksToEnd N a1 (x 3) (fun r_35 a_36 => post r_35 x a0 a_36 b))) ∧ ((¬ x2 = 4) → (post ((-2)) x a0 a1 b)))))))))))) ∧ ((¬ x1 = 1) → (post ((-1)) x a0 a1 b))))
set_option maxHeartbeats 4000000 in
set_option maxRecDepth 100000 in
theorem mX6_model {l : Launch} {D : va_G} {cI cJ cZ cO : ClassId} {f0 f1 h : Nat → Nat} {ax : Nat} {N : Nat} {x : jXS} {a0 a1 : jSS} {b : jGS} {x1 : Int32} {x2 : Int32} {post : Int32 → jXS → jSS → jSS → jGS → Prop} (hw : wX6_model N x a0 a1 b x1 x2 post) : jMi l D (jT cI cJ cZ cO) gz yX6_model wsX6_model rmX6_model [.ref ax, .int x1, .int x2] (acells f0 cI cO (bY h cO (scells f1 cI cO a1 ++ xcell h f0 f1 ax x) b) a0) (fun r (u : jMS) => post r u.1 u.2.1 u.2.2.1 u.2.2.2) (mF f0 f1 h ax cI cO) 0 0 := by
  refine j_ofi (cc := cX6_model) (maxL := 4) (ret := (some .int)) (by decide) rfl (Nat.le_of_ble_eq_true rfl) ?_
  intro p e s m args below meth c A C hr hnm hG
  refine j_sub (lv' := [(0, .ref ax), (1, .int x1), (2, .int x2)]) [0, 1, 2] rfl ?_
  unfold wX6_model at hw
  refine j_aload_n (pc := 0) C dX6_model_0 0 rfl rfl ?_
  refine j_iload_n (pc := 1) C dX6_model_1 1 rfl rfl ?_
  refine j_senderOf (pc := 2) C gz_ok hG (s0 := x1) mX6_senderOf gX6_model_X6_senderOf (by decide +kernel) ⟨Nat.le_of_ble_eq_true rfl, Nat.le_of_ble_eq_true rfl⟩ 22 (e_at f0 f1 h f0 f1 ax cI cO a0 a1 x b) rfl (Nat.le_of_ble_eq_true rfl) dX6_model_2 ⟨Nat.le_refl _, Nat.le_refl _⟩ (fun z_19 => ?_) (fun z_19 z_20 => ?_) (fun z_19 z_20 => ?_)
  · have hw := hw.1 z_19
    refine j_astore_n (pc := 5) (lv' := [(0, .ref ax), (1, .int x1), (2, .int x2), (3, .ref (f0 0))]) C [1, 2, 3, 0] dX6_model_5 rfl (by decide) rfl ?_
    refine j_aload_n (pc := 6) C dX6_model_6 3 rfl rfl ?_
    refine j_ifnonnull (pc := 7) C 12 dX6_model_7 (by decide) ?_
    refine j_iload_n (pc := 12) C dX6_model_12 2 rfl rfl ?_
    by_cases z_21 : x2 = 0
    · have hw := hw.1 z_21
      refine j_tableIn (pc := 13) C 48 dX6_model_13 (by rw [z_21]; decide) (by rw [z_21]; decide) (by rw [z_21]; rfl) (by decide) ?_
      refine j_aload_n (pc := 48) C dX6_model_48 3 rfl rfl ?_
      refine j_get (ref := RX5) (pc := 49) C hiX6_model_X5 0 (c_at0 f0 cI cO (bY h cO (scells f1 cI cO a1 ++ xcell h f0 f1 ax x) b) a0) rfl 2 (by decide) lkX6_model_92 (c_fl0_2 f0 a0) dX6_model_49 ?_
      refine j_get (ref := RX0) (pc := 52) C hiX6_model_X0 3 (c_at3 f0 cI cO (bY h cO (scells f1 cI cO a1 ++ xcell h f0 f1 ax x) b) a0) rfl 5 (by decide) lkX6_model_193 (c_fl3_5 f0 a0) dX6_model_52 ?_
      refine j_scalli (pc := 55) C 1 (mX6_asNumber (a0.1 3 5)) gX6_model_X6_asNumber rfl rfl rfl (by decide +kernel) ⟨Nat.le_of_ble_eq_true rfl, Nat.le_of_ble_eq_true rfl⟩ rfl rfl (Nat.le_of_ble_eq_true rfl) dX6_model_55 ⟨Nat.le_refl _, Nat.le_refl _⟩ (fun r_22 er_22 => ?_)
      have hw := hw r_22 er_22
      exact j_iret (pc := 58) C hr (x, a0, a1, b) rfl hw dX6_model_58
    · have hw := hw.2 z_21
      by_cases z_23 : x2 = 1
      · have hw := hw.1 z_23
        refine j_tableIn (pc := 13) C 59 dX6_model_13 (by rw [z_23]; decide) (by rw [z_23]; decide) (by rw [z_23]; rfl) (by decide) ?_
        refine j_aload_n (pc := 59) C dX6_model_59 3 rfl rfl ?_
        refine j_get (ref := RX5) (pc := 60) C hiX6_model_X5 0 (c_at0 f0 cI cO (bY h cO (scells f1 cI cO a1 ++ xcell h f0 f1 ax x) b) a0) rfl 2 (by decide) lkX6_model_92 (c_fl0_2 f0 a0) dX6_model_60 ?_
        refine j_get (ref := RX0) (pc := 63) C hiX6_model_X0 3 (c_at3 f0 cI cO (bY h cO (scells f1 cI cO a1 ++ xcell h f0 f1 ax x) b) a0) rfl 6 (by decide) lkX6_model_196 (c_fl3_6 f0 a0) dX6_model_63 ?_
        exact j_iret (pc := 66) C hr (x, a0, a1, b) rfl hw dX6_model_66
      · have hw := hw.2 z_23
        by_cases z_24 : x2 = 2
        · have hw := hw.1 z_24
          refine j_tableIn (pc := 13) C 67 dX6_model_13 (by rw [z_24]; decide) (by rw [z_24]; decide) (by rw [z_24]; rfl) (by decide) ?_
          refine j_aload_n (pc := 67) C dX6_model_67 3 rfl rfl ?_
          refine j_get (ref := RX5) (pc := 68) C hiX6_model_X5 0 (c_at0 f0 cI cO (bY h cO (scells f1 cI cO a1 ++ xcell h f0 f1 ax x) b) a0) rfl 2 (by decide) lkX6_model_92 (c_fl0_2 f0 a0) dX6_model_68 ?_
          refine j_get (ref := RX0) (pc := 71) C hiX6_model_X0 3 (c_at3 f0 cI cO (bY h cO (scells f1 cI cO a1 ++ xcell h f0 f1 ax x) b) a0) rfl 7 (by decide) lkX6_model_199 (c_fl3_7 f0 a0) dX6_model_71 ?_
          exact j_iret (pc := 74) C hr (x, a0, a1, b) rfl hw dX6_model_74
        · have hw := hw.2 z_24
          by_cases z_25 : x2 = 3
          · have hw := hw.1 z_25
            refine j_tableIn (pc := 13) C 75 dX6_model_13 (by rw [z_25]; decide) (by rw [z_25]; decide) (by rw [z_25]; rfl) (by decide) ?_
            refine j_aload_n (pc := 75) C dX6_model_75 0 rfl rfl ?_
            refine j_get (ref := RX6) (pc := 76) C hiX6_model_X6 22 (e_at f0 f1 h f0 f1 ax cI cO a0 a1 x b) rfl 3 (by decide) lkX6_model_85 (e_fl3 h f0 f1 x) dX6_model_76 ?_
            refine j_aload_n (pc := 79) C dX6_model_79 3 rfl rfl ?_
            refine j_get (ref := RX5) (pc := 80) C hiX6_model_X5 0 (c_at0 f0 cI cO (bY h cO (scells f1 cI cO a1 ++ xcell h f0 f1 ax x) b) a0) rfl 14 (by decide) lkX6_model_202 (c_fl0_14 f0 a0) dX6_model_80 ?_
            refine j_isub (pc := 83) C dX6_model_83 ?_
            exact j_iret (pc := 84) C hr (x, a0, a1, b) rfl hw dX6_model_84
          · have hw := hw.2 z_25
            by_cases z_26 : x2 = 4
            · have hw := hw.1 z_26
              refine j_tableIn (pc := 13) C 85 dX6_model_13 (by rw [z_26]; decide) (by rw [z_26]; decide) (by rw [z_26]; rfl) (by decide) ?_
              refine j_aload_n (pc := 85) C dX6_model_85 3 rfl rfl ?_
              refine j_get (ref := RX5) (pc := 86) C hiX6_model_X5 0 (c_at0 f0 cI cO (bY h cO (scells f1 cI cO a1 ++ xcell h f0 f1 ax x) b) a0) rfl 2 (by decide) lkX6_model_92 (c_fl0_2 f0 a0) dX6_model_86 ?_
              refine j_aload_n (pc := 89) C dX6_model_89 0 rfl rfl ?_
              refine j_get (ref := RX6) (pc := 90) C hiX6_model_X6 22 (e_at f0 f1 h f0 f1 ax cI cO a0 a1 x b) rfl 3 (by decide) lkX6_model_85 (e_fl3 h f0 f1 x) dX6_model_90 ?_
              refine j_calli0 (pc := 93) C gz_ok hG 1 (mX0_ticksToEnd hw) gX6_model_X0_ticksToEnd rfl rfl rfl (by decide +kernel) ⟨Nat.le_of_ble_eq_true rfl, Nat.le_of_ble_eq_true rfl⟩ 3 (c_at3 f0 cI cO (bY h cO (scells f1 cI cO a1 ++ xcell h f0 f1 ax x) b) a0) rfl rfl rfl (Nat.le_of_ble_eq_true rfl) dX6_model_93 ⟨Nat.le_refl _, Nat.le_refl _⟩ (fun r_27 a_28 hw => ?_)
              exact j_iret (pc := 96) C hr (x, a_28, a1, b) rfl hw dX6_model_96
            · have hw := hw.2 z_26
              have q0 := j_ne z_21 0 (by decide)
              have q1 := j_ne z_23 1 (by decide)
              have q2 := j_ne z_24 2 (by decide)
              have q3 := j_ne z_25 3 (by decide)
              have q4 := j_ne z_26 4 (by decide)
              refine j_tableOut (pc := 13) C 97 dX6_model_13 (by omega) (by decide) ?_
              refine j_bipush (pc := 97) (v := (-2)) C dX6_model_97 (by decide) ?_
              exact j_iret (pc := 99) C hr (x, a0, a1, b) rfl hw dX6_model_99
  · have hw := (hw.2 z_19).1 z_20
    refine j_astore_n (pc := 5) (lv' := [(0, .ref ax), (1, .int x1), (2, .int x2), (3, .ref (f1 0))]) C [1, 2, 3, 0] dX6_model_5 rfl (by decide) rfl ?_
    refine j_aload_n (pc := 6) C dX6_model_6 3 rfl rfl ?_
    refine j_ifnonnull (pc := 7) C 12 dX6_model_7 (by decide) ?_
    refine j_iload_n (pc := 12) C dX6_model_12 2 rfl rfl ?_
    by_cases z_29 : x2 = 0
    · have hw := hw.1 z_29
      refine j_tableIn (pc := 13) C 48 dX6_model_13 (by rw [z_29]; decide) (by rw [z_29]; decide) (by rw [z_29]; rfl) (by decide) ?_
      refine j_aload_n (pc := 48) C dX6_model_48 3 rfl rfl ?_
      refine j_swap ?_
      refine j_get (ref := RX5) (pc := 49) C hiX6_model_X5 0 (c_at0 f1 cI cO (bY h cO (scells f0 cI cO a0 ++ xcell h f0 f1 ax x) b) a1) rfl 2 (by decide) lkX6_model_92 (c_fl0_2 f1 a1) dX6_model_49 ?_
      refine j_get (ref := RX0) (pc := 52) C hiX6_model_X0 3 (c_at3 f1 cI cO (bY h cO (scells f0 cI cO a0 ++ xcell h f0 f1 ax x) b) a1) rfl 5 (by decide) lkX6_model_193 (c_fl3_5 f1 a1) dX6_model_52 ?_
      refine j_scalli (pc := 55) C 1 (mX6_asNumber (a1.1 3 5)) gX6_model_X6_asNumber rfl rfl rfl (by decide +kernel) ⟨Nat.le_of_ble_eq_true rfl, Nat.le_of_ble_eq_true rfl⟩ rfl rfl (Nat.le_of_ble_eq_true rfl) dX6_model_55 ⟨Nat.le_refl _, Nat.le_refl _⟩ (fun r_30 er_30 => ?_)
      have hw := hw r_30 er_30
      refine j_swap ?_
      exact j_iret (pc := 58) C hr (x, a0, a1, b) rfl hw dX6_model_58
    · have hw := hw.2 z_29
      by_cases z_31 : x2 = 1
      · have hw := hw.1 z_31
        refine j_tableIn (pc := 13) C 59 dX6_model_13 (by rw [z_31]; decide) (by rw [z_31]; decide) (by rw [z_31]; rfl) (by decide) ?_
        refine j_aload_n (pc := 59) C dX6_model_59 3 rfl rfl ?_
        refine j_swap ?_
        refine j_get (ref := RX5) (pc := 60) C hiX6_model_X5 0 (c_at0 f1 cI cO (bY h cO (scells f0 cI cO a0 ++ xcell h f0 f1 ax x) b) a1) rfl 2 (by decide) lkX6_model_92 (c_fl0_2 f1 a1) dX6_model_60 ?_
        refine j_get (ref := RX0) (pc := 63) C hiX6_model_X0 3 (c_at3 f1 cI cO (bY h cO (scells f0 cI cO a0 ++ xcell h f0 f1 ax x) b) a1) rfl 6 (by decide) lkX6_model_196 (c_fl3_6 f1 a1) dX6_model_63 ?_
        refine j_swap ?_
        exact j_iret (pc := 66) C hr (x, a0, a1, b) rfl hw dX6_model_66
      · have hw := hw.2 z_31
        by_cases z_32 : x2 = 2
        · have hw := hw.1 z_32
          refine j_tableIn (pc := 13) C 67 dX6_model_13 (by rw [z_32]; decide) (by rw [z_32]; decide) (by rw [z_32]; rfl) (by decide) ?_
          refine j_aload_n (pc := 67) C dX6_model_67 3 rfl rfl ?_
          refine j_swap ?_
          refine j_get (ref := RX5) (pc := 68) C hiX6_model_X5 0 (c_at0 f1 cI cO (bY h cO (scells f0 cI cO a0 ++ xcell h f0 f1 ax x) b) a1) rfl 2 (by decide) lkX6_model_92 (c_fl0_2 f1 a1) dX6_model_68 ?_
          refine j_get (ref := RX0) (pc := 71) C hiX6_model_X0 3 (c_at3 f1 cI cO (bY h cO (scells f0 cI cO a0 ++ xcell h f0 f1 ax x) b) a1) rfl 7 (by decide) lkX6_model_199 (c_fl3_7 f1 a1) dX6_model_71 ?_
          refine j_swap ?_
          exact j_iret (pc := 74) C hr (x, a0, a1, b) rfl hw dX6_model_74
        · have hw := hw.2 z_32
          by_cases z_33 : x2 = 3
          · have hw := hw.1 z_33
            refine j_tableIn (pc := 13) C 75 dX6_model_13 (by rw [z_33]; decide) (by rw [z_33]; decide) (by rw [z_33]; rfl) (by decide) ?_
            refine j_aload_n (pc := 75) C dX6_model_75 0 rfl rfl ?_
            refine j_get (ref := RX6) (pc := 76) C hiX6_model_X6 22 (e_at f0 f1 h f0 f1 ax cI cO a0 a1 x b) rfl 3 (by decide) lkX6_model_85 (e_fl3 h f0 f1 x) dX6_model_76 ?_
            refine j_aload_n (pc := 79) C dX6_model_79 3 rfl rfl ?_
            refine j_swap ?_
            refine j_get (ref := RX5) (pc := 80) C hiX6_model_X5 0 (c_at0 f1 cI cO (bY h cO (scells f0 cI cO a0 ++ xcell h f0 f1 ax x) b) a1) rfl 14 (by decide) lkX6_model_202 (c_fl0_14 f1 a1) dX6_model_80 ?_
            refine j_isub (pc := 83) C dX6_model_83 ?_
            refine j_swap ?_
            exact j_iret (pc := 84) C hr (x, a0, a1, b) rfl hw dX6_model_84
          · have hw := hw.2 z_33
            by_cases z_34 : x2 = 4
            · have hw := hw.1 z_34
              refine j_tableIn (pc := 13) C 85 dX6_model_13 (by rw [z_34]; decide) (by rw [z_34]; decide) (by rw [z_34]; rfl) (by decide) ?_
              refine j_aload_n (pc := 85) C dX6_model_85 3 rfl rfl ?_
              refine j_swap ?_
              refine j_get (ref := RX5) (pc := 86) C hiX6_model_X5 0 (c_at0 f1 cI cO (bY h cO (scells f0 cI cO a0 ++ xcell h f0 f1 ax x) b) a1) rfl 2 (by decide) lkX6_model_92 (c_fl0_2 f1 a1) dX6_model_86 ?_
              refine j_aload_n (pc := 89) C dX6_model_89 0 rfl rfl ?_
              refine j_get (ref := RX6) (pc := 90) C hiX6_model_X6 22 (e_at f1 f0 h f0 f1 ax cI cO a1 a0 x b) rfl 3 (by decide) lkX6_model_85 (e_fl3 h f0 f1 x) dX6_model_90 ?_
              refine j_calli0 (pc := 93) C gz_ok hG 1 (mX0_ticksToEnd hw) gX6_model_X0_ticksToEnd rfl rfl rfl (by decide +kernel) ⟨Nat.le_of_ble_eq_true rfl, Nat.le_of_ble_eq_true rfl⟩ 3 (c_at3 f1 cI cO (bY h cO (scells f0 cI cO a0 ++ xcell h f0 f1 ax x) b) a1) rfl rfl rfl (Nat.le_of_ble_eq_true rfl) dX6_model_93 ⟨Nat.le_refl _, Nat.le_refl _⟩ (fun r_35 a_36 hw => ?_)
              refine j_swap ?_
              exact j_iret (pc := 96) C hr (x, a0, a_36, b) rfl hw dX6_model_96
            · have hw := hw.2 z_34
              have q0 := j_ne z_29 0 (by decide)
              have q1 := j_ne z_31 1 (by decide)
              have q2 := j_ne z_32 2 (by decide)
              have q3 := j_ne z_33 3 (by decide)
              have q4 := j_ne z_34 4 (by decide)
              refine j_tableOut (pc := 13) C 97 dX6_model_13 (by omega) (by decide) ?_
              refine j_bipush (pc := 97) (v := (-2)) C dX6_model_97 (by decide) ?_
              exact j_iret (pc := 99) C hr (x, a0, a1, b) rfl hw dX6_model_99
  · have hw := (hw.2 z_19).2 z_20
    refine j_astore_nN (pc := 5) (lv' := [(0, .ref ax), (1, .int x1), (2, .int x2), (3, .null)]) C [1, 2, 3, 0] dX6_model_5 rfl (by decide) rfl ?_
    refine j_aload_nN (pc := 6) C dX6_model_6 3 rfl rfl ?_
    refine j_ifnonnullN (pc := 7) C dX6_model_7 ?_
    refine j_iconst (pc := 10) (v := (-1)) C dX6_model_10 (by decide) ?_
    exact j_iret (pc := 11) C hr (x, a0, a1, b) rfl hw dX6_model_11

def rmX6_turn : Room := { frames := 1, cells := 0, slots := 0, locals := 22 }
theorem hiX6_turn_X5 : ∀ w ∈ u_ws RX5 TX5 16, w ∈ wsX6_turn := by decide +kernel
theorem hiX6_turn_X0 : ∀ w ∈ u_ws RX0 TX0 12, w ∈ wsX6_turn := by decide +kernel
theorem lkX6_turn_92 : Cond.fieldLink yX6_turn.cls 92 (TX5 2).1 (TX5 2).2.1 (TX5 2).2.2.1 ∈ wsX6_turn := by decide +kernel
theorem lkX6_turn_208 : Cond.fieldLink yX6_turn.cls 208 (TX0 9).1 (TX0 9).2.1 (TX0 9).2.2.1 ∈ wsX6_turn := by decide +kernel
theorem lkX6_turn_211 : Cond.fieldLink yX6_turn.cls 211 (TX0 10).1 (TX0 10).2.1 (TX0 10).2.2.1 ∈ wsX6_turn := by decide +kernel
theorem lkX6_turn_215 : Cond.fieldLink yX6_turn.cls 215 (TX0 11).1 (TX0 11).2.1 (TX0 11).2.2.1 ∈ wsX6_turn := by decide +kernel
def wX6_turn (N : Nat) (x : jXS) (a0 a1 : jSS) (b : jGS) (x1 : Int32) (x2 : Int32) (x3 : Int32) (post : Int32 → jXS → jSS → jSS → jGS → Prop) : Prop := ((x1 = 0) → (∀ r_17 : Int32, r_17 = jwithin x2 0 ((a0.1 3 9) - 1) → ((¬ r_17 = 0) → (((x3 = 0) → (vp_in x2 12 ∧ post (a0.1 7 x2.toNatClampNeg) x a0 a1 b)) ∧ ((¬ x3 = 0) → (((x3 = 1) → (vp_in x2 12 ∧ post (a0.1 8 x2.toNatClampNeg) x a0 a1 b)) ∧ ((¬ x3 = 1) → (post ((-2)) x a0 a1 b)))))) ∧ ((r_17 = 0) → (post ((-1)) x a0 a1 b)))) ∧ ((¬ x1 = 0) → (((x1 = 1) → (∀ r_23 : Int32, r_23 = jwithin x2 0 ((a1.1 3 9) - 1) → ((¬ r_23 = 0) → (((x3 = 0) → (vp_in x2 12 ∧ post (a1.1 7 x2.toNatClampNeg) x a0 a1 b)) ∧ ((¬ x3 = 0) → (((x3 = 1) → (vp_in x2 12 ∧ post (a1.1 8 x2.toNatClampNeg) x a0 a1 b)) ∧ ((¬ x3 = 1) → (post ((-2)) x a0 a1 b)))))) ∧ ((r_23 = 0) → (post ((-1)) x a0 a1 b)))) ∧ ((¬ x1 = 1) → (post ((-1)) x a0 a1 b))))
set_option maxHeartbeats 4000000 in
set_option maxRecDepth 100000 in
theorem mX6_turn {l : Launch} {D : va_G} {cI cJ cZ cO : ClassId} {f0 f1 h : Nat → Nat} {ax : Nat} {N : Nat} {x : jXS} {a0 a1 : jSS} {b : jGS} {x1 : Int32} {x2 : Int32} {x3 : Int32} {post : Int32 → jXS → jSS → jSS → jGS → Prop} (hw : wX6_turn N x a0 a1 b x1 x2 x3 post) : jMi l D (jT cI cJ cZ cO) gz yX6_turn wsX6_turn rmX6_turn [.ref ax, .int x1, .int x2, .int x3] (acells f0 cI cO (bY h cO (scells f1 cI cO a1 ++ xcell h f0 f1 ax x) b) a0) (fun r (u : jMS) => post r u.1 u.2.1 u.2.2.1 u.2.2.2) (mF f0 f1 h ax cI cO) 0 0 := by
  refine j_ofi (cc := cX6_turn) (maxL := 5) (ret := (some .int)) (by decide) rfl (Nat.le_of_ble_eq_true rfl) ?_
  intro p e s m args below meth c A C hr hnm hG
  refine j_sub (lv' := [(0, .ref ax), (1, .int x1), (2, .int x2), (3, .int x3)]) [0, 1, 2, 3] rfl ?_
  unfold wX6_turn at hw
  refine j_aload_n (pc := 0) C dX6_turn_0 0 rfl rfl ?_
  refine j_iload_n (pc := 1) C dX6_turn_1 1 rfl rfl ?_
  refine j_senderOf (pc := 2) C gz_ok hG (s0 := x1) mX6_senderOf gX6_turn_X6_senderOf (by decide +kernel) ⟨Nat.le_of_ble_eq_true rfl, Nat.le_of_ble_eq_true rfl⟩ 22 (e_at f0 f1 h f0 f1 ax cI cO a0 a1 x b) rfl (Nat.le_of_ble_eq_true rfl) dX6_turn_2 ⟨Nat.le_refl _, Nat.le_refl _⟩ (fun z_15 => ?_) (fun z_15 z_16 => ?_) (fun z_15 z_16 => ?_)
  · have hw := hw.1 z_15
    refine j_astore (pc := 5) (lv' := [(0, .ref ax), (1, .int x1), (2, .int x2), (3, .int x3), (4, .ref (f0 0))]) C [1, 2, 3, 4, 0] dX6_turn_5 (by decide) rfl ?_
    refine j_aload (pc := 7) C dX6_turn_7 4 rfl ?_
    refine j_ifnull (pc := 9) C dX6_turn_9 ?_
    refine j_iload_n (pc := 12) C dX6_turn_12 2 rfl rfl ?_
    refine j_iconst (pc := 13) (v := 0) C dX6_turn_13 (by decide) ?_
    refine j_aload (pc := 14) C dX6_turn_14 4 rfl ?_
    refine j_get (ref := RX5) (pc := 16) C hiX6_turn_X5 0 (c_at0 f0 cI cO (bY h cO (scells f1 cI cO a1 ++ xcell h f0 f1 ax x) b) a0) rfl 2 (by decide) lkX6_turn_92 (c_fl0_2 f0 a0) dX6_turn_16 ?_
    refine j_get (ref := RX0) (pc := 19) C hiX6_turn_X0 3 (c_at3 f0 cI cO (bY h cO (scells f1 cI cO a1 ++ xcell h f0 f1 ax x) b) a0) rfl 9 (by decide) lkX6_turn_208 (c_fl3_9 f0 a0) dX6_turn_19 ?_
    refine j_iconst (pc := 22) (v := 1) C dX6_turn_22 (by decide) ?_
    refine j_isub (pc := 23) C dX6_turn_23 ?_
    refine j_scalli (pc := 24) C 3 (mX6_within x2 0 ((a0.1 3 9) - 1)) gX6_turn_X6_within rfl rfl rfl (by decide +kernel) ⟨Nat.le_of_ble_eq_true rfl, Nat.le_of_ble_eq_true rfl⟩ rfl rfl (Nat.le_of_ble_eq_true rfl) dX6_turn_24 ⟨Nat.le_refl _, Nat.le_refl _⟩ (fun r_17 er_17 => ?_)
    have hw := hw r_17 er_17
    refine j_if_ne (pc := 27) C 32 dX6_turn_27 (by decide) (fun z_18 => ?_) (fun z_18 => ?_)
    · have hw := hw.1 z_18
      refine j_iload_n (pc := 32) C dX6_turn_32 3 rfl rfl ?_
      by_cases z_19 : x3 = 0
      · have hw := hw.1 z_19
        refine j_lookup (pc := 33) (off := 27) C 60 dX6_turn_33 (by decide) (by rw [z_19]; decide) (by decide) ?_
        refine j_aload (pc := 60) C dX6_turn_60 4 rfl ?_
        refine j_get (ref := RX5) (pc := 62) C hiX6_turn_X5 0 (c_at0 f0 cI cO (bY h cO (scells f1 cI cO a1 ++ xcell h f0 f1 ax x) b) a0) rfl 2 (by decide) lkX6_turn_92 (c_fl0_2 f0 a0) dX6_turn_62 ?_
        refine j_get (ref := RX0) (pc := 65) C hiX6_turn_X0 3 (c_at3 f0 cI cO (bY h cO (scells f1 cI cO a1 ++ xcell h f0 f1 ax x) b) a0) rfl 10 (by decide) lkX6_turn_211 (c_fl3_10 f0 a0) dX6_turn_65 ?_
        refine j_iload_n (pc := 68) C dX6_turn_68 2 rfl rfl ?_
        obtain ⟨h_20, hw⟩ := hw
        refine j_iald (pc := 69) C 7 0 (c_at7 f0 cI cO (bY h cO (scells f1 cI cO a1 ++ xcell h f0 f1 ax x) b) a0) rfl h_20 dX6_turn_69 ?_
        exact j_iret (pc := 70) C hr (x, a0, a1, b) rfl hw dX6_turn_70
      · have hw := hw.2 z_19
        by_cases z_21 : x3 = 1
        · have hw := hw.1 z_21
          refine j_lookup (pc := 33) (off := 38) C 71 dX6_turn_33 (by decide) (by rw [z_21]; decide) (by decide) ?_
          refine j_aload (pc := 71) C dX6_turn_71 4 rfl ?_
          refine j_get (ref := RX5) (pc := 73) C hiX6_turn_X5 0 (c_at0 f0 cI cO (bY h cO (scells f1 cI cO a1 ++ xcell h f0 f1 ax x) b) a0) rfl 2 (by decide) lkX6_turn_92 (c_fl0_2 f0 a0) dX6_turn_73 ?_
          refine j_get (ref := RX0) (pc := 76) C hiX6_turn_X0 3 (c_at3 f0 cI cO (bY h cO (scells f1 cI cO a1 ++ xcell h f0 f1 ax x) b) a0) rfl 11 (by decide) lkX6_turn_215 (c_fl3_11 f0 a0) dX6_turn_76 ?_
          refine j_iload_n (pc := 79) C dX6_turn_79 2 rfl rfl ?_
          obtain ⟨h_22, hw⟩ := hw
          refine j_iald (pc := 80) C 8 0 (c_at8 f0 cI cO (bY h cO (scells f1 cI cO a1 ++ xcell h f0 f1 ax x) b) a0) rfl h_22 dX6_turn_80 ?_
          exact j_iret (pc := 81) C hr (x, a0, a1, b) rfl hw dX6_turn_81
        · have hw := hw.2 z_21
          have q0 := j_ne z_19 0 (by decide)
          have q1 := j_ne z_21 1 (by decide)
          refine j_lookup (pc := 33) (off := 49) C 82 dX6_turn_33 (by decide) (by simp [Op.lookupswitch.offset, q0, q1, Ne.symm q0, Ne.symm q1]) (by decide) ?_
          refine j_bipush (pc := 82) (v := (-2)) C dX6_turn_82 (by decide) ?_
          exact j_iret (pc := 84) C hr (x, a0, a1, b) rfl hw dX6_turn_84
    · have hw := hw.2 z_18
      refine j_iconst (pc := 30) (v := (-1)) C dX6_turn_30 (by decide) ?_
      exact j_iret (pc := 31) C hr (x, a0, a1, b) rfl hw dX6_turn_31
  · have hw := (hw.2 z_15).1 z_16
    refine j_astore (pc := 5) (lv' := [(0, .ref ax), (1, .int x1), (2, .int x2), (3, .int x3), (4, .ref (f1 0))]) C [1, 2, 3, 4, 0] dX6_turn_5 (by decide) rfl ?_
    refine j_aload (pc := 7) C dX6_turn_7 4 rfl ?_
    refine j_ifnull (pc := 9) C dX6_turn_9 ?_
    refine j_iload_n (pc := 12) C dX6_turn_12 2 rfl rfl ?_
    refine j_iconst (pc := 13) (v := 0) C dX6_turn_13 (by decide) ?_
    refine j_aload (pc := 14) C dX6_turn_14 4 rfl ?_
    refine j_swap ?_
    refine j_get (ref := RX5) (pc := 16) C hiX6_turn_X5 0 (c_at0 f1 cI cO (bY h cO (scells f0 cI cO a0 ++ xcell h f0 f1 ax x) b) a1) rfl 2 (by decide) lkX6_turn_92 (c_fl0_2 f1 a1) dX6_turn_16 ?_
    refine j_get (ref := RX0) (pc := 19) C hiX6_turn_X0 3 (c_at3 f1 cI cO (bY h cO (scells f0 cI cO a0 ++ xcell h f0 f1 ax x) b) a1) rfl 9 (by decide) lkX6_turn_208 (c_fl3_9 f1 a1) dX6_turn_19 ?_
    refine j_iconst (pc := 22) (v := 1) C dX6_turn_22 (by decide) ?_
    refine j_isub (pc := 23) C dX6_turn_23 ?_
    refine j_scalli (pc := 24) C 3 (mX6_within x2 0 ((a1.1 3 9) - 1)) gX6_turn_X6_within rfl rfl rfl (by decide +kernel) ⟨Nat.le_of_ble_eq_true rfl, Nat.le_of_ble_eq_true rfl⟩ rfl rfl (Nat.le_of_ble_eq_true rfl) dX6_turn_24 ⟨Nat.le_refl _, Nat.le_refl _⟩ (fun r_23 er_23 => ?_)
    have hw := hw r_23 er_23
    refine j_if_ne (pc := 27) C 32 dX6_turn_27 (by decide) (fun z_24 => ?_) (fun z_24 => ?_)
    · have hw := hw.1 z_24
      refine j_iload_n (pc := 32) C dX6_turn_32 3 rfl rfl ?_
      by_cases z_25 : x3 = 0
      · have hw := hw.1 z_25
        refine j_lookup (pc := 33) (off := 27) C 60 dX6_turn_33 (by decide) (by rw [z_25]; decide) (by decide) ?_
        refine j_aload (pc := 60) C dX6_turn_60 4 rfl ?_
        refine j_get (ref := RX5) (pc := 62) C hiX6_turn_X5 0 (c_at0 f1 cI cO (bY h cO (scells f0 cI cO a0 ++ xcell h f0 f1 ax x) b) a1) rfl 2 (by decide) lkX6_turn_92 (c_fl0_2 f1 a1) dX6_turn_62 ?_
        refine j_get (ref := RX0) (pc := 65) C hiX6_turn_X0 3 (c_at3 f1 cI cO (bY h cO (scells f0 cI cO a0 ++ xcell h f0 f1 ax x) b) a1) rfl 10 (by decide) lkX6_turn_211 (c_fl3_10 f1 a1) dX6_turn_65 ?_
        refine j_iload_n (pc := 68) C dX6_turn_68 2 rfl rfl ?_
        obtain ⟨h_26, hw⟩ := hw
        refine j_iald (pc := 69) C 7 0 (c_at7 f1 cI cO (bY h cO (scells f0 cI cO a0 ++ xcell h f0 f1 ax x) b) a1) rfl h_26 dX6_turn_69 ?_
        refine j_swap ?_
        exact j_iret (pc := 70) C hr (x, a0, a1, b) rfl hw dX6_turn_70
      · have hw := hw.2 z_25
        by_cases z_27 : x3 = 1
        · have hw := hw.1 z_27
          refine j_lookup (pc := 33) (off := 38) C 71 dX6_turn_33 (by decide) (by rw [z_27]; decide) (by decide) ?_
          refine j_aload (pc := 71) C dX6_turn_71 4 rfl ?_
          refine j_get (ref := RX5) (pc := 73) C hiX6_turn_X5 0 (c_at0 f1 cI cO (bY h cO (scells f0 cI cO a0 ++ xcell h f0 f1 ax x) b) a1) rfl 2 (by decide) lkX6_turn_92 (c_fl0_2 f1 a1) dX6_turn_73 ?_
          refine j_get (ref := RX0) (pc := 76) C hiX6_turn_X0 3 (c_at3 f1 cI cO (bY h cO (scells f0 cI cO a0 ++ xcell h f0 f1 ax x) b) a1) rfl 11 (by decide) lkX6_turn_215 (c_fl3_11 f1 a1) dX6_turn_76 ?_
          refine j_iload_n (pc := 79) C dX6_turn_79 2 rfl rfl ?_
          obtain ⟨h_28, hw⟩ := hw
          refine j_iald (pc := 80) C 8 0 (c_at8 f1 cI cO (bY h cO (scells f0 cI cO a0 ++ xcell h f0 f1 ax x) b) a1) rfl h_28 dX6_turn_80 ?_
          refine j_swap ?_
          exact j_iret (pc := 81) C hr (x, a0, a1, b) rfl hw dX6_turn_81
        · have hw := hw.2 z_27
          have q0 := j_ne z_25 0 (by decide)
          have q1 := j_ne z_27 1 (by decide)
          refine j_lookup (pc := 33) (off := 49) C 82 dX6_turn_33 (by decide) (by simp [Op.lookupswitch.offset, q0, q1, Ne.symm q0, Ne.symm q1]) (by decide) ?_
          refine j_bipush (pc := 82) (v := (-2)) C dX6_turn_82 (by decide) ?_
          refine j_swap ?_
          exact j_iret (pc := 84) C hr (x, a0, a1, b) rfl hw dX6_turn_84
    · have hw := hw.2 z_24
      refine j_iconst (pc := 30) (v := (-1)) C dX6_turn_30 (by decide) ?_
      refine j_swap ?_
      exact j_iret (pc := 31) C hr (x, a0, a1, b) rfl hw dX6_turn_31
  · have hw := (hw.2 z_15).2 z_16
    refine j_astoreN (pc := 5) (lv' := [(0, .ref ax), (1, .int x1), (2, .int x2), (3, .int x3), (4, .null)]) C [1, 2, 3, 4, 0] dX6_turn_5 (by decide) rfl ?_
    refine j_aloadN (pc := 7) C dX6_turn_7 4 rfl ?_
    refine j_ifnullN (pc := 9) C 30 dX6_turn_9 (by decide) ?_
    refine j_iconst (pc := 30) (v := (-1)) C dX6_turn_30 (by decide) ?_
    exact j_iret (pc := 31) C hr (x, a0, a1, b) rfl hw dX6_turn_31

def rmX6_many : Room := { frames := 0, cells := 0, slots := 0, locals := 0 }
theorem hiX6_many_X6 : ∀ w ∈ u_ws RX6 TX6 6, w ∈ wsX6_many := by decide +kernel
theorem hiX6_many_X5 : ∀ w ∈ u_ws RX5 TX5 16, w ∈ wsX6_many := by decide +kernel
theorem hiX6_many_X0 : ∀ w ∈ u_ws RX0 TX0 12, w ∈ wsX6_many := by decide +kernel
theorem lkX6_many_85 : Cond.fieldLink yX6_many.cls 85 (TX6 3).1 (TX6 3).2.1 (TX6 3).2.2.1 ∈ wsX6_many := by decide +kernel
theorem lkX6_many_21 : Cond.fieldLink yX6_many.cls 21 (TX6 1).1 (TX6 1).2.1 (TX6 1).2.2.1 ∈ wsX6_many := by decide +kernel
theorem lkX6_many_110 : Cond.fieldLink yX6_many.cls 110 (TX5 7).1 (TX5 7).2.1 (TX5 7).2.2.1 ∈ wsX6_many := by decide +kernel
theorem lkX6_many_25 : Cond.fieldLink yX6_many.cls 25 (TX6 2).1 (TX6 2).2.1 (TX6 2).2.2.1 ∈ wsX6_many := by decide +kernel
theorem lkX6_many_132 : Cond.fieldLink yX6_many.cls 132 (TX5 6).1 (TX5 6).2.1 (TX5 6).2.2.1 ∈ wsX6_many := by decide +kernel
theorem lkX6_many_92 : Cond.fieldLink yX6_many.cls 92 (TX5 2).1 (TX5 2).2.1 (TX5 2).2.2.1 ∈ wsX6_many := by decide +kernel
theorem lkX6_many_218 : Cond.fieldLink yX6_many.cls 218 (TX0 8).1 (TX0 8).2.1 (TX0 8).2.2.1 ∈ wsX6_many := by decide +kernel
theorem lkX6_many_82 : Cond.fieldLink yX6_many.cls 82 (TX6 5).1 (TX6 5).2.1 (TX6 5).2.2.1 ∈ wsX6_many := by decide +kernel
def wX6_many (N : Nat) (x : jXS) (a0 a1 : jSS) (b : jGS) (x1 : Int32) (post : Int32 → jXS → jSS → jSS → jGS → Prop) : Prop := ((x1 = 0) → (post (x 3) x a0 a1 b)) ∧ ((¬ x1 = 0) → (((x1 = 1) → (post ((a0.1 0 7) + (a1.1 0 7)) x a0 a1 b)) ∧ ((¬ x1 = 1) → (((x1 = 2) → (post ((a0.1 0 6) + (a1.1 0 6)) x a0 a1 b)) ∧ ((¬ x1 = 2) → (((x1 = 3) → (post ((a0.1 3 8) + (a1.1 3 8)) x a0 a1 b)) ∧ ((¬ x1 = 3) → (((x1 = 4) → (post (x 5) x a0 a1 b)) ∧ ((¬ x1 = 4) → (post ((-2)) x a0 a1 b))))))))))
set_option maxHeartbeats 4000000 in
set_option maxRecDepth 100000 in
theorem mX6_many {l : Launch} {D : va_G} {cI cJ cZ cO : ClassId} {f0 f1 h : Nat → Nat} {ax : Nat} {N : Nat} {x : jXS} {a0 a1 : jSS} {b : jGS} {x1 : Int32} {post : Int32 → jXS → jSS → jSS → jGS → Prop} (hw : wX6_many N x a0 a1 b x1 post) : jMi l D (jT cI cJ cZ cO) gz yX6_many wsX6_many rmX6_many [.ref ax, .int x1] (acells f0 cI cO (bY h cO (scells f1 cI cO a1 ++ xcell h f0 f1 ax x) b) a0) (fun r (u : jMS) => post r u.1 u.2.1 u.2.2.1 u.2.2.2) (mF f0 f1 h ax cI cO) 0 0 := by
  refine j_ofi (cc := cX6_many) (maxL := 2) (ret := (some .int)) (by decide) rfl (Nat.le_of_ble_eq_true rfl) ?_
  intro p e s m args below meth c A C hr hnm hG
  refine j_sub (lv' := [(0, .ref ax), (1, .int x1)]) [0, 1] rfl ?_
  unfold wX6_many at hw
  refine j_iload_n (pc := 0) C dX6_many_0 1 rfl rfl ?_
  by_cases z_6 : x1 = 0
  · have hw := hw.1 z_6
    refine j_tableIn (pc := 1) C 36 dX6_many_1 (by rw [z_6]; decide) (by rw [z_6]; decide) (by rw [z_6]; rfl) (by decide) ?_
    refine j_aload_n (pc := 36) C dX6_many_36 0 rfl rfl ?_
    refine j_get (ref := RX6) (pc := 37) C hiX6_many_X6 22 (e_at f0 f1 h f0 f1 ax cI cO a0 a1 x b) rfl 3 (by decide) lkX6_many_85 (e_fl3 h f0 f1 x) dX6_many_37 ?_
    exact j_iret (pc := 40) C hr (x, a0, a1, b) rfl hw dX6_many_40
  · have hw := hw.2 z_6
    by_cases z_7 : x1 = 1
    · have hw := hw.1 z_7
      refine j_tableIn (pc := 1) C 41 dX6_many_1 (by rw [z_7]; decide) (by rw [z_7]; decide) (by rw [z_7]; rfl) (by decide) ?_
      refine j_aload_n (pc := 41) C dX6_many_41 0 rfl rfl ?_
      refine j_get (ref := RX6) (pc := 42) C hiX6_many_X6 22 (e_at f0 f1 h f0 f1 ax cI cO a0 a1 x b) rfl 1 (by decide) lkX6_many_21 (e_fl1 h f0 f1 x) dX6_many_42 ?_
      refine j_get (ref := RX5) (pc := 45) C hiX6_many_X5 0 (c_at0 f0 cI cO (bY h cO (scells f1 cI cO a1 ++ xcell h f0 f1 ax x) b) a0) rfl 7 (by decide) lkX6_many_110 (c_fl0_7 f0 a0) dX6_many_45 ?_
      refine j_aload_n (pc := 48) C dX6_many_48 0 rfl rfl ?_
      refine j_get (ref := RX6) (pc := 49) C hiX6_many_X6 22 (e_at f0 f1 h f0 f1 ax cI cO a0 a1 x b) rfl 2 (by decide) lkX6_many_25 (e_fl2 h f0 f1 x) dX6_many_49 ?_
      refine j_swap ?_
      refine j_get (ref := RX5) (pc := 52) C hiX6_many_X5 0 (c_at0 f1 cI cO (bY h cO (scells f0 cI cO a0 ++ xcell h f0 f1 ax x) b) a1) rfl 7 (by decide) lkX6_many_110 (c_fl0_7 f1 a1) dX6_many_52 ?_
      refine j_iadd (pc := 55) C dX6_many_55 ?_
      refine j_swap ?_
      exact j_iret (pc := 56) C hr (x, a0, a1, b) rfl hw dX6_many_56
    · have hw := hw.2 z_7
      by_cases z_8 : x1 = 2
      · have hw := hw.1 z_8
        refine j_tableIn (pc := 1) C 57 dX6_many_1 (by rw [z_8]; decide) (by rw [z_8]; decide) (by rw [z_8]; rfl) (by decide) ?_
        refine j_aload_n (pc := 57) C dX6_many_57 0 rfl rfl ?_
        refine j_get (ref := RX6) (pc := 58) C hiX6_many_X6 22 (e_at f0 f1 h f0 f1 ax cI cO a0 a1 x b) rfl 1 (by decide) lkX6_many_21 (e_fl1 h f0 f1 x) dX6_many_58 ?_
        refine j_get (ref := RX5) (pc := 61) C hiX6_many_X5 0 (c_at0 f0 cI cO (bY h cO (scells f1 cI cO a1 ++ xcell h f0 f1 ax x) b) a0) rfl 6 (by decide) lkX6_many_132 (c_fl0_6 f0 a0) dX6_many_61 ?_
        refine j_aload_n (pc := 64) C dX6_many_64 0 rfl rfl ?_
        refine j_get (ref := RX6) (pc := 65) C hiX6_many_X6 22 (e_at f0 f1 h f0 f1 ax cI cO a0 a1 x b) rfl 2 (by decide) lkX6_many_25 (e_fl2 h f0 f1 x) dX6_many_65 ?_
        refine j_swap ?_
        refine j_get (ref := RX5) (pc := 68) C hiX6_many_X5 0 (c_at0 f1 cI cO (bY h cO (scells f0 cI cO a0 ++ xcell h f0 f1 ax x) b) a1) rfl 6 (by decide) lkX6_many_132 (c_fl0_6 f1 a1) dX6_many_68 ?_
        refine j_iadd (pc := 71) C dX6_many_71 ?_
        refine j_swap ?_
        exact j_iret (pc := 72) C hr (x, a0, a1, b) rfl hw dX6_many_72
      · have hw := hw.2 z_8
        by_cases z_9 : x1 = 3
        · have hw := hw.1 z_9
          refine j_tableIn (pc := 1) C 73 dX6_many_1 (by rw [z_9]; decide) (by rw [z_9]; decide) (by rw [z_9]; rfl) (by decide) ?_
          refine j_aload_n (pc := 73) C dX6_many_73 0 rfl rfl ?_
          refine j_get (ref := RX6) (pc := 74) C hiX6_many_X6 22 (e_at f0 f1 h f0 f1 ax cI cO a0 a1 x b) rfl 1 (by decide) lkX6_many_21 (e_fl1 h f0 f1 x) dX6_many_74 ?_
          refine j_get (ref := RX5) (pc := 77) C hiX6_many_X5 0 (c_at0 f0 cI cO (bY h cO (scells f1 cI cO a1 ++ xcell h f0 f1 ax x) b) a0) rfl 2 (by decide) lkX6_many_92 (c_fl0_2 f0 a0) dX6_many_77 ?_
          refine j_get (ref := RX0) (pc := 80) C hiX6_many_X0 3 (c_at3 f0 cI cO (bY h cO (scells f1 cI cO a1 ++ xcell h f0 f1 ax x) b) a0) rfl 8 (by decide) lkX6_many_218 (c_fl3_8 f0 a0) dX6_many_80 ?_
          refine j_aload_n (pc := 83) C dX6_many_83 0 rfl rfl ?_
          refine j_get (ref := RX6) (pc := 84) C hiX6_many_X6 22 (e_at f0 f1 h f0 f1 ax cI cO a0 a1 x b) rfl 2 (by decide) lkX6_many_25 (e_fl2 h f0 f1 x) dX6_many_84 ?_
          refine j_swap ?_
          refine j_get (ref := RX5) (pc := 87) C hiX6_many_X5 0 (c_at0 f1 cI cO (bY h cO (scells f0 cI cO a0 ++ xcell h f0 f1 ax x) b) a1) rfl 2 (by decide) lkX6_many_92 (c_fl0_2 f1 a1) dX6_many_87 ?_
          refine j_get (ref := RX0) (pc := 90) C hiX6_many_X0 3 (c_at3 f1 cI cO (bY h cO (scells f0 cI cO a0 ++ xcell h f0 f1 ax x) b) a1) rfl 8 (by decide) lkX6_many_218 (c_fl3_8 f1 a1) dX6_many_90 ?_
          refine j_iadd (pc := 93) C dX6_many_93 ?_
          refine j_swap ?_
          exact j_iret (pc := 94) C hr (x, a0, a1, b) rfl hw dX6_many_94
        · have hw := hw.2 z_9
          by_cases z_10 : x1 = 4
          · have hw := hw.1 z_10
            refine j_tableIn (pc := 1) C 95 dX6_many_1 (by rw [z_10]; decide) (by rw [z_10]; decide) (by rw [z_10]; rfl) (by decide) ?_
            refine j_aload_n (pc := 95) C dX6_many_95 0 rfl rfl ?_
            refine j_get (ref := RX6) (pc := 96) C hiX6_many_X6 22 (e_at f0 f1 h f0 f1 ax cI cO a0 a1 x b) rfl 5 (by decide) lkX6_many_82 (e_fl5 h f0 f1 x) dX6_many_96 ?_
            exact j_iret (pc := 99) C hr (x, a0, a1, b) rfl hw dX6_many_99
          · have hw := hw.2 z_10
            have q0 := j_ne z_6 0 (by decide)
            have q1 := j_ne z_7 1 (by decide)
            have q2 := j_ne z_8 2 (by decide)
            have q3 := j_ne z_9 3 (by decide)
            have q4 := j_ne z_10 4 (by decide)
            refine j_tableOut (pc := 1) C 100 dX6_many_1 (by omega) (by decide) ?_
            refine j_bipush (pc := 100) (v := (-2)) C dX6_many_100 (by decide) ?_
            exact j_iret (pc := 102) C hr (x, a0, a1, b) rfl hw dX6_many_102

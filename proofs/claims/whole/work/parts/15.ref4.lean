def rmX7_ofGate : Room := { frames := 0, cells := 0, slots := 0, locals := 0 }
theorem hiX7_ofGate : ∀ w ∈ u_ws RX7 TX7 50, w ∈ wsX7_ofGate := fun w h => List.mem_cons_of_mem _ (List.mem_append_right _ h)
theorem lkX7_ofGate_156 : Cond.fieldLink yX7_ofGate.cls 156 (TX7 8).1 (TX7 8).2.1 (TX7 8).2.2.1 ∈ wsX7_ofGate := by decide +kernel
theorem lkX7_ofGate_19 : Cond.fieldLink yX7_ofGate.cls 19 (TX7 5).1 (TX7 5).2.1 (TX7 5).2.2.1 ∈ wsX7_ofGate := by decide +kernel
theorem lkX7_ofGate_29 : Cond.fieldLink yX7_ofGate.cls 29 (TX7 13).1 (TX7 13).2.1 (TX7 13).2.2.1 ∈ wsX7_ofGate := by decide +kernel
theorem lkX7_ofGate_255 : Cond.fieldLink yX7_ofGate.cls 255 (TX7 12).1 (TX7 12).2.1 (TX7 12).2.2.1 ∈ wsX7_ofGate := by decide +kernel
theorem lkX7_ofGate_159 : Cond.fieldLink yX7_ofGate.cls 159 (TX7 9).1 (TX7 9).2.1 (TX7 9).2.2.1 ∈ wsX7_ofGate := by decide +kernel
def wX7_ofGate (N : Nat) (σ : jRS) (x1 : Int32) (post : Int32 → jRS → Prop) : Prop := ((x1 = 0) → (post (σ.1 0 8) σ)) ∧ ((¬ x1 = 0) → (((x1 = 1) → ((((σ.1 0 5) = 3) → (post 0 σ)) ∧ ((¬ (σ.1 0 5) = 3) → (post 1 σ)))) ∧ ((¬ x1 = 1) → (((x1 = 2) → (vp_in (x1 - 2) 3 ∧ post (σ.1 13 (x1 - 2).toNatClampNeg) σ)) ∧ ((¬ x1 = 2) → (((x1 = 3) → (vp_in (x1 - 2) 3 ∧ post (σ.1 13 (x1 - 2).toNatClampNeg) σ)) ∧ ((¬ x1 = 3) → (((x1 = 4) → (vp_in (x1 - 2) 3 ∧ post (σ.1 13 (x1 - 2).toNatClampNeg) σ)) ∧ ((¬ x1 = 4) → (((x1 = 5) → (post (σ.1 0 12) σ)) ∧ ((¬ x1 = 5) → (((x1 = 6) → (post (σ.1 0 9) σ)) ∧ ((¬ x1 = 6) → (post ((-2)) σ))))))))))))))
set_option maxHeartbeats 4000000 in
set_option maxRecDepth 100000 in
theorem mX7_ofGate {l : Launch} {D : va_G} {cI cJ cZ cO : ClassId} {a : Nat → Nat} {N : Nat} {σ : jRS} {x1 : Int32} {post : Int32 → jRS → Prop} (hw : wX7_ofGate N σ x1 post) : jMi l D (jT cI cJ cZ cO) jG0 yX7_ofGate wsX7_ofGate rmX7_ofGate [.ref (a 0), .int x1] (rcells a cI cJ cZ σ) post (rcells a cI cJ cZ) 0 0 := by
  refine j_ofi (cc := cX7_ofGate) (maxL := 2) (ret := (some .int)) (by decide) rfl (Nat.le_of_ble_eq_true rfl) ?_
  intro p e s m args below meth c A C hr hnm hG
  refine j_sub (lv' := [(0, .ref (a 0)), (1, .int x1)]) [0, 1] rfl ?_
  unfold wX7_ofGate at hw
  refine j_iload_n (pc := 0) C dX7_ofGate_0 1 rfl rfl ?_
  by_cases z_12 : x1 = 0
  · have hw := hw.1 z_12
    refine j_tableIn (pc := 1) C 44 dX7_ofGate_1 (by rw [z_12]; decide) (by rw [z_12]; decide) (by rw [z_12]; rfl) (by decide) ?_
    refine j_aload_n (pc := 44) C dX7_ofGate_44 0 rfl rfl ?_
    refine j_get (ref := RX7) (pc := 45) C hiX7_ofGate 0 (r_at0 a cI cJ cZ σ) rfl 8 (by decide) lkX7_ofGate_156 (r_fl8 a σ) dX7_ofGate_45 ?_
    exact j_iret (pc := 48) C hr σ rfl hw dX7_ofGate_48
  · have hw := hw.2 z_12
    by_cases z_13 : x1 = 1
    · have hw := hw.1 z_13
      refine j_tableIn (pc := 1) C 49 dX7_ofGate_1 (by rw [z_13]; decide) (by rw [z_13]; decide) (by rw [z_13]; rfl) (by decide) ?_
      refine j_aload_n (pc := 49) C dX7_ofGate_49 0 rfl rfl ?_
      refine j_get (ref := RX7) (pc := 50) C hiX7_ofGate 0 (r_at0 a cI cJ cZ σ) rfl 5 (by decide) lkX7_ofGate_19 (r_fl5 a σ) dX7_ofGate_50 ?_
      refine j_iconst (pc := 53) (v := 3) C dX7_ofGate_53 (by decide) ?_
      refine j_icmp_eq (pc := 54) C 61 dX7_ofGate_54 (by decide) (fun z_14 => ?_) (fun z_14 => ?_)
      · have hw := hw.1 z_14
        refine j_iconst (pc := 61) (v := 0) C dX7_ofGate_61 (by decide) ?_
        exact j_iret (pc := 62) C hr σ rfl hw dX7_ofGate_62
      · have hw := hw.2 z_14
        refine j_iconst (pc := 57) (v := 1) C dX7_ofGate_57 (by decide) ?_
        refine j_goto (pc := 58) C 62 dX7_ofGate_58 (by decide) ?_
        exact j_iret (pc := 62) C hr σ rfl hw dX7_ofGate_62
    · have hw := hw.2 z_13
      by_cases z_15 : x1 = 2
      · have hw := hw.1 z_15
        refine j_tableIn (pc := 1) C 63 dX7_ofGate_1 (by rw [z_15]; decide) (by rw [z_15]; decide) (by rw [z_15]; rfl) (by decide) ?_
        refine j_aload_n (pc := 63) C dX7_ofGate_63 0 rfl rfl ?_
        refine j_get (ref := RX7) (pc := 64) C hiX7_ofGate 0 (r_at0 a cI cJ cZ σ) rfl 13 (by decide) lkX7_ofGate_29 (r_fl13 a σ) dX7_ofGate_64 ?_
        refine j_iload_n (pc := 67) C dX7_ofGate_67 1 rfl rfl ?_
        refine j_iconst (pc := 68) (v := 2) C dX7_ofGate_68 (by decide) ?_
        refine j_isub (pc := 69) C dX7_ofGate_69 ?_
        obtain ⟨h_16, hw⟩ := hw
        refine j_iald (pc := 70) C 3 0 (r_at13 a cI cJ cZ σ) rfl h_16 dX7_ofGate_70 ?_
        exact j_iret (pc := 71) C hr σ rfl hw dX7_ofGate_71
      · have hw := hw.2 z_15
        by_cases z_17 : x1 = 3
        · have hw := hw.1 z_17
          refine j_tableIn (pc := 1) C 63 dX7_ofGate_1 (by rw [z_17]; decide) (by rw [z_17]; decide) (by rw [z_17]; rfl) (by decide) ?_
          refine j_aload_n (pc := 63) C dX7_ofGate_63 0 rfl rfl ?_
          refine j_get (ref := RX7) (pc := 64) C hiX7_ofGate 0 (r_at0 a cI cJ cZ σ) rfl 13 (by decide) lkX7_ofGate_29 (r_fl13 a σ) dX7_ofGate_64 ?_
          refine j_iload_n (pc := 67) C dX7_ofGate_67 1 rfl rfl ?_
          refine j_iconst (pc := 68) (v := 2) C dX7_ofGate_68 (by decide) ?_
          refine j_isub (pc := 69) C dX7_ofGate_69 ?_
          obtain ⟨h_18, hw⟩ := hw
          refine j_iald (pc := 70) C 3 0 (r_at13 a cI cJ cZ σ) rfl h_18 dX7_ofGate_70 ?_
          exact j_iret (pc := 71) C hr σ rfl hw dX7_ofGate_71
        · have hw := hw.2 z_17
          by_cases z_19 : x1 = 4
          · have hw := hw.1 z_19
            refine j_tableIn (pc := 1) C 63 dX7_ofGate_1 (by rw [z_19]; decide) (by rw [z_19]; decide) (by rw [z_19]; rfl) (by decide) ?_
            refine j_aload_n (pc := 63) C dX7_ofGate_63 0 rfl rfl ?_
            refine j_get (ref := RX7) (pc := 64) C hiX7_ofGate 0 (r_at0 a cI cJ cZ σ) rfl 13 (by decide) lkX7_ofGate_29 (r_fl13 a σ) dX7_ofGate_64 ?_
            refine j_iload_n (pc := 67) C dX7_ofGate_67 1 rfl rfl ?_
            refine j_iconst (pc := 68) (v := 2) C dX7_ofGate_68 (by decide) ?_
            refine j_isub (pc := 69) C dX7_ofGate_69 ?_
            obtain ⟨h_20, hw⟩ := hw
            refine j_iald (pc := 70) C 3 0 (r_at13 a cI cJ cZ σ) rfl h_20 dX7_ofGate_70 ?_
            exact j_iret (pc := 71) C hr σ rfl hw dX7_ofGate_71
          · have hw := hw.2 z_19
            by_cases z_21 : x1 = 5
            · have hw := hw.1 z_21
              refine j_tableIn (pc := 1) C 72 dX7_ofGate_1 (by rw [z_21]; decide) (by rw [z_21]; decide) (by rw [z_21]; rfl) (by decide) ?_
              refine j_aload_n (pc := 72) C dX7_ofGate_72 0 rfl rfl ?_
              refine j_get (ref := RX7) (pc := 73) C hiX7_ofGate 0 (r_at0 a cI cJ cZ σ) rfl 12 (by decide) lkX7_ofGate_255 (r_fl12 a σ) dX7_ofGate_73 ?_
              exact j_iret (pc := 76) C hr σ rfl hw dX7_ofGate_76
            · have hw := hw.2 z_21
              by_cases z_22 : x1 = 6
              · have hw := hw.1 z_22
                refine j_tableIn (pc := 1) C 77 dX7_ofGate_1 (by rw [z_22]; decide) (by rw [z_22]; decide) (by rw [z_22]; rfl) (by decide) ?_
                refine j_aload_n (pc := 77) C dX7_ofGate_77 0 rfl rfl ?_
                refine j_get (ref := RX7) (pc := 78) C hiX7_ofGate 0 (r_at0 a cI cJ cZ σ) rfl 9 (by decide) lkX7_ofGate_159 (r_fl9 a σ) dX7_ofGate_78 ?_
                exact j_iret (pc := 81) C hr σ rfl hw dX7_ofGate_81
              · have hw := hw.2 z_22
                have q0 := j_ne z_12 0 (by decide)
                have q1 := j_ne z_13 1 (by decide)
                have q2 := j_ne z_15 2 (by decide)
                have q3 := j_ne z_17 3 (by decide)
                have q4 := j_ne z_19 4 (by decide)
                have q5 := j_ne z_21 5 (by decide)
                have q6 := j_ne z_22 6 (by decide)
                refine j_tableOut (pc := 1) C 82 dX7_ofGate_1 (by omega) (by decide) ?_
                refine j_bipush (pc := 82) (v := (-2)) C dX7_ofGate_82 (by decide) ?_
                exact j_iret (pc := 84) C hr σ rfl hw dX7_ofGate_84

def rmX7_busy : Room := { frames := 1, cells := 0, slots := 0, locals := 22 }
theorem hiX7_busy : ∀ w ∈ u_ws RX7 TX7 50, w ∈ wsX7_busy := fun w h => List.mem_cons_of_mem _ (List.mem_append_right _ h)
theorem lkX7_busy_261 : Cond.fieldLink yX7_busy.cls 261 (TX7 14).1 (TX7 14).2.1 (TX7 14).2.2.1 ∈ wsX7_busy := by decide +kernel
theorem lkX7_busy_146 : Cond.fieldLink yX7_busy.cls 146 (TX7 0).1 (TX7 0).2.1 (TX7 0).2.2.1 ∈ wsX7_busy := by decide +kernel
def wX7_busy_23 (N : Nat) : Nat → jRS → Int32 → Int32 → Int32 → (Int64 → jRS → Prop) → Prop
  | 0, _, _, _, _, _ => False
  | n + 1, σ, x1, x2, x3, post => ((x3 ≤ 0) → (((¬ (σ.1 0 0) = 0) → (((¬ x1 = 0) → ((¬ x2 = 0) ∧ post (((σ.1 0 0) / x2).toInt64) σ)) ∧ ((x1 = 0) → ((¬ x2 = 0) ∧ post (((σ.1 0 14) / x2).toInt64) σ)))) ∧ (((σ.1 0 0) = 0) → (post x1.toInt64 σ)))) ∧ ((¬ x3 ≤ 0) → ((¬ x3 = 0) ∧ ∀ x4_18 : Int32, x4_18 = x2 - x2 / x3 * x3 → wX7_busy_23 N n σ x1 x3 x4_18 post))
set_option maxHeartbeats 4000000 in
set_option maxRecDepth 100000 in
theorem kX7_busy_23 {p : Program} {l : Launch} {e : Env} {s : State} {m : MethodId} {args : Array Value} {below : List Frame} {meth : Method} {c : Code} {D : va_G} {cI cJ cZ cO : ClassId} {a : Nat → Nat} {A : Nat → Prop} {N : Nat} {post : Int64 → jRS → Prop} (C : jC p s m args meth c cX7_busy 5 yX7_busy.cls wsX7_busy D (jT cI cJ cZ cO) A) (hr : meth.sig.returnType = (some .long)) (hG : jG0 A s) : ∀ (n : Nat) (σ : jRS) (x1 : Int32) (x2 : Int32) (x3 : Int32), wX7_busy_23 N n σ x1 x2 x3 post → jJ p l e rmX7_busy s m args below meth c 0 0 (MQ below (va_Ql post (jE D (jT cI cJ cZ cO) A (rcells a cI cJ cZ)) A) args s 0 0 A) D A 5 (rcells a cI cJ cZ σ) [(0, .ref (a 0)), (1, .int x1), (2, .int x2), (3, .int x3)] 23 [] := by
  intro n
  induction n with
  | zero =>
    intro σ x1 x2 x3 hw
    exact False.elim hw
  | succ n ih =>
    intro σ x1 x2 x3 hw
    unfold wX7_busy_23 at hw
    refine j_iload_n (pc := 23) C dX7_busy_23 3 rfl rfl ?_
    refine j_if_le (pc := 24) C 40 dX7_busy_24 (by decide) (fun z_12 => ?_) (fun z_12 => ?_)
    · have hw := hw.1 z_12
      refine j_aload_n (pc := 40) C dX7_busy_40 0 rfl rfl ?_
      refine j_get (ref := RX7) (pc := 41) C hiX7_busy 0 (r_at0 a cI cJ cZ σ) rfl 0 (by decide) lkX7_busy_146 (r_fl0 a σ) dX7_busy_41 ?_
      refine j_if_ne (pc := 44) C 50 dX7_busy_44 (by decide) (fun z_13 => ?_) (fun z_13 => ?_)
      · have hw := hw.1 z_13
        refine j_iload_n (pc := 50) C dX7_busy_50 1 rfl rfl ?_
        refine j_if_ne (pc := 51) C 64 dX7_busy_51 (by decide) (fun z_14 => ?_) (fun z_14 => ?_)
        · have hw := hw.1 z_14
          refine j_aload_n (pc := 64) C dX7_busy_64 0 rfl rfl ?_
          refine j_get (ref := RX7) (pc := 65) C hiX7_busy 0 (r_at0 a cI cJ cZ σ) rfl 0 (by decide) lkX7_busy_146 (r_fl0 a σ) dX7_busy_65 ?_
          refine j_iload_n (pc := 68) C dX7_busy_68 2 rfl rfl ?_
          obtain ⟨h_15, hw⟩ := hw
          refine j_idiv (pc := 69) C dX7_busy_69 h_15 ?_
          refine j_i2l (pc := 70) C dX7_busy_70 ?_
          exact j_lret (pc := 71) C hr σ rfl hw dX7_busy_71
        · have hw := hw.2 z_14
          refine j_aload_n (pc := 54) C dX7_busy_54 0 rfl rfl ?_
          refine j_get (ref := RX7) (pc := 55) C hiX7_busy 0 (r_at0 a cI cJ cZ σ) rfl 14 (by decide) lkX7_busy_261 (r_fl14 a σ) dX7_busy_55 ?_
          refine j_iload_n (pc := 58) C dX7_busy_58 2 rfl rfl ?_
          obtain ⟨h_16, hw⟩ := hw
          refine j_idiv (pc := 59) C dX7_busy_59 h_16 ?_
          refine j_i2l (pc := 60) C dX7_busy_60 ?_
          refine j_goto (pc := 61) C 71 dX7_busy_61 (by decide) ?_
          exact j_lret (pc := 71) C hr σ rfl hw dX7_busy_71
      · have hw := hw.2 z_13
        refine j_iload_n (pc := 47) C dX7_busy_47 1 rfl rfl ?_
        refine j_i2l (pc := 48) C dX7_busy_48 ?_
        exact j_lret (pc := 49) C hr σ rfl hw dX7_busy_49
    · have hw := hw.2 z_12
      refine j_iload_n (pc := 27) C dX7_busy_27 2 rfl rfl ?_
      refine j_iload_n (pc := 28) C dX7_busy_28 3 rfl rfl ?_
      obtain ⟨h_17, hw⟩ := hw
      refine j_irem (pc := 29) C dX7_busy_29 h_17 ?_
      refine j_topi (fun x4_18 ex4_18 => ?_)
      have hw := hw x4_18 ex4_18
      refine j_istore (pc := 30) (lv' := [(0, .ref (a 0)), (1, .int x1), (2, .int x2), (3, .int x3), (4, .int x4_18)]) C [1, 2, 3, 4, 0] dX7_busy_30 (by decide) rfl ?_
      refine j_iload_n (pc := 32) C dX7_busy_32 3 rfl rfl ?_
      refine j_istore_n (pc := 33) (lv' := [(0, .ref (a 0)), (1, .int x1), (2, .int x3), (3, .int x3), (4, .int x4_18)]) C [1, 2, 0, 3, 4] dX7_busy_33 rfl (by decide) rfl ?_
      refine j_iload (pc := 34) C dX7_busy_34 4 rfl ?_
      refine j_istore_n (pc := 36) (lv' := [(0, .ref (a 0)), (1, .int x1), (2, .int x3), (3, .int x4_18), (4, .int x4_18)]) C [1, 2, 3, 0, 4] dX7_busy_36 rfl (by decide) rfl ?_
      refine j_goto (pc := 37) C 23 dX7_busy_37 (by decide) ?_
      refine j_sub [0, 1, 2, 3] rfl ?_
      exact ih _ _ _ _ hw
def wX7_busy (N : Nat) (σ : jRS) (x1 : Int32) (post : Int64 → jRS → Prop) : Prop := ∀ r_19 : Int32, r_19 = jwithin x1 0 1 → ((¬ r_19 = 0) → (∀ x2_21 : Int32, x2_21 = σ.1 0 14 → ∀ x3_22 : Int32, x3_22 = σ.1 0 0 → wX7_busy_23 N N σ x1 x2_21 x3_22 post)) ∧ ((r_19 = 0) → (post ((-9223372036854775808)) σ))
set_option maxHeartbeats 4000000 in
set_option maxRecDepth 100000 in
theorem mX7_busy {l : Launch} {D : va_G} {cI cJ cZ cO : ClassId} {a : Nat → Nat} {N : Nat} {σ : jRS} {x1 : Int32} {post : Int64 → jRS → Prop} (hw : wX7_busy N σ x1 post) : jMl l D (jT cI cJ cZ cO) jG0 yX7_busy wsX7_busy rmX7_busy [.ref (a 0), .int x1] (rcells a cI cJ cZ σ) post (rcells a cI cJ cZ) 0 0 := by
  refine j_ofl (cc := cX7_busy) (maxL := 5) (ret := (some .long)) (by decide) rfl (Nat.le_of_ble_eq_true rfl) ?_
  intro p e s m args below meth c A C hr hnm hG
  refine j_sub (lv' := [(0, .ref (a 0)), (1, .int x1)]) [0, 1] rfl ?_
  unfold wX7_busy at hw
  refine j_iload_n (pc := 0) C dX7_busy_0 1 rfl rfl ?_
  refine j_iconst (pc := 1) (v := 0) C dX7_busy_1 (by decide) ?_
  refine j_iconst (pc := 2) (v := 1) C dX7_busy_2 (by decide) ?_
  refine j_scalli (pc := 3) C 3 (mX7_within x1 0 1) gX7_busy_X7_within rfl rfl rfl (by decide +kernel) ⟨by decide, by decide⟩ rfl rfl (Nat.le_of_ble_eq_true rfl) dX7_busy_3 ⟨Nat.le_refl _, Nat.le_refl _⟩ (fun r_19 er_19 => ?_)
  have hw := hw r_19 er_19
  refine j_if_ne (pc := 6) C 13 dX7_busy_6 (by decide) (fun z_20 => ?_) (fun z_20 => ?_)
  · have hw := hw.1 z_20
    refine j_aload_n (pc := 13) C dX7_busy_13 0 rfl rfl ?_
    refine j_get (ref := RX7) (pc := 14) C hiX7_busy 0 (r_at0 a cI cJ cZ σ) rfl 14 (by decide) lkX7_busy_261 (r_fl14 a σ) dX7_busy_14 ?_
    refine j_topi (fun x2_21 ex2_21 => ?_)
    have hw := hw x2_21 ex2_21
    refine j_istore_n (pc := 17) (lv' := [(0, .ref (a 0)), (1, .int x1), (2, .int x2_21)]) C [1, 2, 0] dX7_busy_17 rfl (by decide) rfl ?_
    refine j_aload_n (pc := 18) C dX7_busy_18 0 rfl rfl ?_
    refine j_get (ref := RX7) (pc := 19) C hiX7_busy 0 (r_at0 a cI cJ cZ σ) rfl 0 (by decide) lkX7_busy_146 (r_fl0 a σ) dX7_busy_19 ?_
    refine j_topi (fun x3_22 ex3_22 => ?_)
    have hw := hw x3_22 ex3_22
    refine j_istore_n (pc := 22) (lv' := [(0, .ref (a 0)), (1, .int x1), (2, .int x2_21), (3, .int x3_22)]) C [1, 2, 3, 0] dX7_busy_22 rfl (by decide) rfl ?_
    exact kX7_busy_23 C hr hG N _ _ _ _ hw
  · have hw := hw.2 z_20
    refine j_ldc2 (pc := 9) (v := (-9223372036854775808)) C dX7_busy_9 (by decide +kernel) ?_
    exact j_lret (pc := 12) C hr σ rfl hw dX7_busy_12

def rmX7_ahead : Room := { frames := 0, cells := 0, slots := 0, locals := 0 }
theorem hiX7_ahead : ∀ w ∈ u_ws RX7 TX7 50, w ∈ wsX7_ahead := fun w h => List.mem_cons_of_mem _ (List.mem_append_right _ h)
theorem lkX7_ahead_84 : Cond.fieldLink yX7_ahead.cls 84 (TX7 33).1 (TX7 33).2.1 (TX7 33).2.2.1 ∈ wsX7_ahead := by decide +kernel
theorem lkX7_ahead_146 : Cond.fieldLink yX7_ahead.cls 146 (TX7 0).1 (TX7 0).2.1 (TX7 0).2.2.1 ∈ wsX7_ahead := by decide +kernel
def wX7_ahead (N : Nat) (σ : jRS) (x1 : Int32) (post : Int32 → jRS → Prop) : Prop := vp_in x1 2 ∧ ∀ x2_5 : Int64, x2_5 = (σ.2 x1.toNatClampNeg) - (1000 * ((σ.1 0 0).toInt64)) → (((lg_cmp x2_5 0) ≤ 0) → (post 0 σ)) ∧ ((¬ (lg_cmp x2_5 0) ≤ 0) → (post x2_5.toInt32 σ))
set_option maxHeartbeats 4000000 in
set_option maxRecDepth 100000 in
theorem mX7_ahead {l : Launch} {D : va_G} {cI cJ cZ cO : ClassId} {a : Nat → Nat} {N : Nat} {σ : jRS} {x1 : Int32} {post : Int32 → jRS → Prop} (hw : wX7_ahead N σ x1 post) : jMi l D (jT cI cJ cZ cO) jG0 yX7_ahead wsX7_ahead rmX7_ahead [.ref (a 0), .int x1] (rcells a cI cJ cZ σ) post (rcells a cI cJ cZ) 0 0 := by
  refine j_ofi (cc := cX7_ahead) (maxL := 4) (ret := (some .int)) (by decide) rfl (Nat.le_of_ble_eq_true rfl) ?_
  intro p e s m args below meth c A C hr hnm hG
  refine j_sub (lv' := [(0, .ref (a 0)), (1, .int x1)]) [0, 1] rfl ?_
  unfold wX7_ahead at hw
  refine j_aload_n (pc := 0) C dX7_ahead_0 0 rfl rfl ?_
  refine j_get (ref := RX7) (pc := 1) C hiX7_ahead 0 (r_at0 a cI cJ cZ σ) rfl 33 (by decide) lkX7_ahead_84 (r_fl33 a σ) dX7_ahead_1 ?_
  refine j_iload_n (pc := 4) C dX7_ahead_4 1 rfl rfl ?_
  obtain ⟨h_4, hw⟩ := hw
  refine j_lald (pc := 5) C 21 1 (r_at33 a cI cJ cZ σ) rfl h_4 dX7_ahead_5 ?_
  refine j_ldc2 (pc := 6) (v := 1000) C dX7_ahead_6 (by decide +kernel) ?_
  refine j_aload_n (pc := 9) C dX7_ahead_9 0 rfl rfl ?_
  refine j_get (ref := RX7) (pc := 10) C hiX7_ahead 0 (r_at0 a cI cJ cZ σ) rfl 0 (by decide) lkX7_ahead_146 (r_fl0 a σ) dX7_ahead_10 ?_
  refine j_i2l (pc := 13) C dX7_ahead_13 ?_
  refine j_lmul (pc := 14) C dX7_ahead_14 ?_
  refine j_lsub (pc := 15) C dX7_ahead_15 ?_
  refine j_topl (fun x2_5 ex2_5 => ?_)
  have hw := hw x2_5 ex2_5
  refine j_lstore_n (pc := 16) (lv' := [(0, .ref (a 0)), (1, .int x1), (2, .long x2_5)]) C [1, 2, 0] dX7_ahead_16 rfl (by decide) rfl ?_
  refine j_lload_n (pc := 17) C dX7_ahead_17 2 rfl rfl ?_
  refine j_lconst (pc := 18) (v := 0) C dX7_ahead_18 (by decide) ?_
  refine j_lcmp (pc := 19) C dX7_ahead_19 ?_
  refine j_if_le (pc := 20) C 28 dX7_ahead_20 (by decide) (fun z_6 => ?_) (fun z_6 => ?_)
  · have hw := hw.1 z_6
    refine j_iconst (pc := 28) (v := 0) C dX7_ahead_28 (by decide) ?_
    exact j_iret (pc := 29) C hr σ rfl hw dX7_ahead_29
  · have hw := hw.2 z_6
    refine j_lload_n (pc := 23) C dX7_ahead_23 2 rfl rfl ?_
    refine j_l2i (pc := 24) C dX7_ahead_24 ?_
    refine j_goto (pc := 25) C 29 dX7_ahead_25 (by decide) ?_
    exact j_iret (pc := 29) C hr σ rfl hw dX7_ahead_29

def rmX7_ofSender : Room := { frames := 2, cells := 0, slots := 0, locals := 44 }
theorem hiX7_ofSender : ∀ w ∈ u_ws RX7 TX7 50, w ∈ wsX7_ofSender := fun w h => List.mem_cons_of_mem _ (List.mem_append_right _ h)
theorem lkX7_ofSender_103 : Cond.fieldLink yX7_ofSender.cls 103 (TX7 39).1 (TX7 39).2.1 (TX7 39).2.2.1 ∈ wsX7_ofSender := by decide +kernel
theorem lkX7_ofSender_32 : Cond.fieldLink yX7_ofSender.cls 32 (TX7 16).1 (TX7 16).2.1 (TX7 16).2.2.1 ∈ wsX7_ofSender := by decide +kernel
theorem lkX7_ofSender_60 : Cond.fieldLink yX7_ofSender.cls 60 (TX7 25).1 (TX7 25).2.1 (TX7 25).2.2.1 ∈ wsX7_ofSender := by decide +kernel
theorem lkX7_ofSender_75 : Cond.fieldLink yX7_ofSender.cls 75 (TX7 30).1 (TX7 30).2.1 (TX7 30).2.2.1 ∈ wsX7_ofSender := by decide +kernel
theorem lkX7_ofSender_78 : Cond.fieldLink yX7_ofSender.cls 78 (TX7 31).1 (TX7 31).2.1 (TX7 31).2.2.1 ∈ wsX7_ofSender := by decide +kernel
theorem lkX7_ofSender_69 : Cond.fieldLink yX7_ofSender.cls 69 (TX7 28).1 (TX7 28).2.1 (TX7 28).2.2.1 ∈ wsX7_ofSender := by decide +kernel
theorem lkX7_ofSender_88 : Cond.fieldLink yX7_ofSender.cls 88 (TX7 34).1 (TX7 34).2.1 (TX7 34).2.2.1 ∈ wsX7_ofSender := by decide +kernel
theorem lkX7_ofSender_54 : Cond.fieldLink yX7_ofSender.cls 54 (TX7 23).1 (TX7 23).2.1 (TX7 23).2.2.1 ∈ wsX7_ofSender := by decide +kernel
theorem lkX7_ofSender_66 : Cond.fieldLink yX7_ofSender.cls 66 (TX7 27).1 (TX7 27).2.1 (TX7 27).2.2.1 ∈ wsX7_ofSender := by decide +kernel
theorem lkX7_ofSender_57 : Cond.fieldLink yX7_ofSender.cls 57 (TX7 24).1 (TX7 24).2.1 (TX7 24).2.2.1 ∈ wsX7_ofSender := by decide +kernel
def wX7_ofSender (N : Nat) (σ : jRS) (x1 : Int32) (x2 : Int32) (post : Int32 → jRS → Prop) : Prop := ∀ r_35 : Int32, r_35 = jisSender x1 → ((¬ r_35 = 0) → (((x2 = 0) → (vp_in x1 2 ∧ post (σ.1 39 x1.toNatClampNeg) σ)) ∧ ((¬ x2 = 0) → (((x2 = 1) → (vp_in x1 2 ∧ post (σ.1 16 x1.toNatClampNeg) σ)) ∧ ((¬ x2 = 1) → (((x2 = 2) → (vp_in x1 2 ∧ post (σ.1 25 x1.toNatClampNeg) σ)) ∧ ((¬ x2 = 2) → (((x2 = 3) → (vp_in x1 2 ∧ post (σ.1 30 x1.toNatClampNeg) σ)) ∧ ((¬ x2 = 3) → (((x2 = 4) → (vp_in x1 2 ∧ post (σ.1 31 x1.toNatClampNeg) σ)) ∧ ((¬ x2 = 4) → (((x2 = 5) → (wX7_product N σ x1 (fun r_48 s_49 => post r_48.toInt32 s_49))) ∧ ((¬ x2 = 5) → (((x2 = 6) → (wX7_window N σ x1 (fun r_51 s_52 => post r_51.toInt32 s_52))) ∧ ((¬ x2 = 6) → (((x2 = 7) → (wX7_gain N σ x1 (fun r_54 s_55 => post r_54 s_55))) ∧ ((¬ x2 = 7) → (((x2 = 8) → (vp_in x1 2 ∧ post (σ.1 28 x1.toNatClampNeg) σ)) ∧ ((¬ x2 = 8) → (((x2 = 9) → (vp_in x1 2 ∧ post (σ.1 34 x1.toNatClampNeg) σ)) ∧ ((¬ x2 = 9) → (((x2 = 10) → (vp_in x1 2 ∧ post (σ.1 23 x1.toNatClampNeg) σ)) ∧ ((¬ x2 = 10) → (((x2 = 11) → (vp_in x1 2 ∧ post (σ.1 27 x1.toNatClampNeg) σ)) ∧ ((¬ x2 = 11) → (((x2 = 12) → (vp_in x1 2 ∧ post (σ.1 24 x1.toNatClampNeg) σ)) ∧ ((¬ x2 = 12) → (((x2 = 13) → (wX7_ahead N σ x1 (fun r_67 s_68 => post r_67 s_68))) ∧ ((¬ x2 = 13) → (post ((-2)) σ)))))))))))))))))))))))))))))) ∧ ((r_35 = 0) → (post ((-1)) σ))
set_option maxHeartbeats 4000000 in
set_option maxRecDepth 100000 in
theorem mX7_ofSender {l : Launch} {D : va_G} {cI cJ cZ cO : ClassId} {a : Nat → Nat} {N : Nat} {σ : jRS} {x1 x2 : Int32} {post : Int32 → jRS → Prop} (hw : wX7_ofSender N σ x1 x2 post) : jMi l D (jT cI cJ cZ cO) jG0 yX7_ofSender wsX7_ofSender rmX7_ofSender [.ref (a 0), .int x1, .int x2] (rcells a cI cJ cZ σ) post (rcells a cI cJ cZ) 0 0 := by
  refine j_ofi (cc := cX7_ofSender) (maxL := 3) (ret := (some .int)) (by decide) rfl (Nat.le_of_ble_eq_true rfl) ?_
  intro p e s m args below meth c A C hr hnm hG
  refine j_sub (lv' := [(0, .ref (a 0)), (1, .int x1), (2, .int x2)]) [0, 1, 2] rfl ?_
  unfold wX7_ofSender at hw
  refine j_iload_n (pc := 0) C dX7_ofSender_0 1 rfl rfl ?_
  refine j_scalli (pc := 1) C 1 (mX7_isSender x1) gX7_ofSender_X7_isSender rfl rfl rfl (by decide +kernel) ⟨by decide, by decide⟩ rfl rfl (Nat.le_of_ble_eq_true rfl) dX7_ofSender_1 ⟨Nat.le_refl _, Nat.le_refl _⟩ (fun r_35 er_35 => ?_)
  have hw := hw r_35 er_35
  refine j_if_ne (pc := 4) C 9 dX7_ofSender_4 (by decide) (fun z_36 => ?_) (fun z_36 => ?_)
  · have hw := hw.1 z_36
    refine j_iload_n (pc := 9) C dX7_ofSender_9 2 rfl rfl ?_
    by_cases z_37 : x2 = 0
    · have hw := hw.1 z_37
      refine j_tableIn (pc := 10) C 80 dX7_ofSender_10 (by rw [z_37]; decide) (by rw [z_37]; decide) (by rw [z_37]; rfl) (by decide) ?_
      refine j_aload_n (pc := 80) C dX7_ofSender_80 0 rfl rfl ?_
      refine j_get (ref := RX7) (pc := 81) C hiX7_ofSender 0 (r_at0 a cI cJ cZ σ) rfl 39 (by decide) lkX7_ofSender_103 (r_fl39 a σ) dX7_ofSender_81 ?_
      refine j_iload_n (pc := 84) C dX7_ofSender_84 1 rfl rfl ?_
      obtain ⟨h_38, hw⟩ := hw
      refine j_iald (pc := 85) C 27 0 (r_at39 a cI cJ cZ σ) rfl h_38 dX7_ofSender_85 ?_
      exact j_iret (pc := 86) C hr σ rfl hw dX7_ofSender_86
    · have hw := hw.2 z_37
      by_cases z_39 : x2 = 1
      · have hw := hw.1 z_39
        refine j_tableIn (pc := 10) C 87 dX7_ofSender_10 (by rw [z_39]; decide) (by rw [z_39]; decide) (by rw [z_39]; rfl) (by decide) ?_
        refine j_aload_n (pc := 87) C dX7_ofSender_87 0 rfl rfl ?_
        refine j_get (ref := RX7) (pc := 88) C hiX7_ofSender 0 (r_at0 a cI cJ cZ σ) rfl 16 (by decide) lkX7_ofSender_32 (r_fl16 a σ) dX7_ofSender_88 ?_
        refine j_iload_n (pc := 91) C dX7_ofSender_91 1 rfl rfl ?_
        obtain ⟨h_40, hw⟩ := hw
        refine j_iald (pc := 92) C 4 0 (r_at16 a cI cJ cZ σ) rfl h_40 dX7_ofSender_92 ?_
        exact j_iret (pc := 93) C hr σ rfl hw dX7_ofSender_93
      · have hw := hw.2 z_39
        by_cases z_41 : x2 = 2
        · have hw := hw.1 z_41
          refine j_tableIn (pc := 10) C 94 dX7_ofSender_10 (by rw [z_41]; decide) (by rw [z_41]; decide) (by rw [z_41]; rfl) (by decide) ?_
          refine j_aload_n (pc := 94) C dX7_ofSender_94 0 rfl rfl ?_
          refine j_get (ref := RX7) (pc := 95) C hiX7_ofSender 0 (r_at0 a cI cJ cZ σ) rfl 25 (by decide) lkX7_ofSender_60 (r_fl25 a σ) dX7_ofSender_95 ?_
          refine j_iload_n (pc := 98) C dX7_ofSender_98 1 rfl rfl ?_
          obtain ⟨h_42, hw⟩ := hw
          refine j_iald (pc := 99) C 13 0 (r_at25 a cI cJ cZ σ) rfl h_42 dX7_ofSender_99 ?_
          exact j_iret (pc := 100) C hr σ rfl hw dX7_ofSender_100
        · have hw := hw.2 z_41
          by_cases z_43 : x2 = 3
          · have hw := hw.1 z_43
            refine j_tableIn (pc := 10) C 101 dX7_ofSender_10 (by rw [z_43]; decide) (by rw [z_43]; decide) (by rw [z_43]; rfl) (by decide) ?_
            refine j_aload_n (pc := 101) C dX7_ofSender_101 0 rfl rfl ?_
            refine j_get (ref := RX7) (pc := 102) C hiX7_ofSender 0 (r_at0 a cI cJ cZ σ) rfl 30 (by decide) lkX7_ofSender_75 (r_fl30 a σ) dX7_ofSender_102 ?_
            refine j_iload_n (pc := 105) C dX7_ofSender_105 1 rfl rfl ?_
            obtain ⟨h_44, hw⟩ := hw
            refine j_iald (pc := 106) C 18 0 (r_at30 a cI cJ cZ σ) rfl h_44 dX7_ofSender_106 ?_
            exact j_iret (pc := 107) C hr σ rfl hw dX7_ofSender_107
          · have hw := hw.2 z_43
            by_cases z_45 : x2 = 4
            · have hw := hw.1 z_45
              refine j_tableIn (pc := 10) C 108 dX7_ofSender_10 (by rw [z_45]; decide) (by rw [z_45]; decide) (by rw [z_45]; rfl) (by decide) ?_
              refine j_aload_n (pc := 108) C dX7_ofSender_108 0 rfl rfl ?_
              refine j_get (ref := RX7) (pc := 109) C hiX7_ofSender 0 (r_at0 a cI cJ cZ σ) rfl 31 (by decide) lkX7_ofSender_78 (r_fl31 a σ) dX7_ofSender_109 ?_
              refine j_iload_n (pc := 112) C dX7_ofSender_112 1 rfl rfl ?_
              obtain ⟨h_46, hw⟩ := hw
              refine j_iald (pc := 113) C 19 0 (r_at31 a cI cJ cZ σ) rfl h_46 dX7_ofSender_113 ?_
              exact j_iret (pc := 114) C hr σ rfl hw dX7_ofSender_114
            · have hw := hw.2 z_45
              by_cases z_47 : x2 = 5
              · have hw := hw.1 z_47
                refine j_tableIn (pc := 10) C 115 dX7_ofSender_10 (by rw [z_47]; decide) (by rw [z_47]; decide) (by rw [z_47]; rfl) (by decide) ?_
                refine j_aload_n (pc := 115) C dX7_ofSender_115 0 rfl rfl ?_
                refine j_iload_n (pc := 116) C dX7_ofSender_116 1 rfl rfl ?_
                refine j_calll0 (pc := 117) C jG0_ok trivial 1 (mX7_product hw) gX7_ofSender_X7_product rfl rfl rfl (by decide +kernel) ⟨by decide, by decide⟩ 0 (r_at0 a cI cJ cZ σ) rfl rfl rfl (Nat.le_of_ble_eq_true rfl) dX7_ofSender_117 ⟨Nat.le_refl _, Nat.le_refl _⟩ (fun r_48 s_49 hw => ?_)
                refine j_l2i (pc := 120) C dX7_ofSender_120 ?_
                exact j_iret (pc := 121) C hr s_49 rfl hw dX7_ofSender_121
              · have hw := hw.2 z_47
                by_cases z_50 : x2 = 6
                · have hw := hw.1 z_50
                  refine j_tableIn (pc := 10) C 122 dX7_ofSender_10 (by rw [z_50]; decide) (by rw [z_50]; decide) (by rw [z_50]; rfl) (by decide) ?_
                  refine j_aload_n (pc := 122) C dX7_ofSender_122 0 rfl rfl ?_
                  refine j_iload_n (pc := 123) C dX7_ofSender_123 1 rfl rfl ?_
                  refine j_calll0 (pc := 124) C jG0_ok trivial 1 (mX7_window hw) gX7_ofSender_X7_window rfl rfl rfl (by decide +kernel) ⟨by decide, by decide⟩ 0 (r_at0 a cI cJ cZ σ) rfl rfl rfl (Nat.le_of_ble_eq_true rfl) dX7_ofSender_124 ⟨Nat.le_refl _, Nat.le_refl _⟩ (fun r_51 s_52 hw => ?_)
                  refine j_l2i (pc := 127) C dX7_ofSender_127 ?_
                  exact j_iret (pc := 128) C hr s_52 rfl hw dX7_ofSender_128
                · have hw := hw.2 z_50
                  by_cases z_53 : x2 = 7
                  · have hw := hw.1 z_53
                    refine j_tableIn (pc := 10) C 129 dX7_ofSender_10 (by rw [z_53]; decide) (by rw [z_53]; decide) (by rw [z_53]; rfl) (by decide) ?_
                    refine j_aload_n (pc := 129) C dX7_ofSender_129 0 rfl rfl ?_
                    refine j_iload_n (pc := 130) C dX7_ofSender_130 1 rfl rfl ?_
                    refine j_calli0 (pc := 131) C jG0_ok trivial 1 (mX7_gain hw) gX7_ofSender_X7_gain rfl rfl rfl (by decide +kernel) ⟨by decide, by decide⟩ 0 (r_at0 a cI cJ cZ σ) rfl rfl rfl (Nat.le_of_ble_eq_true rfl) dX7_ofSender_131 ⟨Nat.le_refl _, Nat.le_refl _⟩ (fun r_54 s_55 hw => ?_)
                    exact j_iret (pc := 134) C hr s_55 rfl hw dX7_ofSender_134
                  · have hw := hw.2 z_53
                    by_cases z_56 : x2 = 8
                    · have hw := hw.1 z_56
                      refine j_tableIn (pc := 10) C 135 dX7_ofSender_10 (by rw [z_56]; decide) (by rw [z_56]; decide) (by rw [z_56]; rfl) (by decide) ?_
                      refine j_aload_n (pc := 135) C dX7_ofSender_135 0 rfl rfl ?_
                      refine j_get (ref := RX7) (pc := 136) C hiX7_ofSender 0 (r_at0 a cI cJ cZ σ) rfl 28 (by decide) lkX7_ofSender_69 (r_fl28 a σ) dX7_ofSender_136 ?_
                      refine j_iload_n (pc := 139) C dX7_ofSender_139 1 rfl rfl ?_
                      obtain ⟨h_57, hw⟩ := hw
                      refine j_iald (pc := 140) C 16 0 (r_at28 a cI cJ cZ σ) rfl h_57 dX7_ofSender_140 ?_
                      exact j_iret (pc := 141) C hr σ rfl hw dX7_ofSender_141
                    · have hw := hw.2 z_56
                      by_cases z_58 : x2 = 9
                      · have hw := hw.1 z_58
                        refine j_tableIn (pc := 10) C 142 dX7_ofSender_10 (by rw [z_58]; decide) (by rw [z_58]; decide) (by rw [z_58]; rfl) (by decide) ?_
                        refine j_aload_n (pc := 142) C dX7_ofSender_142 0 rfl rfl ?_
                        refine j_get (ref := RX7) (pc := 143) C hiX7_ofSender 0 (r_at0 a cI cJ cZ σ) rfl 34 (by decide) lkX7_ofSender_88 (r_fl34 a σ) dX7_ofSender_143 ?_
                        refine j_iload_n (pc := 146) C dX7_ofSender_146 1 rfl rfl ?_
                        obtain ⟨h_59, hw⟩ := hw
                        refine j_iald (pc := 147) C 22 0 (r_at34 a cI cJ cZ σ) rfl h_59 dX7_ofSender_147 ?_
                        exact j_iret (pc := 148) C hr σ rfl hw dX7_ofSender_148
                      · have hw := hw.2 z_58
                        by_cases z_60 : x2 = 10
                        · have hw := hw.1 z_60
                          refine j_tableIn (pc := 10) C 149 dX7_ofSender_10 (by rw [z_60]; decide) (by rw [z_60]; decide) (by rw [z_60]; rfl) (by decide) ?_
                          refine j_aload_n (pc := 149) C dX7_ofSender_149 0 rfl rfl ?_
                          refine j_get (ref := RX7) (pc := 150) C hiX7_ofSender 0 (r_at0 a cI cJ cZ σ) rfl 23 (by decide) lkX7_ofSender_54 (r_fl23 a σ) dX7_ofSender_150 ?_
                          refine j_iload_n (pc := 153) C dX7_ofSender_153 1 rfl rfl ?_
                          obtain ⟨h_61, hw⟩ := hw
                          refine j_iald (pc := 154) C 11 0 (r_at23 a cI cJ cZ σ) rfl h_61 dX7_ofSender_154 ?_
                          exact j_iret (pc := 155) C hr σ rfl hw dX7_ofSender_155
                        · have hw := hw.2 z_60
                          by_cases z_62 : x2 = 11
                          · have hw := hw.1 z_62
                            refine j_tableIn (pc := 10) C 156 dX7_ofSender_10 (by rw [z_62]; decide) (by rw [z_62]; decide) (by rw [z_62]; rfl) (by decide) ?_
                            refine j_aload_n (pc := 156) C dX7_ofSender_156 0 rfl rfl ?_
                            refine j_get (ref := RX7) (pc := 157) C hiX7_ofSender 0 (r_at0 a cI cJ cZ σ) rfl 27 (by decide) lkX7_ofSender_66 (r_fl27 a σ) dX7_ofSender_157 ?_
                            refine j_iload_n (pc := 160) C dX7_ofSender_160 1 rfl rfl ?_
                            obtain ⟨h_63, hw⟩ := hw
                            refine j_iald (pc := 161) C 15 0 (r_at27 a cI cJ cZ σ) rfl h_63 dX7_ofSender_161 ?_
                            exact j_iret (pc := 162) C hr σ rfl hw dX7_ofSender_162
                          · have hw := hw.2 z_62
                            by_cases z_64 : x2 = 12
                            · have hw := hw.1 z_64
                              refine j_tableIn (pc := 10) C 163 dX7_ofSender_10 (by rw [z_64]; decide) (by rw [z_64]; decide) (by rw [z_64]; rfl) (by decide) ?_
                              refine j_aload_n (pc := 163) C dX7_ofSender_163 0 rfl rfl ?_
                              refine j_get (ref := RX7) (pc := 164) C hiX7_ofSender 0 (r_at0 a cI cJ cZ σ) rfl 24 (by decide) lkX7_ofSender_57 (r_fl24 a σ) dX7_ofSender_164 ?_
                              refine j_iload_n (pc := 167) C dX7_ofSender_167 1 rfl rfl ?_
                              obtain ⟨h_65, hw⟩ := hw
                              refine j_iald (pc := 168) C 12 0 (r_at24 a cI cJ cZ σ) rfl h_65 dX7_ofSender_168 ?_
                              exact j_iret (pc := 169) C hr σ rfl hw dX7_ofSender_169
                            · have hw := hw.2 z_64
                              by_cases z_66 : x2 = 13
                              · have hw := hw.1 z_66
                                refine j_tableIn (pc := 10) C 170 dX7_ofSender_10 (by rw [z_66]; decide) (by rw [z_66]; decide) (by rw [z_66]; rfl) (by decide) ?_
                                refine j_aload_n (pc := 170) C dX7_ofSender_170 0 rfl rfl ?_
                                refine j_iload_n (pc := 171) C dX7_ofSender_171 1 rfl rfl ?_
                                refine j_calli0 (pc := 172) C jG0_ok trivial 1 (mX7_ahead hw) gX7_ofSender_X7_ahead rfl rfl rfl (by decide +kernel) ⟨by decide, by decide⟩ 0 (r_at0 a cI cJ cZ σ) rfl rfl rfl (Nat.le_of_ble_eq_true rfl) dX7_ofSender_172 ⟨Nat.le_refl _, Nat.le_refl _⟩ (fun r_67 s_68 hw => ?_)
                                exact j_iret (pc := 175) C hr s_68 rfl hw dX7_ofSender_175
                              · have hw := hw.2 z_66
                                have q0 := j_ne z_37 0 (by decide)
                                have q1 := j_ne z_39 1 (by decide)
                                have q2 := j_ne z_41 2 (by decide)
                                have q3 := j_ne z_43 3 (by decide)
                                have q4 := j_ne z_45 4 (by decide)
                                have q5 := j_ne z_47 5 (by decide)
                                have q6 := j_ne z_50 6 (by decide)
                                have q7 := j_ne z_53 7 (by decide)
                                have q8 := j_ne z_56 8 (by decide)
                                have q9 := j_ne z_58 9 (by decide)
                                have q10 := j_ne z_60 10 (by decide)
                                have q11 := j_ne z_62 11 (by decide)
                                have q12 := j_ne z_64 12 (by decide)
                                have q13 := j_ne z_66 13 (by decide)
                                refine j_tableOut (pc := 10) C 176 dX7_ofSender_10 (by omega) (by decide) ?_
                                refine j_bipush (pc := 176) (v := (-2)) C dX7_ofSender_176 (by decide) ?_
                                exact j_iret (pc := 178) C hr σ rfl hw dX7_ofSender_178
  · have hw := hw.2 z_36
    refine j_iconst (pc := 7) (v := (-1)) C dX7_ofSender_7 (by decide) ?_
    exact j_iret (pc := 8) C hr σ rfl hw dX7_ofSender_8

def rmX7_sample : Room := { frames := 2, cells := 0, slots := 0, locals := 42 }
theorem hiX7_sample : ∀ w ∈ u_ws RX7 TX7 50, w ∈ wsX7_sample := fun w h => List.mem_cons_of_mem _ (List.mem_append_right _ h)
theorem lkX7_sample_94 : Cond.fieldLink yX7_sample.cls 94 (TX7 36).1 (TX7 36).2.1 (TX7 36).2.2.1 ∈ wsX7_sample := by decide +kernel
theorem lkX7_sample_91 : Cond.fieldLink yX7_sample.cls 91 (TX7 35).1 (TX7 35).2.1 (TX7 35).2.2.1 ∈ wsX7_sample := by decide +kernel
theorem lkX7_sample_100 : Cond.fieldLink yX7_sample.cls 100 (TX7 38).1 (TX7 38).2.1 (TX7 38).2.2.1 ∈ wsX7_sample := by decide +kernel
theorem lkX7_sample_97 : Cond.fieldLink yX7_sample.cls 97 (TX7 37).1 (TX7 37).2.1 (TX7 37).2.2.1 ∈ wsX7_sample := by decide +kernel
def wX7_sample (N : Nat) (σ : jRS) (x1 : Int32) (x2 : Int32) (x3 : Int32) (post : Int32 → jRS → Prop) : Prop := ∀ r_12 : Int32, r_12 = jisSender x1 → ((r_12 = 0) → (post ((-1)) σ)) ∧ ((¬ r_12 = 0) → (vp_in x1 2 ∧ ∀ r_15 : Int32, r_15 = jwithin x2 0 ((σ.1 36 x1.toNatClampNeg) - 1) → ((¬ r_15 = 0) → (vp_in x1 2 ∧ ∀ x4_18 : Int32, x4_18 = (8192 * x1) + (((σ.1 35 x1.toNatClampNeg) + x2) - ((σ.1 35 x1.toNatClampNeg) + x2) / 8192 * 8192) → ((¬ x3 = 0) → (((¬ x3 = 1) → (post ((-2)) σ)) ∧ ((x3 = 1) → (vp_in x4_18 16384 ∧ post (σ.1 38 x4_18.toNatClampNeg) σ)))) ∧ ((x3 = 0) → (vp_in x4_18 16384 ∧ post (σ.1 37 x4_18.toNatClampNeg) σ)))) ∧ ((r_15 = 0) → (post ((-1)) σ))))
set_option maxHeartbeats 4000000 in
set_option maxRecDepth 100000 in
theorem mX7_sample {l : Launch} {D : va_G} {cI cJ cZ cO : ClassId} {a : Nat → Nat} {N : Nat} {σ : jRS} {x1 x2 x3 : Int32} {post : Int32 → jRS → Prop} (hw : wX7_sample N σ x1 x2 x3 post) : jMi l D (jT cI cJ cZ cO) jG0 yX7_sample wsX7_sample rmX7_sample [.ref (a 0), .int x1, .int x2, .int x3] (rcells a cI cJ cZ σ) post (rcells a cI cJ cZ) 0 0 := by
  refine j_ofi (cc := cX7_sample) (maxL := 5) (ret := (some .int)) (by decide) rfl (Nat.le_of_ble_eq_true rfl) ?_
  intro p e s m args below meth c A C hr hnm hG
  refine j_sub (lv' := [(0, .ref (a 0)), (1, .int x1), (2, .int x2), (3, .int x3)]) [0, 1, 2, 3] rfl ?_
  unfold wX7_sample at hw
  refine j_iload_n (pc := 0) C dX7_sample_0 1 rfl rfl ?_
  refine j_scalli (pc := 1) C 1 (mX7_isSender x1) gX7_sample_X7_isSender rfl rfl rfl (by decide +kernel) ⟨by decide, by decide⟩ rfl rfl (Nat.le_of_ble_eq_true rfl) dX7_sample_1 ⟨Nat.le_refl _, Nat.le_refl _⟩ (fun r_12 er_12 => ?_)
  have hw := hw r_12 er_12
  refine j_if_eq (pc := 4) C 23 dX7_sample_4 (by decide) (fun z_13 => ?_) (fun z_13 => ?_)
  · have hw := hw.1 z_13
    refine j_iconst (pc := 23) (v := (-1)) C dX7_sample_23 (by decide) ?_
    exact j_iret (pc := 24) C hr σ rfl hw dX7_sample_24
  · have hw := hw.2 z_13
    refine j_iload_n (pc := 7) C dX7_sample_7 2 rfl rfl ?_
    refine j_iconst (pc := 8) (v := 0) C dX7_sample_8 (by decide) ?_
    refine j_aload_n (pc := 9) C dX7_sample_9 0 rfl rfl ?_
    refine j_get (ref := RX7) (pc := 10) C hiX7_sample 0 (r_at0 a cI cJ cZ σ) rfl 36 (by decide) lkX7_sample_94 (r_fl36 a σ) dX7_sample_10 ?_
    refine j_iload_n (pc := 13) C dX7_sample_13 1 rfl rfl ?_
    obtain ⟨h_14, hw⟩ := hw
    refine j_iald (pc := 14) C 24 0 (r_at36 a cI cJ cZ σ) rfl h_14 dX7_sample_14 ?_
    refine j_iconst (pc := 15) (v := 1) C dX7_sample_15 (by decide) ?_
    refine j_isub (pc := 16) C dX7_sample_16 ?_
    refine j_scalli (pc := 17) C 3 (mX7_within x2 0 ((σ.1 36 x1.toNatClampNeg) - 1)) gX7_sample_X7_within rfl rfl rfl (by decide +kernel) ⟨by decide, by decide⟩ rfl rfl (Nat.le_of_ble_eq_true rfl) dX7_sample_17 ⟨Nat.le_refl _, Nat.le_refl _⟩ (fun r_15 er_15 => ?_)
    have hw := hw r_15 er_15
    refine j_if_ne (pc := 20) C 25 dX7_sample_20 (by decide) (fun z_16 => ?_) (fun z_16 => ?_)
    · have hw := hw.1 z_16
      refine j_sipush (pc := 25) (v := 8192) C dX7_sample_25 (by decide) ?_
      refine j_iload_n (pc := 28) C dX7_sample_28 1 rfl rfl ?_
      refine j_imul (pc := 29) C dX7_sample_29 ?_
      refine j_aload_n (pc := 30) C dX7_sample_30 0 rfl rfl ?_
      refine j_get (ref := RX7) (pc := 31) C hiX7_sample 0 (r_at0 a cI cJ cZ σ) rfl 35 (by decide) lkX7_sample_91 (r_fl35 a σ) dX7_sample_31 ?_
      refine j_iload_n (pc := 34) C dX7_sample_34 1 rfl rfl ?_
      obtain ⟨h_17, hw⟩ := hw
      refine j_iald (pc := 35) C 23 0 (r_at35 a cI cJ cZ σ) rfl h_17 dX7_sample_35 ?_
      refine j_iload_n (pc := 36) C dX7_sample_36 2 rfl rfl ?_
      refine j_iadd (pc := 37) C dX7_sample_37 ?_
      refine j_sipush (pc := 38) (v := 8192) C dX7_sample_38 (by decide) ?_
      refine j_irem (pc := 41) C dX7_sample_41 (by decide) ?_
      refine j_iadd (pc := 42) C dX7_sample_42 ?_
      refine j_topi (fun x4_18 ex4_18 => ?_)
      have hw := hw x4_18 ex4_18
      refine j_istore (pc := 43) (lv' := [(0, .ref (a 0)), (1, .int x1), (2, .int x2), (3, .int x3), (4, .int x4_18)]) C [1, 2, 3, 4, 0] dX7_sample_43 (by decide) rfl ?_
      refine j_iload_n (pc := 45) C dX7_sample_45 3 rfl rfl ?_
      refine j_if_ne (pc := 46) C 59 dX7_sample_46 (by decide) (fun z_19 => ?_) (fun z_19 => ?_)
      · have hw := hw.1 z_19
        refine j_iload_n (pc := 59) C dX7_sample_59 3 rfl rfl ?_
        refine j_iconst (pc := 60) (v := 1) C dX7_sample_60 (by decide) ?_
        refine j_icmp_ne (pc := 61) C 74 dX7_sample_61 (by decide) (fun z_20 => ?_) (fun z_20 => ?_)
        · have hw := hw.1 z_20
          refine j_bipush (pc := 74) (v := (-2)) C dX7_sample_74 (by decide) ?_
          exact j_iret (pc := 76) C hr σ rfl hw dX7_sample_76
        · have hw := hw.2 z_20
          refine j_aload_n (pc := 64) C dX7_sample_64 0 rfl rfl ?_
          refine j_get (ref := RX7) (pc := 65) C hiX7_sample 0 (r_at0 a cI cJ cZ σ) rfl 38 (by decide) lkX7_sample_100 (r_fl38 a σ) dX7_sample_65 ?_
          refine j_iload (pc := 68) C dX7_sample_68 4 rfl ?_
          obtain ⟨h_21, hw⟩ := hw
          refine j_iald (pc := 70) C 26 0 (r_at38 a cI cJ cZ σ) rfl h_21 dX7_sample_70 ?_
          refine j_goto (pc := 71) C 76 dX7_sample_71 (by decide) ?_
          exact j_iret (pc := 76) C hr σ rfl hw dX7_sample_76
      · have hw := hw.2 z_19
        refine j_aload_n (pc := 49) C dX7_sample_49 0 rfl rfl ?_
        refine j_get (ref := RX7) (pc := 50) C hiX7_sample 0 (r_at0 a cI cJ cZ σ) rfl 37 (by decide) lkX7_sample_97 (r_fl37 a σ) dX7_sample_50 ?_
        refine j_iload (pc := 53) C dX7_sample_53 4 rfl ?_
        obtain ⟨h_22, hw⟩ := hw
        refine j_iald (pc := 55) C 25 0 (r_at37 a cI cJ cZ σ) rfl h_22 dX7_sample_55 ?_
        refine j_goto (pc := 56) C 76 dX7_sample_56 (by decide) ?_
        exact j_iret (pc := 76) C hr σ rfl hw dX7_sample_76
    · have hw := hw.2 z_16
      refine j_iconst (pc := 23) (v := (-1)) C dX7_sample_23 (by decide) ?_
      exact j_iret (pc := 24) C hr σ rfl hw dX7_sample_24

def rmX7_best : Room := { frames := 2, cells := 0, slots := 0, locals := 42 }
theorem hiX7_best : ∀ w ∈ u_ws RX7 TX7 50, w ∈ wsX7_best := fun w h => List.mem_cons_of_mem _ (List.mem_append_right _ h)
theorem lkX7_best_69 : Cond.fieldLink yX7_best.cls 69 (TX7 28).1 (TX7 28).2.1 (TX7 28).2.2.1 ∈ wsX7_best := by decide +kernel
def wX7_best (N : Nat) (σ : jRS) (x1 : Int32) (x2 : Int32) (post : Int32 → jRS → Prop) : Prop := ∀ r_8 : Int32, r_8 = jisSender x1 → ((¬ r_8 = 0) → (∀ r_10 : Int32, r_10 = jwithin x2 1 10 → ((r_10 = 0) → (post ((-2)) σ)) ∧ ((¬ r_10 = 0) → (vp_in x1 2 ∧ wX7_greatestFrom N σ x1 (((σ.1 28 x1.toNatClampNeg) - x2) + 1) (fun r_13 s_14 => post r_13 s_14))))) ∧ ((r_8 = 0) → (post ((-1)) σ))
set_option maxHeartbeats 4000000 in
set_option maxRecDepth 100000 in
theorem mX7_best {l : Launch} {D : va_G} {cI cJ cZ cO : ClassId} {a : Nat → Nat} {N : Nat} {σ : jRS} {x1 x2 : Int32} {post : Int32 → jRS → Prop} (hw : wX7_best N σ x1 x2 post) : jMi l D (jT cI cJ cZ cO) jG0 yX7_best wsX7_best rmX7_best [.ref (a 0), .int x1, .int x2] (rcells a cI cJ cZ σ) post (rcells a cI cJ cZ) 0 0 := by
  refine j_ofi (cc := cX7_best) (maxL := 3) (ret := (some .int)) (by decide) rfl (Nat.le_of_ble_eq_true rfl) ?_
  intro p e s m args below meth c A C hr hnm hG
  refine j_sub (lv' := [(0, .ref (a 0)), (1, .int x1), (2, .int x2)]) [0, 1, 2] rfl ?_
  unfold wX7_best at hw
  refine j_iload_n (pc := 0) C dX7_best_0 1 rfl rfl ?_
  refine j_scalli (pc := 1) C 1 (mX7_isSender x1) gX7_best_X7_isSender rfl rfl rfl (by decide +kernel) ⟨by decide, by decide⟩ rfl rfl (Nat.le_of_ble_eq_true rfl) dX7_best_1 ⟨Nat.le_refl _, Nat.le_refl _⟩ (fun r_8 er_8 => ?_)
  have hw := hw r_8 er_8
  refine j_if_ne (pc := 4) C 9 dX7_best_4 (by decide) (fun z_9 => ?_) (fun z_9 => ?_)
  · have hw := hw.1 z_9
    refine j_iload_n (pc := 9) C dX7_best_9 2 rfl rfl ?_
    refine j_iconst (pc := 10) (v := 1) C dX7_best_10 (by decide) ?_
    refine j_bipush (pc := 11) (v := 10) C dX7_best_11 (by decide) ?_
    refine j_scalli (pc := 13) C 3 (mX7_within x2 1 10) gX7_best_X7_within rfl rfl rfl (by decide +kernel) ⟨by decide, by decide⟩ rfl rfl (Nat.le_of_ble_eq_true rfl) dX7_best_13 ⟨Nat.le_refl _, Nat.le_refl _⟩ (fun r_10 er_10 => ?_)
    have hw := hw r_10 er_10
    refine j_if_eq (pc := 16) C 37 dX7_best_16 (by decide) (fun z_11 => ?_) (fun z_11 => ?_)
    · have hw := hw.1 z_11
      refine j_bipush (pc := 37) (v := (-2)) C dX7_best_37 (by decide) ?_
      exact j_iret (pc := 39) C hr σ rfl hw dX7_best_39
    · have hw := hw.2 z_11
      refine j_aload_n (pc := 19) C dX7_best_19 0 rfl rfl ?_
      refine j_iload_n (pc := 20) C dX7_best_20 1 rfl rfl ?_
      refine j_aload_n (pc := 21) C dX7_best_21 0 rfl rfl ?_
      refine j_get (ref := RX7) (pc := 22) C hiX7_best 0 (r_at0 a cI cJ cZ σ) rfl 28 (by decide) lkX7_best_69 (r_fl28 a σ) dX7_best_22 ?_
      refine j_iload_n (pc := 25) C dX7_best_25 1 rfl rfl ?_
      obtain ⟨h_12, hw⟩ := hw
      refine j_iald (pc := 26) C 16 0 (r_at28 a cI cJ cZ σ) rfl h_12 dX7_best_26 ?_
      refine j_iload_n (pc := 27) C dX7_best_27 2 rfl rfl ?_
      refine j_isub (pc := 28) C dX7_best_28 ?_
      refine j_iconst (pc := 29) (v := 1) C dX7_best_29 (by decide) ?_
      refine j_iadd (pc := 30) C dX7_best_30 ?_
      refine j_calli0 (pc := 31) C jG0_ok trivial 2 (mX7_greatestFrom hw) gX7_best_X7_greatestFrom rfl rfl rfl (by decide +kernel) ⟨by decide, by decide⟩ 0 (r_at0 a cI cJ cZ σ) rfl rfl rfl (Nat.le_of_ble_eq_true rfl) dX7_best_31 ⟨Nat.le_refl _, Nat.le_refl _⟩ (fun r_13 s_14 hw => ?_)
      refine j_goto (pc := 34) C 39 dX7_best_34 (by decide) ?_
      exact j_iret (pc := 39) C hr s_14 rfl hw dX7_best_39
  · have hw := hw.2 z_9
    refine j_iconst (pc := 7) (v := (-1)) C dX7_best_7 (by decide) ?_
    exact j_iret (pc := 8) C hr σ rfl hw dX7_best_8

def rmX7_letter : Room := { frames := 2, cells := 0, slots := 0, locals := 42 }
theorem hiX7_letter : ∀ w ∈ u_ws RX7 TX7 50, w ∈ wsX7_letter := fun w h => List.mem_cons_of_mem _ (List.mem_append_right _ h)
theorem lkX7_letter_32 : Cond.fieldLink yX7_letter.cls 32 (TX7 16).1 (TX7 16).2.1 (TX7 16).2.2.1 ∈ wsX7_letter := by decide +kernel
theorem lkX7_letter_35 : Cond.fieldLink yX7_letter.cls 35 (TX7 17).1 (TX7 17).2.1 (TX7 17).2.2.1 ∈ wsX7_letter := by decide +kernel
theorem lkX7_letter_38 : Cond.fieldLink yX7_letter.cls 38 (TX7 18).1 (TX7 18).2.1 (TX7 18).2.2.1 ∈ wsX7_letter := by decide +kernel
theorem lkX7_letter_47 : Cond.fieldLink yX7_letter.cls 47 (TX7 21).1 (TX7 21).2.1 (TX7 21).2.2.1 ∈ wsX7_letter := by decide +kernel
theorem lkX7_letter_51 : Cond.fieldLink yX7_letter.cls 51 (TX7 22).1 (TX7 22).2.1 (TX7 22).2.2.1 ∈ wsX7_letter := by decide +kernel
def wX7_letter (N : Nat) (σ : jRS) (x1 : Int32) (x2 : Int32) (x3 : Int32) (post : Int32 → jRS → Prop) : Prop := ∀ r_17 : Int32, r_17 = jisSender x1 → ((r_17 = 0) → (post ((-1)) σ)) ∧ ((¬ r_17 = 0) → (vp_in x1 2 ∧ ∀ r_20 : Int32, r_20 = jwithin x2 0 ((σ.1 16 x1.toNatClampNeg) - 1) → ((¬ r_20 = 0) → (∀ x4_22 : Int32, x4_22 = (512 * x1) + x2 → ((x3 = 0) → (vp_in x4_22 1024 ∧ post (σ.1 17 x4_22.toNatClampNeg) σ)) ∧ ((¬ x3 = 0) → (((x3 = 1) → (vp_in x4_22 1024 ∧ post (σ.1 18 x4_22.toNatClampNeg) σ)) ∧ ((¬ x3 = 1) → (((x3 = 2) → (vp_in x4_22 1024 ∧ (((σ.1 21 x4_22.toNatClampNeg) = 0) → (post 0 σ)) ∧ ((¬ (σ.1 21 x4_22.toNatClampNeg) = 0) → (post 1 σ)))) ∧ ((¬ x3 = 2) → (((x3 = 3) → (vp_in x4_22 1024 ∧ (((σ.1 22 x4_22.toNatClampNeg) = ((-9))) → (post 0 σ)) ∧ ((¬ (σ.1 22 x4_22.toNatClampNeg) = ((-9))) → (post 1 σ)))) ∧ ((¬ x3 = 3) → (post ((-2)) σ)))))))))) ∧ ((r_20 = 0) → (post ((-1)) σ))))
set_option maxHeartbeats 4000000 in
set_option maxRecDepth 100000 in
theorem mX7_letter {l : Launch} {D : va_G} {cI cJ cZ cO : ClassId} {a : Nat → Nat} {N : Nat} {σ : jRS} {x1 x2 x3 : Int32} {post : Int32 → jRS → Prop} (hw : wX7_letter N σ x1 x2 x3 post) : jMi l D (jT cI cJ cZ cO) jG0 yX7_letter wsX7_letter rmX7_letter [.ref (a 0), .int x1, .int x2, .int x3] (rcells a cI cJ cZ σ) post (rcells a cI cJ cZ) 0 0 := by
  refine j_ofi (cc := cX7_letter) (maxL := 5) (ret := (some .int)) (by decide) rfl (Nat.le_of_ble_eq_true rfl) ?_
  intro p e s m args below meth c A C hr hnm hG
  refine j_sub (lv' := [(0, .ref (a 0)), (1, .int x1), (2, .int x2), (3, .int x3)]) [0, 1, 2, 3] rfl ?_
  unfold wX7_letter at hw
  refine j_iload_n (pc := 0) C dX7_letter_0 1 rfl rfl ?_
  refine j_scalli (pc := 1) C 1 (mX7_isSender x1) gX7_letter_X7_isSender rfl rfl rfl (by decide +kernel) ⟨by decide, by decide⟩ rfl rfl (Nat.le_of_ble_eq_true rfl) dX7_letter_1 ⟨Nat.le_refl _, Nat.le_refl _⟩ (fun r_17 er_17 => ?_)
  have hw := hw r_17 er_17
  refine j_if_eq (pc := 4) C 23 dX7_letter_4 (by decide) (fun z_18 => ?_) (fun z_18 => ?_)
  · have hw := hw.1 z_18
    refine j_iconst (pc := 23) (v := (-1)) C dX7_letter_23 (by decide) ?_
    exact j_iret (pc := 24) C hr σ rfl hw dX7_letter_24
  · have hw := hw.2 z_18
    refine j_iload_n (pc := 7) C dX7_letter_7 2 rfl rfl ?_
    refine j_iconst (pc := 8) (v := 0) C dX7_letter_8 (by decide) ?_
    refine j_aload_n (pc := 9) C dX7_letter_9 0 rfl rfl ?_
    refine j_get (ref := RX7) (pc := 10) C hiX7_letter 0 (r_at0 a cI cJ cZ σ) rfl 16 (by decide) lkX7_letter_32 (r_fl16 a σ) dX7_letter_10 ?_
    refine j_iload_n (pc := 13) C dX7_letter_13 1 rfl rfl ?_
    obtain ⟨h_19, hw⟩ := hw
    refine j_iald (pc := 14) C 4 0 (r_at16 a cI cJ cZ σ) rfl h_19 dX7_letter_14 ?_
    refine j_iconst (pc := 15) (v := 1) C dX7_letter_15 (by decide) ?_
    refine j_isub (pc := 16) C dX7_letter_16 ?_
    refine j_scalli (pc := 17) C 3 (mX7_within x2 0 ((σ.1 16 x1.toNatClampNeg) - 1)) gX7_letter_X7_within rfl rfl rfl (by decide +kernel) ⟨by decide, by decide⟩ rfl rfl (Nat.le_of_ble_eq_true rfl) dX7_letter_17 ⟨Nat.le_refl _, Nat.le_refl _⟩ (fun r_20 er_20 => ?_)
    have hw := hw r_20 er_20
    refine j_if_ne (pc := 20) C 25 dX7_letter_20 (by decide) (fun z_21 => ?_) (fun z_21 => ?_)
    · have hw := hw.1 z_21
      refine j_sipush (pc := 25) (v := 512) C dX7_letter_25 (by decide) ?_
      refine j_iload_n (pc := 28) C dX7_letter_28 1 rfl rfl ?_
      refine j_imul (pc := 29) C dX7_letter_29 ?_
      refine j_iload_n (pc := 30) C dX7_letter_30 2 rfl rfl ?_
      refine j_iadd (pc := 31) C dX7_letter_31 ?_
      refine j_topi (fun x4_22 ex4_22 => ?_)
      have hw := hw x4_22 ex4_22
      refine j_istore (pc := 32) (lv' := [(0, .ref (a 0)), (1, .int x1), (2, .int x2), (3, .int x3), (4, .int x4_22)]) C [1, 2, 3, 4, 0] dX7_letter_32 (by decide) rfl ?_
      refine j_iload_n (pc := 34) C dX7_letter_34 3 rfl rfl ?_
      by_cases z_23 : x3 = 0
      · have hw := hw.1 z_23
        refine j_tableIn (pc := 35) C 64 dX7_letter_35 (by rw [z_23]; decide) (by rw [z_23]; decide) (by rw [z_23]; rfl) (by decide) ?_
        refine j_aload_n (pc := 64) C dX7_letter_64 0 rfl rfl ?_
        refine j_get (ref := RX7) (pc := 65) C hiX7_letter 0 (r_at0 a cI cJ cZ σ) rfl 17 (by decide) lkX7_letter_35 (r_fl17 a σ) dX7_letter_65 ?_
        refine j_iload (pc := 68) C dX7_letter_68 4 rfl ?_
        obtain ⟨h_24, hw⟩ := hw
        refine j_iald (pc := 70) C 5 0 (r_at17 a cI cJ cZ σ) rfl h_24 dX7_letter_70 ?_
        exact j_iret (pc := 71) C hr σ rfl hw dX7_letter_71
      · have hw := hw.2 z_23
        by_cases z_25 : x3 = 1
        · have hw := hw.1 z_25
          refine j_tableIn (pc := 35) C 72 dX7_letter_35 (by rw [z_25]; decide) (by rw [z_25]; decide) (by rw [z_25]; rfl) (by decide) ?_
          refine j_aload_n (pc := 72) C dX7_letter_72 0 rfl rfl ?_
          refine j_get (ref := RX7) (pc := 73) C hiX7_letter 0 (r_at0 a cI cJ cZ σ) rfl 18 (by decide) lkX7_letter_38 (r_fl18 a σ) dX7_letter_73 ?_
          refine j_iload (pc := 76) C dX7_letter_76 4 rfl ?_
          obtain ⟨h_26, hw⟩ := hw
          refine j_iald (pc := 78) C 6 0 (r_at18 a cI cJ cZ σ) rfl h_26 dX7_letter_78 ?_
          exact j_iret (pc := 79) C hr σ rfl hw dX7_letter_79
        · have hw := hw.2 z_25
          by_cases z_27 : x3 = 2
          · have hw := hw.1 z_27
            refine j_tableIn (pc := 35) C 80 dX7_letter_35 (by rw [z_27]; decide) (by rw [z_27]; decide) (by rw [z_27]; rfl) (by decide) ?_
            refine j_aload_n (pc := 80) C dX7_letter_80 0 rfl rfl ?_
            refine j_get (ref := RX7) (pc := 81) C hiX7_letter 0 (r_at0 a cI cJ cZ σ) rfl 21 (by decide) lkX7_letter_47 (r_fl21 a σ) dX7_letter_81 ?_
            refine j_iload (pc := 84) C dX7_letter_84 4 rfl ?_
            obtain ⟨h_28, hw⟩ := hw
            refine j_zald (pc := 86) C 9 2 (r_at21 a cI cJ cZ σ) rfl h_28 dX7_letter_86 ?_
            refine j_if_eq (pc := 87) C 94 dX7_letter_87 (by decide) (fun z_29 => ?_) (fun z_29 => ?_)
            · have hw := hw.1 z_29
              refine j_iconst (pc := 94) (v := 0) C dX7_letter_94 (by decide) ?_
              exact j_iret (pc := 95) C hr σ rfl hw dX7_letter_95
            · have hw := hw.2 z_29
              refine j_iconst (pc := 90) (v := 1) C dX7_letter_90 (by decide) ?_
              refine j_goto (pc := 91) C 95 dX7_letter_91 (by decide) ?_
              exact j_iret (pc := 95) C hr σ rfl hw dX7_letter_95
          · have hw := hw.2 z_27
            by_cases z_30 : x3 = 3
            · have hw := hw.1 z_30
              refine j_tableIn (pc := 35) C 96 dX7_letter_35 (by rw [z_30]; decide) (by rw [z_30]; decide) (by rw [z_30]; rfl) (by decide) ?_
              refine j_aload_n (pc := 96) C dX7_letter_96 0 rfl rfl ?_
              refine j_get (ref := RX7) (pc := 97) C hiX7_letter 0 (r_at0 a cI cJ cZ σ) rfl 22 (by decide) lkX7_letter_51 (r_fl22 a σ) dX7_letter_97 ?_
              refine j_iload (pc := 100) C dX7_letter_100 4 rfl ?_
              obtain ⟨h_31, hw⟩ := hw
              refine j_iald (pc := 102) C 10 0 (r_at22 a cI cJ cZ σ) rfl h_31 dX7_letter_102 ?_
              refine j_bipush (pc := 103) (v := (-9)) C dX7_letter_103 (by decide) ?_
              refine j_icmp_eq (pc := 105) C 112 dX7_letter_105 (by decide) (fun z_32 => ?_) (fun z_32 => ?_)
              · have hw := hw.1 z_32
                refine j_iconst (pc := 112) (v := 0) C dX7_letter_112 (by decide) ?_
                exact j_iret (pc := 113) C hr σ rfl hw dX7_letter_113
              · have hw := hw.2 z_32
                refine j_iconst (pc := 108) (v := 1) C dX7_letter_108 (by decide) ?_
                refine j_goto (pc := 109) C 113 dX7_letter_109 (by decide) ?_
                exact j_iret (pc := 113) C hr σ rfl hw dX7_letter_113
            · have hw := hw.2 z_30
              have q0 := j_ne z_23 0 (by decide)
              have q1 := j_ne z_25 1 (by decide)
              have q2 := j_ne z_27 2 (by decide)
              have q3 := j_ne z_30 3 (by decide)
              refine j_tableOut (pc := 35) C 114 dX7_letter_35 (by omega) (by decide) ?_
              refine j_bipush (pc := 114) (v := (-2)) C dX7_letter_114 (by decide) ?_
              exact j_iret (pc := 116) C hr σ rfl hw dX7_letter_116
    · have hw := hw.2 z_21
      refine j_iconst (pc := 23) (v := (-1)) C dX7_letter_23 (by decide) ?_
      exact j_iret (pc := 24) C hr σ rfl hw dX7_letter_24

def rmX7_phase : Room := { frames := 2, cells := 0, slots := 0, locals := 42 }
theorem hiX7_phase : ∀ w ∈ u_ws RX7 TX7 50, w ∈ wsX7_phase := fun w h => List.mem_cons_of_mem _ (List.mem_append_right _ h)
theorem lkX7_phase_103 : Cond.fieldLink yX7_phase.cls 103 (TX7 39).1 (TX7 39).2.1 (TX7 39).2.2.1 ∈ wsX7_phase := by decide +kernel
theorem lkX7_phase_146 : Cond.fieldLink yX7_phase.cls 146 (TX7 0).1 (TX7 0).2.1 (TX7 0).2.2.1 ∈ wsX7_phase := by decide +kernel
theorem lkX7_phase_109 : Cond.fieldLink yX7_phase.cls 109 (TX7 41).1 (TX7 41).2.1 (TX7 41).2.2.1 ∈ wsX7_phase := by decide +kernel
theorem lkX7_phase_106 : Cond.fieldLink yX7_phase.cls 106 (TX7 40).1 (TX7 40).2.1 (TX7 40).2.2.1 ∈ wsX7_phase := by decide +kernel
def wX7_phase (N : Nat) (σ : jRS) (x1 : Int32) (x2 : Int32) (post : Int32 → jRS → Prop) : Prop := ∀ r_10 : Int32, r_10 = jisSender x1 → ((¬ r_10 = 0) → (∀ r_12 : Int32, r_12 = jwithin x2 0 1 → ((¬ r_12 = 0) → (vp_in x1 2 ∧ (((σ.1 39 x1.toNatClampNeg) = 2) → (((¬ x2 = 0) → (vp_in x1 2 ∧ post ((σ.1 0 0) - (σ.1 41 x1.toNatClampNeg)) σ)) ∧ ((x2 = 0) → (vp_in x1 2 ∧ post (σ.1 40 x1.toNatClampNeg) σ)))) ∧ ((¬ (σ.1 39 x1.toNatClampNeg) = 2) → (post ((-9)) σ)))) ∧ ((r_12 = 0) → (post ((-2)) σ)))) ∧ ((r_10 = 0) → (post ((-1)) σ))
set_option maxHeartbeats 4000000 in
set_option maxRecDepth 100000 in
theorem mX7_phase {l : Launch} {D : va_G} {cI cJ cZ cO : ClassId} {a : Nat → Nat} {N : Nat} {σ : jRS} {x1 x2 : Int32} {post : Int32 → jRS → Prop} (hw : wX7_phase N σ x1 x2 post) : jMi l D (jT cI cJ cZ cO) jG0 yX7_phase wsX7_phase rmX7_phase [.ref (a 0), .int x1, .int x2] (rcells a cI cJ cZ σ) post (rcells a cI cJ cZ) 0 0 := by
  refine j_ofi (cc := cX7_phase) (maxL := 3) (ret := (some .int)) (by decide) rfl (Nat.le_of_ble_eq_true rfl) ?_
  intro p e s m args below meth c A C hr hnm hG
  refine j_sub (lv' := [(0, .ref (a 0)), (1, .int x1), (2, .int x2)]) [0, 1, 2] rfl ?_
  unfold wX7_phase at hw
  refine j_iload_n (pc := 0) C dX7_phase_0 1 rfl rfl ?_
  refine j_scalli (pc := 1) C 1 (mX7_isSender x1) gX7_phase_X7_isSender rfl rfl rfl (by decide +kernel) ⟨by decide, by decide⟩ rfl rfl (Nat.le_of_ble_eq_true rfl) dX7_phase_1 ⟨Nat.le_refl _, Nat.le_refl _⟩ (fun r_10 er_10 => ?_)
  have hw := hw r_10 er_10
  refine j_if_ne (pc := 4) C 9 dX7_phase_4 (by decide) (fun z_11 => ?_) (fun z_11 => ?_)
  · have hw := hw.1 z_11
    refine j_iload_n (pc := 9) C dX7_phase_9 2 rfl rfl ?_
    refine j_iconst (pc := 10) (v := 0) C dX7_phase_10 (by decide) ?_
    refine j_iconst (pc := 11) (v := 1) C dX7_phase_11 (by decide) ?_
    refine j_scalli (pc := 12) C 3 (mX7_within x2 0 1) gX7_phase_X7_within rfl rfl rfl (by decide +kernel) ⟨by decide, by decide⟩ rfl rfl (Nat.le_of_ble_eq_true rfl) dX7_phase_12 ⟨Nat.le_refl _, Nat.le_refl _⟩ (fun r_12 er_12 => ?_)
    have hw := hw r_12 er_12
    refine j_if_ne (pc := 15) C 21 dX7_phase_15 (by decide) (fun z_13 => ?_) (fun z_13 => ?_)
    · have hw := hw.1 z_13
      refine j_aload_n (pc := 21) C dX7_phase_21 0 rfl rfl ?_
      refine j_get (ref := RX7) (pc := 22) C hiX7_phase 0 (r_at0 a cI cJ cZ σ) rfl 39 (by decide) lkX7_phase_103 (r_fl39 a σ) dX7_phase_22 ?_
      refine j_iload_n (pc := 25) C dX7_phase_25 1 rfl rfl ?_
      obtain ⟨h_14, hw⟩ := hw
      refine j_iald (pc := 26) C 27 0 (r_at39 a cI cJ cZ σ) rfl h_14 dX7_phase_26 ?_
      refine j_iconst (pc := 27) (v := 2) C dX7_phase_27 (by decide) ?_
      refine j_icmp_eq (pc := 28) C 34 dX7_phase_28 (by decide) (fun z_15 => ?_) (fun z_15 => ?_)
      · have hw := hw.1 z_15
        refine j_iload_n (pc := 34) C dX7_phase_34 2 rfl rfl ?_
        refine j_if_ne (pc := 35) C 47 dX7_phase_35 (by decide) (fun z_16 => ?_) (fun z_16 => ?_)
        · have hw := hw.1 z_16
          refine j_aload_n (pc := 47) C dX7_phase_47 0 rfl rfl ?_
          refine j_get (ref := RX7) (pc := 48) C hiX7_phase 0 (r_at0 a cI cJ cZ σ) rfl 0 (by decide) lkX7_phase_146 (r_fl0 a σ) dX7_phase_48 ?_
          refine j_aload_n (pc := 51) C dX7_phase_51 0 rfl rfl ?_
          refine j_get (ref := RX7) (pc := 52) C hiX7_phase 0 (r_at0 a cI cJ cZ σ) rfl 41 (by decide) lkX7_phase_109 (r_fl41 a σ) dX7_phase_52 ?_
          refine j_iload_n (pc := 55) C dX7_phase_55 1 rfl rfl ?_
          obtain ⟨h_17, hw⟩ := hw
          refine j_iald (pc := 56) C 29 0 (r_at41 a cI cJ cZ σ) rfl h_17 dX7_phase_56 ?_
          refine j_isub (pc := 57) C dX7_phase_57 ?_
          exact j_iret (pc := 58) C hr σ rfl hw dX7_phase_58
        · have hw := hw.2 z_16
          refine j_aload_n (pc := 38) C dX7_phase_38 0 rfl rfl ?_
          refine j_get (ref := RX7) (pc := 39) C hiX7_phase 0 (r_at0 a cI cJ cZ σ) rfl 40 (by decide) lkX7_phase_106 (r_fl40 a σ) dX7_phase_39 ?_
          refine j_iload_n (pc := 42) C dX7_phase_42 1 rfl rfl ?_
          obtain ⟨h_18, hw⟩ := hw
          refine j_iald (pc := 43) C 28 0 (r_at40 a cI cJ cZ σ) rfl h_18 dX7_phase_43 ?_
          refine j_goto (pc := 44) C 58 dX7_phase_44 (by decide) ?_
          exact j_iret (pc := 58) C hr σ rfl hw dX7_phase_58
      · have hw := hw.2 z_15
        refine j_bipush (pc := 31) (v := (-9)) C dX7_phase_31 (by decide) ?_
        exact j_iret (pc := 33) C hr σ rfl hw dX7_phase_33
    · have hw := hw.2 z_13
      refine j_bipush (pc := 18) (v := (-2)) C dX7_phase_18 (by decide) ?_
      exact j_iret (pc := 20) C hr σ rfl hw dX7_phase_20
  · have hw := hw.2 z_11
    refine j_iconst (pc := 7) (v := (-1)) C dX7_phase_7 (by decide) ?_
    exact j_iret (pc := 8) C hr σ rfl hw dX7_phase_8

def rmX7_untilEnd : Room := { frames := 0, cells := 0, slots := 0, locals := 0 }
theorem hiX7_untilEnd : ∀ w ∈ u_ws RX7 TX7 50, w ∈ wsX7_untilEnd := fun w h => List.mem_cons_of_mem _ (List.mem_append_right _ h)
theorem lkX7_untilEnd_103 : Cond.fieldLink yX7_untilEnd.cls 103 (TX7 39).1 (TX7 39).2.1 (TX7 39).2.2.1 ∈ wsX7_untilEnd := by decide +kernel
theorem lkX7_untilEnd_115 : Cond.fieldLink yX7_untilEnd.cls 115 (TX7 43).1 (TX7 43).2.1 (TX7 43).2.2.1 ∈ wsX7_untilEnd := by decide +kernel
theorem lkX7_untilEnd_146 : Cond.fieldLink yX7_untilEnd.cls 146 (TX7 0).1 (TX7 0).2.1 (TX7 0).2.2.1 ∈ wsX7_untilEnd := by decide +kernel
def wX7_untilEnd (N : Nat) (σ : jRS) (x1 : Int32) (post : Int32 → jRS → Prop) : Prop := vp_in x1 2 ∧ ((¬ (σ.1 39 x1.toNatClampNeg) = 3) → (post ((-9)) σ)) ∧ (((σ.1 39 x1.toNatClampNeg) = 3) → (vp_in x1 2 ∧ ((¬ (σ.1 43 x1.toNatClampNeg) = ((-9))) → (vp_in x1 2 ∧ (((σ.1 43 x1.toNatClampNeg) ≤ (σ.1 0 0)) → (post 0 σ)) ∧ ((¬ (σ.1 43 x1.toNatClampNeg) ≤ (σ.1 0 0)) → (vp_in x1 2 ∧ post ((σ.1 43 x1.toNatClampNeg) - (σ.1 0 0)) σ)))) ∧ (((σ.1 43 x1.toNatClampNeg) = ((-9))) → (post ((-9)) σ))))
set_option maxHeartbeats 4000000 in
set_option maxRecDepth 100000 in
theorem mX7_untilEnd {l : Launch} {D : va_G} {cI cJ cZ cO : ClassId} {a : Nat → Nat} {N : Nat} {σ : jRS} {x1 : Int32} {post : Int32 → jRS → Prop} (hw : wX7_untilEnd N σ x1 post) : jMi l D (jT cI cJ cZ cO) jG0 yX7_untilEnd wsX7_untilEnd rmX7_untilEnd [.ref (a 0), .int x1] (rcells a cI cJ cZ σ) post (rcells a cI cJ cZ) 0 0 := by
  refine j_ofi (cc := cX7_untilEnd) (maxL := 2) (ret := (some .int)) (by decide) rfl (Nat.le_of_ble_eq_true rfl) ?_
  intro p e s m args below meth c A C hr hnm hG
  refine j_sub (lv' := [(0, .ref (a 0)), (1, .int x1)]) [0, 1] rfl ?_
  unfold wX7_untilEnd at hw
  refine j_aload_n (pc := 0) C dX7_untilEnd_0 0 rfl rfl ?_
  refine j_get (ref := RX7) (pc := 1) C hiX7_untilEnd 0 (r_at0 a cI cJ cZ σ) rfl 39 (by decide) lkX7_untilEnd_103 (r_fl39 a σ) dX7_untilEnd_1 ?_
  refine j_iload_n (pc := 4) C dX7_untilEnd_4 1 rfl rfl ?_
  obtain ⟨h_8, hw⟩ := hw
  refine j_iald (pc := 5) C 27 0 (r_at39 a cI cJ cZ σ) rfl h_8 dX7_untilEnd_5 ?_
  refine j_iconst (pc := 6) (v := 3) C dX7_untilEnd_6 (by decide) ?_
  refine j_icmp_ne (pc := 7) C 21 dX7_untilEnd_7 (by decide) (fun z_9 => ?_) (fun z_9 => ?_)
  · have hw := hw.1 z_9
    refine j_bipush (pc := 21) (v := (-9)) C dX7_untilEnd_21 (by decide) ?_
    exact j_iret (pc := 23) C hr σ rfl hw dX7_untilEnd_23
  · have hw := hw.2 z_9
    refine j_aload_n (pc := 10) C dX7_untilEnd_10 0 rfl rfl ?_
    refine j_get (ref := RX7) (pc := 11) C hiX7_untilEnd 0 (r_at0 a cI cJ cZ σ) rfl 43 (by decide) lkX7_untilEnd_115 (r_fl43 a σ) dX7_untilEnd_11 ?_
    refine j_iload_n (pc := 14) C dX7_untilEnd_14 1 rfl rfl ?_
    obtain ⟨h_10, hw⟩ := hw
    refine j_iald (pc := 15) C 31 0 (r_at43 a cI cJ cZ σ) rfl h_10 dX7_untilEnd_15 ?_
    refine j_bipush (pc := 16) (v := (-9)) C dX7_untilEnd_16 (by decide) ?_
    refine j_icmp_ne (pc := 18) C 24 dX7_untilEnd_18 (by decide) (fun z_11 => ?_) (fun z_11 => ?_)
    · have hw := hw.1 z_11
      refine j_aload_n (pc := 24) C dX7_untilEnd_24 0 rfl rfl ?_
      refine j_get (ref := RX7) (pc := 25) C hiX7_untilEnd 0 (r_at0 a cI cJ cZ σ) rfl 43 (by decide) lkX7_untilEnd_115 (r_fl43 a σ) dX7_untilEnd_25 ?_
      refine j_iload_n (pc := 28) C dX7_untilEnd_28 1 rfl rfl ?_
      obtain ⟨h_12, hw⟩ := hw
      refine j_iald (pc := 29) C 31 0 (r_at43 a cI cJ cZ σ) rfl h_12 dX7_untilEnd_29 ?_
      refine j_aload_n (pc := 30) C dX7_untilEnd_30 0 rfl rfl ?_
      refine j_get (ref := RX7) (pc := 31) C hiX7_untilEnd 0 (r_at0 a cI cJ cZ σ) rfl 0 (by decide) lkX7_untilEnd_146 (r_fl0 a σ) dX7_untilEnd_31 ?_
      refine j_icmp_le (pc := 34) C 51 dX7_untilEnd_34 (by decide) (fun z_13 => ?_) (fun z_13 => ?_)
      · have hw := hw.1 z_13
        refine j_iconst (pc := 51) (v := 0) C dX7_untilEnd_51 (by decide) ?_
        exact j_iret (pc := 52) C hr σ rfl hw dX7_untilEnd_52
      · have hw := hw.2 z_13
        refine j_aload_n (pc := 37) C dX7_untilEnd_37 0 rfl rfl ?_
        refine j_get (ref := RX7) (pc := 38) C hiX7_untilEnd 0 (r_at0 a cI cJ cZ σ) rfl 43 (by decide) lkX7_untilEnd_115 (r_fl43 a σ) dX7_untilEnd_38 ?_
        refine j_iload_n (pc := 41) C dX7_untilEnd_41 1 rfl rfl ?_
        obtain ⟨h_14, hw⟩ := hw
        refine j_iald (pc := 42) C 31 0 (r_at43 a cI cJ cZ σ) rfl h_14 dX7_untilEnd_42 ?_
        refine j_aload_n (pc := 43) C dX7_untilEnd_43 0 rfl rfl ?_
        refine j_get (ref := RX7) (pc := 44) C hiX7_untilEnd 0 (r_at0 a cI cJ cZ σ) rfl 0 (by decide) lkX7_untilEnd_146 (r_fl0 a σ) dX7_untilEnd_44 ?_
        refine j_isub (pc := 47) C dX7_untilEnd_47 ?_
        refine j_goto (pc := 48) C 52 dX7_untilEnd_48 (by decide) ?_
        exact j_iret (pc := 52) C hr σ rfl hw dX7_untilEnd_52
    · have hw := hw.2 z_11
      refine j_bipush (pc := 21) (v := (-9)) C dX7_untilEnd_21 (by decide) ?_
      exact j_iret (pc := 23) C hr σ rfl hw dX7_untilEnd_23

def rmX7_model : Room := { frames := 2, cells := 0, slots := 0, locals := 42 }
theorem hiX7_model : ∀ w ∈ u_ws RX7 TX7 50, w ∈ wsX7_model := fun w h => List.mem_cons_of_mem _ (List.mem_append_right _ h)
theorem lkX7_model_118 : Cond.fieldLink yX7_model.cls 118 (TX7 44).1 (TX7 44).2.1 (TX7 44).2.2.1 ∈ wsX7_model := by decide +kernel
theorem lkX7_model_121 : Cond.fieldLink yX7_model.cls 121 (TX7 45).1 (TX7 45).2.1 (TX7 45).2.2.1 ∈ wsX7_model := by decide +kernel
theorem lkX7_model_124 : Cond.fieldLink yX7_model.cls 124 (TX7 46).1 (TX7 46).2.1 (TX7 46).2.2.1 ∈ wsX7_model := by decide +kernel
theorem lkX7_model_146 : Cond.fieldLink yX7_model.cls 146 (TX7 0).1 (TX7 0).2.1 (TX7 0).2.2.1 ∈ wsX7_model := by decide +kernel
theorem lkX7_model_81 : Cond.fieldLink yX7_model.cls 81 (TX7 32).1 (TX7 32).2.1 (TX7 32).2.2.1 ∈ wsX7_model := by decide +kernel
def wX7_model (N : Nat) (σ : jRS) (x1 : Int32) (x2 : Int32) (post : Int32 → jRS → Prop) : Prop := ∀ r_15 : Int32, r_15 = jisSender x1 → ((¬ r_15 = 0) → (((x2 = 0) → (vp_in x1 2 ∧ (((σ.1 44 x1.toNatClampNeg) = 0) → (post 0 σ)) ∧ ((¬ (σ.1 44 x1.toNatClampNeg) = 0) → (post 1 σ)))) ∧ ((¬ x2 = 0) → (((x2 = 1) → (vp_in x1 2 ∧ post (σ.1 45 x1.toNatClampNeg) σ)) ∧ ((¬ x2 = 1) → (((x2 = 2) → (vp_in x1 2 ∧ post (σ.1 46 x1.toNatClampNeg) σ)) ∧ ((¬ x2 = 2) → (((x2 = 3) → (vp_in x1 2 ∧ post ((σ.1 0 0) - (σ.1 32 x1.toNatClampNeg)) σ)) ∧ ((¬ x2 = 3) → (((x2 = 4) → (wX7_untilEnd N σ x1 (fun r_27 s_28 => post r_27 s_28))) ∧ ((¬ x2 = 4) → (post ((-2)) σ)))))))))))) ∧ ((r_15 = 0) → (post ((-1)) σ))
set_option maxHeartbeats 4000000 in
set_option maxRecDepth 100000 in
theorem mX7_model {l : Launch} {D : va_G} {cI cJ cZ cO : ClassId} {a : Nat → Nat} {N : Nat} {σ : jRS} {x1 x2 : Int32} {post : Int32 → jRS → Prop} (hw : wX7_model N σ x1 x2 post) : jMi l D (jT cI cJ cZ cO) jG0 yX7_model wsX7_model rmX7_model [.ref (a 0), .int x1, .int x2] (rcells a cI cJ cZ σ) post (rcells a cI cJ cZ) 0 0 := by
  refine j_ofi (cc := cX7_model) (maxL := 3) (ret := (some .int)) (by decide) rfl (Nat.le_of_ble_eq_true rfl) ?_
  intro p e s m args below meth c A C hr hnm hG
  refine j_sub (lv' := [(0, .ref (a 0)), (1, .int x1), (2, .int x2)]) [0, 1, 2] rfl ?_
  unfold wX7_model at hw
  refine j_iload_n (pc := 0) C dX7_model_0 1 rfl rfl ?_
  refine j_scalli (pc := 1) C 1 (mX7_isSender x1) gX7_model_X7_isSender rfl rfl rfl (by decide +kernel) ⟨by decide, by decide⟩ rfl rfl (Nat.le_of_ble_eq_true rfl) dX7_model_1 ⟨Nat.le_refl _, Nat.le_refl _⟩ (fun r_15 er_15 => ?_)
  have hw := hw r_15 er_15
  refine j_if_ne (pc := 4) C 9 dX7_model_4 (by decide) (fun z_16 => ?_) (fun z_16 => ?_)
  · have hw := hw.1 z_16
    refine j_iload_n (pc := 9) C dX7_model_9 2 rfl rfl ?_
    by_cases z_17 : x2 = 0
    · have hw := hw.1 z_17
      refine j_tableIn (pc := 10) C 44 dX7_model_10 (by rw [z_17]; decide) (by rw [z_17]; decide) (by rw [z_17]; rfl) (by decide) ?_
      refine j_aload_n (pc := 44) C dX7_model_44 0 rfl rfl ?_
      refine j_get (ref := RX7) (pc := 45) C hiX7_model 0 (r_at0 a cI cJ cZ σ) rfl 44 (by decide) lkX7_model_118 (r_fl44 a σ) dX7_model_45 ?_
      refine j_iload_n (pc := 48) C dX7_model_48 1 rfl rfl ?_
      obtain ⟨h_18, hw⟩ := hw
      refine j_zald (pc := 49) C 32 2 (r_at44 a cI cJ cZ σ) rfl h_18 dX7_model_49 ?_
      refine j_if_eq (pc := 50) C 57 dX7_model_50 (by decide) (fun z_19 => ?_) (fun z_19 => ?_)
      · have hw := hw.1 z_19
        refine j_iconst (pc := 57) (v := 0) C dX7_model_57 (by decide) ?_
        exact j_iret (pc := 58) C hr σ rfl hw dX7_model_58
      · have hw := hw.2 z_19
        refine j_iconst (pc := 53) (v := 1) C dX7_model_53 (by decide) ?_
        refine j_goto (pc := 54) C 58 dX7_model_54 (by decide) ?_
        exact j_iret (pc := 58) C hr σ rfl hw dX7_model_58
    · have hw := hw.2 z_17
      by_cases z_20 : x2 = 1
      · have hw := hw.1 z_20
        refine j_tableIn (pc := 10) C 59 dX7_model_10 (by rw [z_20]; decide) (by rw [z_20]; decide) (by rw [z_20]; rfl) (by decide) ?_
        refine j_aload_n (pc := 59) C dX7_model_59 0 rfl rfl ?_
        refine j_get (ref := RX7) (pc := 60) C hiX7_model 0 (r_at0 a cI cJ cZ σ) rfl 45 (by decide) lkX7_model_121 (r_fl45 a σ) dX7_model_60 ?_
        refine j_iload_n (pc := 63) C dX7_model_63 1 rfl rfl ?_
        obtain ⟨h_21, hw⟩ := hw
        refine j_iald (pc := 64) C 33 0 (r_at45 a cI cJ cZ σ) rfl h_21 dX7_model_64 ?_
        exact j_iret (pc := 65) C hr σ rfl hw dX7_model_65
      · have hw := hw.2 z_20
        by_cases z_22 : x2 = 2
        · have hw := hw.1 z_22
          refine j_tableIn (pc := 10) C 66 dX7_model_10 (by rw [z_22]; decide) (by rw [z_22]; decide) (by rw [z_22]; rfl) (by decide) ?_
          refine j_aload_n (pc := 66) C dX7_model_66 0 rfl rfl ?_
          refine j_get (ref := RX7) (pc := 67) C hiX7_model 0 (r_at0 a cI cJ cZ σ) rfl 46 (by decide) lkX7_model_124 (r_fl46 a σ) dX7_model_67 ?_
          refine j_iload_n (pc := 70) C dX7_model_70 1 rfl rfl ?_
          obtain ⟨h_23, hw⟩ := hw
          refine j_iald (pc := 71) C 34 0 (r_at46 a cI cJ cZ σ) rfl h_23 dX7_model_71 ?_
          exact j_iret (pc := 72) C hr σ rfl hw dX7_model_72
        · have hw := hw.2 z_22
          by_cases z_24 : x2 = 3
          · have hw := hw.1 z_24
            refine j_tableIn (pc := 10) C 73 dX7_model_10 (by rw [z_24]; decide) (by rw [z_24]; decide) (by rw [z_24]; rfl) (by decide) ?_
            refine j_aload_n (pc := 73) C dX7_model_73 0 rfl rfl ?_
            refine j_get (ref := RX7) (pc := 74) C hiX7_model 0 (r_at0 a cI cJ cZ σ) rfl 0 (by decide) lkX7_model_146 (r_fl0 a σ) dX7_model_74 ?_
            refine j_aload_n (pc := 77) C dX7_model_77 0 rfl rfl ?_
            refine j_get (ref := RX7) (pc := 78) C hiX7_model 0 (r_at0 a cI cJ cZ σ) rfl 32 (by decide) lkX7_model_81 (r_fl32 a σ) dX7_model_78 ?_
            refine j_iload_n (pc := 81) C dX7_model_81 1 rfl rfl ?_
            obtain ⟨h_25, hw⟩ := hw
            refine j_iald (pc := 82) C 20 0 (r_at32 a cI cJ cZ σ) rfl h_25 dX7_model_82 ?_
            refine j_isub (pc := 83) C dX7_model_83 ?_
            exact j_iret (pc := 84) C hr σ rfl hw dX7_model_84
          · have hw := hw.2 z_24
            by_cases z_26 : x2 = 4
            · have hw := hw.1 z_26
              refine j_tableIn (pc := 10) C 85 dX7_model_10 (by rw [z_26]; decide) (by rw [z_26]; decide) (by rw [z_26]; rfl) (by decide) ?_
              refine j_aload_n (pc := 85) C dX7_model_85 0 rfl rfl ?_
              refine j_iload_n (pc := 86) C dX7_model_86 1 rfl rfl ?_
              refine j_calli0 (pc := 87) C jG0_ok trivial 1 (mX7_untilEnd hw) gX7_model_X7_untilEnd rfl rfl rfl (by decide +kernel) ⟨by decide, by decide⟩ 0 (r_at0 a cI cJ cZ σ) rfl rfl rfl (Nat.le_of_ble_eq_true rfl) dX7_model_87 ⟨Nat.le_refl _, Nat.le_refl _⟩ (fun r_27 s_28 hw => ?_)
              exact j_iret (pc := 90) C hr s_28 rfl hw dX7_model_90
            · have hw := hw.2 z_26
              have q0 := j_ne z_17 0 (by decide)
              have q1 := j_ne z_20 1 (by decide)
              have q2 := j_ne z_22 2 (by decide)
              have q3 := j_ne z_24 3 (by decide)
              have q4 := j_ne z_26 4 (by decide)
              refine j_tableOut (pc := 10) C 91 dX7_model_10 (by omega) (by decide) ?_
              refine j_bipush (pc := 91) (v := (-2)) C dX7_model_91 (by decide) ?_
              exact j_iret (pc := 93) C hr σ rfl hw dX7_model_93
  · have hw := hw.2 z_16
    refine j_iconst (pc := 7) (v := (-1)) C dX7_model_7 (by decide) ?_
    exact j_iret (pc := 8) C hr σ rfl hw dX7_model_8

def rmX7_turn : Room := { frames := 2, cells := 0, slots := 0, locals := 42 }
theorem hiX7_turn : ∀ w ∈ u_ws RX7 TX7 50, w ∈ wsX7_turn := fun w h => List.mem_cons_of_mem _ (List.mem_append_right _ h)
theorem lkX7_turn_127 : Cond.fieldLink yX7_turn.cls 127 (TX7 47).1 (TX7 47).2.1 (TX7 47).2.2.1 ∈ wsX7_turn := by decide +kernel
theorem lkX7_turn_133 : Cond.fieldLink yX7_turn.cls 133 (TX7 49).1 (TX7 49).2.1 (TX7 49).2.2.1 ∈ wsX7_turn := by decide +kernel
theorem lkX7_turn_130 : Cond.fieldLink yX7_turn.cls 130 (TX7 48).1 (TX7 48).2.1 (TX7 48).2.2.1 ∈ wsX7_turn := by decide +kernel
def wX7_turn_29 (N : Nat) (σ : jRS) (x1 : Int32) (x2 : Int32) (x3 : Int32) (y0 : Int32) (post : Int32 → jRS → Prop) : Prop := ∀ r_14 : Int32, r_14 = jisSender x1 → ((r_14 = 0) → (post ((-1)) σ)) ∧ ((¬ r_14 = 0) → (∀ r_16 : Int32, r_16 = jwithin x2 0 (y0 - 1) → ((¬ r_16 = 0) → (((¬ x3 = 0) → (((¬ x3 = 1) → (post ((-2)) σ)) ∧ ((x3 = 1) → (vp_in ((12 * x1) + x2) 24 ∧ post (σ.1 49 ((12 * x1) + x2).toNatClampNeg) σ)))) ∧ ((x3 = 0) → (vp_in ((12 * x1) + x2) 24 ∧ post (σ.1 48 ((12 * x1) + x2).toNatClampNeg) σ)))) ∧ ((r_16 = 0) → (post ((-1)) σ))))
set_option maxHeartbeats 4000000 in
set_option maxRecDepth 100000 in
theorem kX7_turn_29 {p : Program} {l : Launch} {e : Env} {s : State} {m : MethodId} {args : Array Value} {below : List Frame} {meth : Method} {c : Code} {D : va_G} {cI cJ cZ cO : ClassId} {a : Nat → Nat} {A : Nat → Prop} {N : Nat} {post : Int32 → jRS → Prop} (C : jC p s m args meth c cX7_turn 5 yX7_turn.cls wsX7_turn D (jT cI cJ cZ cO) A) (hr : meth.sig.returnType = (some .int)) (hG : jG0 A s) (σ : jRS) (x1 : Int32) (x2 : Int32) (x3 : Int32) (y0 : Int32) (hw : wX7_turn_29 N σ x1 x2 x3 y0 post) : jJ p l e rmX7_turn s m args below meth c 0 0 (MQ below (va_Qi post (jE D (jT cI cJ cZ cO) A (rcells a cI cJ cZ)) A) args s 0 0 A) D A 5 (rcells a cI cJ cZ σ) [(0, .ref (a 0)), (1, .int x1), (2, .int x2), (3, .int x3)] 29 [.int y0] := by
  unfold wX7_turn_29 at hw
  refine j_istore (pc := 29) (lv' := [(0, .ref (a 0)), (1, .int x1), (2, .int x2), (3, .int x3), (4, .int y0)]) C [1, 2, 3, 4, 0] dX7_turn_29 (by decide) rfl ?_
  refine j_iload_n (pc := 31) C dX7_turn_31 1 rfl rfl ?_
  refine j_scalli (pc := 32) C 1 (mX7_isSender x1) gX7_turn_X7_isSender rfl rfl rfl (by decide +kernel) ⟨by decide, by decide⟩ rfl rfl (Nat.le_of_ble_eq_true rfl) dX7_turn_32 ⟨Nat.le_refl _, Nat.le_refl _⟩ (fun r_14 er_14 => ?_)
  have hw := hw r_14 er_14
  refine j_if_eq (pc := 35) C 50 dX7_turn_35 (by decide) (fun z_15 => ?_) (fun z_15 => ?_)
  · have hw := hw.1 z_15
    refine j_iconst (pc := 50) (v := (-1)) C dX7_turn_50 (by decide) ?_
    exact j_iret (pc := 51) C hr σ rfl hw dX7_turn_51
  · have hw := hw.2 z_15
    refine j_iload_n (pc := 38) C dX7_turn_38 2 rfl rfl ?_
    refine j_iconst (pc := 39) (v := 0) C dX7_turn_39 (by decide) ?_
    refine j_iload (pc := 40) C dX7_turn_40 4 rfl ?_
    refine j_iconst (pc := 42) (v := 1) C dX7_turn_42 (by decide) ?_
    refine j_isub (pc := 43) C dX7_turn_43 ?_
    refine j_scalli (pc := 44) C 3 (mX7_within x2 0 (y0 - 1)) gX7_turn_X7_within rfl rfl rfl (by decide +kernel) ⟨by decide, by decide⟩ rfl rfl (Nat.le_of_ble_eq_true rfl) dX7_turn_44 ⟨Nat.le_refl _, Nat.le_refl _⟩ (fun r_16 er_16 => ?_)
    have hw := hw r_16 er_16
    refine j_if_ne (pc := 47) C 52 dX7_turn_47 (by decide) (fun z_17 => ?_) (fun z_17 => ?_)
    · have hw := hw.1 z_17
      refine j_iload_n (pc := 52) C dX7_turn_52 3 rfl rfl ?_
      refine j_if_ne (pc := 53) C 70 dX7_turn_53 (by decide) (fun z_18 => ?_) (fun z_18 => ?_)
      · have hw := hw.1 z_18
        refine j_iload_n (pc := 70) C dX7_turn_70 3 rfl rfl ?_
        refine j_iconst (pc := 71) (v := 1) C dX7_turn_71 (by decide) ?_
        refine j_icmp_ne (pc := 72) C 89 dX7_turn_72 (by decide) (fun z_19 => ?_) (fun z_19 => ?_)
        · have hw := hw.1 z_19
          refine j_bipush (pc := 89) (v := (-2)) C dX7_turn_89 (by decide) ?_
          exact j_iret (pc := 91) C hr σ rfl hw dX7_turn_91
        · have hw := hw.2 z_19
          refine j_aload_n (pc := 75) C dX7_turn_75 0 rfl rfl ?_
          refine j_get (ref := RX7) (pc := 76) C hiX7_turn 0 (r_at0 a cI cJ cZ σ) rfl 49 (by decide) lkX7_turn_133 (r_fl49 a σ) dX7_turn_76 ?_
          refine j_bipush (pc := 79) (v := 12) C dX7_turn_79 (by decide) ?_
          refine j_iload_n (pc := 81) C dX7_turn_81 1 rfl rfl ?_
          refine j_imul (pc := 82) C dX7_turn_82 ?_
          refine j_iload_n (pc := 83) C dX7_turn_83 2 rfl rfl ?_
          refine j_iadd (pc := 84) C dX7_turn_84 ?_
          obtain ⟨h_20, hw⟩ := hw
          refine j_iald (pc := 85) C 37 0 (r_at49 a cI cJ cZ σ) rfl h_20 dX7_turn_85 ?_
          refine j_goto (pc := 86) C 91 dX7_turn_86 (by decide) ?_
          exact j_iret (pc := 91) C hr σ rfl hw dX7_turn_91
      · have hw := hw.2 z_18
        refine j_aload_n (pc := 56) C dX7_turn_56 0 rfl rfl ?_
        refine j_get (ref := RX7) (pc := 57) C hiX7_turn 0 (r_at0 a cI cJ cZ σ) rfl 48 (by decide) lkX7_turn_130 (r_fl48 a σ) dX7_turn_57 ?_
        refine j_bipush (pc := 60) (v := 12) C dX7_turn_60 (by decide) ?_
        refine j_iload_n (pc := 62) C dX7_turn_62 1 rfl rfl ?_
        refine j_imul (pc := 63) C dX7_turn_63 ?_
        refine j_iload_n (pc := 64) C dX7_turn_64 2 rfl rfl ?_
        refine j_iadd (pc := 65) C dX7_turn_65 ?_
        obtain ⟨h_21, hw⟩ := hw
        refine j_iald (pc := 66) C 36 0 (r_at48 a cI cJ cZ σ) rfl h_21 dX7_turn_66 ?_
        refine j_goto (pc := 67) C 91 dX7_turn_67 (by decide) ?_
        exact j_iret (pc := 91) C hr σ rfl hw dX7_turn_91
    · have hw := hw.2 z_17
      refine j_iconst (pc := 50) (v := (-1)) C dX7_turn_50 (by decide) ?_
      exact j_iret (pc := 51) C hr σ rfl hw dX7_turn_51
def wX7_turn_27 (N : Nat) (σ : jRS) (x1 : Int32) (x2 : Int32) (x3 : Int32) (post : Int32 → jRS → Prop) : Prop := wX7_turn_29 N σ x1 x2 x3 12 post
set_option maxHeartbeats 4000000 in
set_option maxRecDepth 100000 in
theorem kX7_turn_27 {p : Program} {l : Launch} {e : Env} {s : State} {m : MethodId} {args : Array Value} {below : List Frame} {meth : Method} {c : Code} {D : va_G} {cI cJ cZ cO : ClassId} {a : Nat → Nat} {A : Nat → Prop} {N : Nat} {post : Int32 → jRS → Prop} (C : jC p s m args meth c cX7_turn 5 yX7_turn.cls wsX7_turn D (jT cI cJ cZ cO) A) (hr : meth.sig.returnType = (some .int)) (hG : jG0 A s) (σ : jRS) (x1 : Int32) (x2 : Int32) (x3 : Int32) (hw : wX7_turn_27 N σ x1 x2 x3 post) : jJ p l e rmX7_turn s m args below meth c 0 0 (MQ below (va_Qi post (jE D (jT cI cJ cZ cO) A (rcells a cI cJ cZ)) A) args s 0 0 A) D A 5 (rcells a cI cJ cZ σ) [(0, .ref (a 0)), (1, .int x1), (2, .int x2), (3, .int x3)] 27 [] := by
  unfold wX7_turn_27 at hw
  refine j_bipush (pc := 27) (v := 12) C dX7_turn_27 (by decide) ?_
  exact kX7_turn_29 C hr hG _ _ _ _ _ hw
def wX7_turn (N : Nat) (σ : jRS) (x1 : Int32) (x2 : Int32) (x3 : Int32) (post : Int32 → jRS → Prop) : Prop := ∀ r_22 : Int32, r_22 = jisSender x1 → ((r_22 = 0) → (wX7_turn_27 N σ x1 x2 x3 post)) ∧ ((¬ r_22 = 0) → (vp_in x1 2 ∧ ((12 ≤ (σ.1 47 x1.toNatClampNeg)) → (wX7_turn_27 N σ x1 x2 x3 post)) ∧ ((¬ 12 ≤ (σ.1 47 x1.toNatClampNeg)) → (vp_in x1 2 ∧ wX7_turn_29 N σ x1 x2 x3 (σ.1 47 x1.toNatClampNeg) post))))
set_option maxHeartbeats 4000000 in
set_option maxRecDepth 100000 in
theorem mX7_turn {l : Launch} {D : va_G} {cI cJ cZ cO : ClassId} {a : Nat → Nat} {N : Nat} {σ : jRS} {x1 x2 x3 : Int32} {post : Int32 → jRS → Prop} (hw : wX7_turn N σ x1 x2 x3 post) : jMi l D (jT cI cJ cZ cO) jG0 yX7_turn wsX7_turn rmX7_turn [.ref (a 0), .int x1, .int x2, .int x3] (rcells a cI cJ cZ σ) post (rcells a cI cJ cZ) 0 0 := by
  refine j_ofi (cc := cX7_turn) (maxL := 5) (ret := (some .int)) (by decide) rfl (Nat.le_of_ble_eq_true rfl) ?_
  intro p e s m args below meth c A C hr hnm hG
  refine j_sub (lv' := [(0, .ref (a 0)), (1, .int x1), (2, .int x2), (3, .int x3)]) [0, 1, 2, 3] rfl ?_
  unfold wX7_turn at hw
  refine j_iload_n (pc := 0) C dX7_turn_0 1 rfl rfl ?_
  refine j_scalli (pc := 1) C 1 (mX7_isSender x1) gX7_turn_X7_isSender rfl rfl rfl (by decide +kernel) ⟨by decide, by decide⟩ rfl rfl (Nat.le_of_ble_eq_true rfl) dX7_turn_1 ⟨Nat.le_refl _, Nat.le_refl _⟩ (fun r_22 er_22 => ?_)
  have hw := hw r_22 er_22
  refine j_if_eq (pc := 4) C 27 dX7_turn_4 (by decide) (fun z_23 => ?_) (fun z_23 => ?_)
  · have hw := hw.1 z_23
    exact kX7_turn_27 C hr hG _ _ _ _ hw
  · have hw := hw.2 z_23
    refine j_aload_n (pc := 7) C dX7_turn_7 0 rfl rfl ?_
    refine j_get (ref := RX7) (pc := 8) C hiX7_turn 0 (r_at0 a cI cJ cZ σ) rfl 47 (by decide) lkX7_turn_127 (r_fl47 a σ) dX7_turn_8 ?_
    refine j_iload_n (pc := 11) C dX7_turn_11 1 rfl rfl ?_
    obtain ⟨h_24, hw⟩ := hw
    refine j_iald (pc := 12) C 35 0 (r_at47 a cI cJ cZ σ) rfl h_24 dX7_turn_12 ?_
    refine j_bipush (pc := 13) (v := 12) C dX7_turn_13 (by decide) ?_
    refine j_icmp_ge (pc := 15) C 27 dX7_turn_15 (by decide) (fun z_25 => ?_) (fun z_25 => ?_)
    · have hw := hw.1 z_25
      exact kX7_turn_27 C hr hG _ _ _ _ hw
    · have hw := hw.2 z_25
      refine j_aload_n (pc := 18) C dX7_turn_18 0 rfl rfl ?_
      refine j_get (ref := RX7) (pc := 19) C hiX7_turn 0 (r_at0 a cI cJ cZ σ) rfl 47 (by decide) lkX7_turn_127 (r_fl47 a σ) dX7_turn_19 ?_
      refine j_iload_n (pc := 22) C dX7_turn_22 1 rfl rfl ?_
      obtain ⟨h_26, hw⟩ := hw
      refine j_iald (pc := 23) C 35 0 (r_at47 a cI cJ cZ σ) rfl h_26 dX7_turn_23 ?_
      refine j_goto (pc := 24) C 29 dX7_turn_24 (by decide) ?_
      exact kX7_turn_29 C hr hG _ _ _ _ _ hw

def rmX7_many : Room := { frames := 0, cells := 0, slots := 0, locals := 0 }
theorem hiX7_many : ∀ w ∈ u_ws RX7 TX7 50, w ∈ wsX7_many := fun w h => List.mem_cons_of_mem _ (List.mem_append_right _ h)
theorem lkX7_many_146 : Cond.fieldLink yX7_many.cls 146 (TX7 0).1 (TX7 0).2.1 (TX7 0).2.2.1 ∈ wsX7_many := by decide +kernel
theorem lkX7_many_233 : Cond.fieldLink yX7_many.cls 233 (TX7 15).1 (TX7 15).2.1 (TX7 15).2.2.1 ∈ wsX7_many := by decide +kernel
theorem lkX7_many_88 : Cond.fieldLink yX7_many.cls 88 (TX7 34).1 (TX7 34).2.1 (TX7 34).2.2.1 ∈ wsX7_many := by decide +kernel
theorem lkX7_many_127 : Cond.fieldLink yX7_many.cls 127 (TX7 47).1 (TX7 47).2.1 (TX7 47).2.2.1 ∈ wsX7_many := by decide +kernel
theorem lkX7_many_261 : Cond.fieldLink yX7_many.cls 261 (TX7 14).1 (TX7 14).2.1 (TX7 14).2.2.1 ∈ wsX7_many := by decide +kernel
def wX7_many (N : Nat) (σ : jRS) (x1 : Int32) (post : Int32 → jRS → Prop) : Prop := ((x1 = 0) → (post (σ.1 0 0) σ)) ∧ ((¬ x1 = 0) → (((x1 = 1) → (post (σ.1 0 15) σ)) ∧ ((¬ x1 = 1) → (((x1 = 2) → (post ((σ.1 34 (0 : Int32).toNatClampNeg) + (σ.1 34 (1 : Int32).toNatClampNeg)) σ)) ∧ ((¬ x1 = 2) → (((x1 = 3) → (post ((σ.1 47 (0 : Int32).toNatClampNeg) + (σ.1 47 (1 : Int32).toNatClampNeg)) σ)) ∧ ((¬ x1 = 3) → (((x1 = 4) → (post (σ.1 0 14) σ)) ∧ ((¬ x1 = 4) → (post ((-2)) σ))))))))))
set_option maxHeartbeats 4000000 in
set_option maxRecDepth 100000 in
theorem mX7_many {l : Launch} {D : va_G} {cI cJ cZ cO : ClassId} {a : Nat → Nat} {N : Nat} {σ : jRS} {x1 : Int32} {post : Int32 → jRS → Prop} (hw : wX7_many N σ x1 post) : jMi l D (jT cI cJ cZ cO) jG0 yX7_many wsX7_many rmX7_many [.ref (a 0), .int x1] (rcells a cI cJ cZ σ) post (rcells a cI cJ cZ) 0 0 := by
  refine j_ofi (cc := cX7_many) (maxL := 2) (ret := (some .int)) (by decide) rfl (Nat.le_of_ble_eq_true rfl) ?_
  intro p e s m args below meth c A C hr hnm hG
  refine j_sub (lv' := [(0, .ref (a 0)), (1, .int x1)]) [0, 1] rfl ?_
  unfold wX7_many at hw
  refine j_iload_n (pc := 0) C dX7_many_0 1 rfl rfl ?_
  by_cases z_6 : x1 = 0
  · have hw := hw.1 z_6
    refine j_tableIn (pc := 1) C 36 dX7_many_1 (by rw [z_6]; decide) (by rw [z_6]; decide) (by rw [z_6]; rfl) (by decide) ?_
    refine j_aload_n (pc := 36) C dX7_many_36 0 rfl rfl ?_
    refine j_get (ref := RX7) (pc := 37) C hiX7_many 0 (r_at0 a cI cJ cZ σ) rfl 0 (by decide) lkX7_many_146 (r_fl0 a σ) dX7_many_37 ?_
    exact j_iret (pc := 40) C hr σ rfl hw dX7_many_40
  · have hw := hw.2 z_6
    by_cases z_7 : x1 = 1
    · have hw := hw.1 z_7
      refine j_tableIn (pc := 1) C 41 dX7_many_1 (by rw [z_7]; decide) (by rw [z_7]; decide) (by rw [z_7]; rfl) (by decide) ?_
      refine j_aload_n (pc := 41) C dX7_many_41 0 rfl rfl ?_
      refine j_get (ref := RX7) (pc := 42) C hiX7_many 0 (r_at0 a cI cJ cZ σ) rfl 15 (by decide) lkX7_many_233 (r_fl15 a σ) dX7_many_42 ?_
      exact j_iret (pc := 45) C hr σ rfl hw dX7_many_45
    · have hw := hw.2 z_7
      by_cases z_8 : x1 = 2
      · have hw := hw.1 z_8
        refine j_tableIn (pc := 1) C 46 dX7_many_1 (by rw [z_8]; decide) (by rw [z_8]; decide) (by rw [z_8]; rfl) (by decide) ?_
        refine j_aload_n (pc := 46) C dX7_many_46 0 rfl rfl ?_
        refine j_get (ref := RX7) (pc := 47) C hiX7_many 0 (r_at0 a cI cJ cZ σ) rfl 34 (by decide) lkX7_many_88 (r_fl34 a σ) dX7_many_47 ?_
        refine j_iconst (pc := 50) (v := 0) C dX7_many_50 (by decide) ?_
        refine j_iald (pc := 51) C 22 0 (r_at34 a cI cJ cZ σ) rfl (by unfold vp_in; decide) dX7_many_51 ?_
        refine j_aload_n (pc := 52) C dX7_many_52 0 rfl rfl ?_
        refine j_get (ref := RX7) (pc := 53) C hiX7_many 0 (r_at0 a cI cJ cZ σ) rfl 34 (by decide) lkX7_many_88 (r_fl34 a σ) dX7_many_53 ?_
        refine j_iconst (pc := 56) (v := 1) C dX7_many_56 (by decide) ?_
        refine j_iald (pc := 57) C 22 0 (r_at34 a cI cJ cZ σ) rfl (by unfold vp_in; decide) dX7_many_57 ?_
        refine j_iadd (pc := 58) C dX7_many_58 ?_
        exact j_iret (pc := 59) C hr σ rfl hw dX7_many_59
      · have hw := hw.2 z_8
        by_cases z_9 : x1 = 3
        · have hw := hw.1 z_9
          refine j_tableIn (pc := 1) C 60 dX7_many_1 (by rw [z_9]; decide) (by rw [z_9]; decide) (by rw [z_9]; rfl) (by decide) ?_
          refine j_aload_n (pc := 60) C dX7_many_60 0 rfl rfl ?_
          refine j_get (ref := RX7) (pc := 61) C hiX7_many 0 (r_at0 a cI cJ cZ σ) rfl 47 (by decide) lkX7_many_127 (r_fl47 a σ) dX7_many_61 ?_
          refine j_iconst (pc := 64) (v := 0) C dX7_many_64 (by decide) ?_
          refine j_iald (pc := 65) C 35 0 (r_at47 a cI cJ cZ σ) rfl (by unfold vp_in; decide) dX7_many_65 ?_
          refine j_aload_n (pc := 66) C dX7_many_66 0 rfl rfl ?_
          refine j_get (ref := RX7) (pc := 67) C hiX7_many 0 (r_at0 a cI cJ cZ σ) rfl 47 (by decide) lkX7_many_127 (r_fl47 a σ) dX7_many_67 ?_
          refine j_iconst (pc := 70) (v := 1) C dX7_many_70 (by decide) ?_
          refine j_iald (pc := 71) C 35 0 (r_at47 a cI cJ cZ σ) rfl (by unfold vp_in; decide) dX7_many_71 ?_
          refine j_iadd (pc := 72) C dX7_many_72 ?_
          exact j_iret (pc := 73) C hr σ rfl hw dX7_many_73
        · have hw := hw.2 z_9
          by_cases z_10 : x1 = 4
          · have hw := hw.1 z_10
            refine j_tableIn (pc := 1) C 74 dX7_many_1 (by rw [z_10]; decide) (by rw [z_10]; decide) (by rw [z_10]; rfl) (by decide) ?_
            refine j_aload_n (pc := 74) C dX7_many_74 0 rfl rfl ?_
            refine j_get (ref := RX7) (pc := 75) C hiX7_many 0 (r_at0 a cI cJ cZ σ) rfl 14 (by decide) lkX7_many_261 (r_fl14 a σ) dX7_many_75 ?_
            exact j_iret (pc := 78) C hr σ rfl hw dX7_many_78
          · have hw := hw.2 z_10
            have q0 := j_ne z_6 0 (by decide)
            have q1 := j_ne z_7 1 (by decide)
            have q2 := j_ne z_8 2 (by decide)
            have q3 := j_ne z_9 3 (by decide)
            have q4 := j_ne z_10 4 (by decide)
            refine j_tableOut (pc := 1) C 79 dX7_many_1 (by omega) (by decide) ?_
            refine j_bipush (pc := 79) (v := (-2)) C dX7_many_79 (by decide) ?_
            exact j_iret (pc := 81) C hr σ rfl hw dX7_many_81

def rmX7_greatestFrom : Room := { frames := 0, cells := 0, slots := 0, locals := 0 }
theorem hiX7_greatestFrom : ∀ w ∈ u_ws RX7 TX7 50, w ∈ wsX7_greatestFrom := fun w h => List.mem_cons_of_mem _ (List.mem_append_right _ h)
theorem lkX7_greatestFrom_94 : Cond.fieldLink yX7_greatestFrom.cls 94 (TX7 36).1 (TX7 36).2.1 (TX7 36).2.2.1 ∈ wsX7_greatestFrom := by decide +kernel
theorem lkX7_greatestFrom_91 : Cond.fieldLink yX7_greatestFrom.cls 91 (TX7 35).1 (TX7 35).2.1 (TX7 35).2.2.1 ∈ wsX7_greatestFrom := by decide +kernel
theorem lkX7_greatestFrom_97 : Cond.fieldLink yX7_greatestFrom.cls 97 (TX7 37).1 (TX7 37).2.1 (TX7 37).2.2.1 ∈ wsX7_greatestFrom := by decide +kernel
theorem lkX7_greatestFrom_100 : Cond.fieldLink yX7_greatestFrom.cls 100 (TX7 38).1 (TX7 38).2.1 (TX7 38).2.2.1 ∈ wsX7_greatestFrom := by decide +kernel
def wX7_greatestFrom_71 (N : Nat) (σ : jRS) (x1 : Int32) (x2 : Int32) (x4 : Int32) (y0 : Int32) (K : jRS → Int32 → Int32 → Int32 → Int32 → Prop) (post : Int32 → jRS → Prop) : Prop := ∀ x4_11 : Int32, x4_11 = x4 + 1 → K σ x1 x2 y0 x4_11
set_option maxHeartbeats 4000000 in
set_option maxRecDepth 100000 in
theorem kX7_greatestFrom_71 {p : Program} {l : Launch} {e : Env} {s : State} {m : MethodId} {args : Array Value} {below : List Frame} {meth : Method} {c : Code} {D : va_G} {cI cJ cZ cO : ClassId} {a : Nat → Nat} {A : Nat → Prop} {N : Nat} {post : Int32 → jRS → Prop} (C : jC p s m args meth c cX7_greatestFrom 6 yX7_greatestFrom.cls wsX7_greatestFrom D (jT cI cJ cZ cO) A) (hr : meth.sig.returnType = (some .int)) (hG : jG0 A s) (σ : jRS) (x1 : Int32) (x2 : Int32) (x4 : Int32) (y0 : Int32) (K : jRS → Int32 → Int32 → Int32 → Int32 → Prop) (hK : ∀ (σ : jRS) (x1 : Int32) (x2 : Int32) (x3 : Int32) (x4 : Int32), K σ x1 x2 x3 x4 → jJ p l e rmX7_greatestFrom s m args below meth c 0 0 (MQ below (va_Qi post (jE D (jT cI cJ cZ cO) A (rcells a cI cJ cZ)) A) args s 0 0 A) D A 6 (rcells a cI cJ cZ σ) [(0, .ref (a 0)), (1, .int x1), (2, .int x2), (3, .int x3), (4, .int x4)] 6 []) (hw : wX7_greatestFrom_71 N σ x1 x2 x4 y0 K post) : jJ p l e rmX7_greatestFrom s m args below meth c 0 0 (MQ below (va_Qi post (jE D (jT cI cJ cZ cO) A (rcells a cI cJ cZ)) A) args s 0 0 A) D A 6 (rcells a cI cJ cZ σ) [(0, .ref (a 0)), (1, .int x1), (2, .int x2), (4, .int x4)] 71 [.int y0] := by
  unfold wX7_greatestFrom_71 at hw
  refine j_istore_n (pc := 71) (lv' := [(0, .ref (a 0)), (1, .int x1), (2, .int x2), (3, .int y0), (4, .int x4)]) C [1, 2, 3, 0, 4] dX7_greatestFrom_71 rfl (by decide) rfl ?_
  obtain ⟨x4_11, ex4_11⟩ : ∃ y : Int32, y = x4 + 1 := ⟨_, rfl⟩
  have hw := hw x4_11 ex4_11
  refine j_iinc (pc := 72) (v := x4_11) (lv' := [(0, .ref (a 0)), (1, .int x1), (2, .int x2), (3, .int y0), (4, .int x4_11)]) C [1, 2, 3, 4, 0] 4 dX7_greatestFrom_72 rfl (by rw [ex4_11]; rfl) (by decide) rfl ?_
  refine j_goto (pc := 75) C 6 dX7_greatestFrom_75 (by decide) ?_
  exact hK _ _ _ _ _ hw
def wX7_greatestFrom_70 (N : Nat) (σ : jRS) (x1 : Int32) (x2 : Int32) (x3 : Int32) (x4 : Int32) (K : jRS → Int32 → Int32 → Int32 → Int32 → Prop) (post : Int32 → jRS → Prop) : Prop := wX7_greatestFrom_71 N σ x1 x2 x4 x3 K post
set_option maxHeartbeats 4000000 in
set_option maxRecDepth 100000 in
theorem kX7_greatestFrom_70 {p : Program} {l : Launch} {e : Env} {s : State} {m : MethodId} {args : Array Value} {below : List Frame} {meth : Method} {c : Code} {D : va_G} {cI cJ cZ cO : ClassId} {a : Nat → Nat} {A : Nat → Prop} {N : Nat} {post : Int32 → jRS → Prop} (C : jC p s m args meth c cX7_greatestFrom 6 yX7_greatestFrom.cls wsX7_greatestFrom D (jT cI cJ cZ cO) A) (hr : meth.sig.returnType = (some .int)) (hG : jG0 A s) (σ : jRS) (x1 : Int32) (x2 : Int32) (x3 : Int32) (x4 : Int32) (K : jRS → Int32 → Int32 → Int32 → Int32 → Prop) (hK : ∀ (σ : jRS) (x1 : Int32) (x2 : Int32) (x3 : Int32) (x4 : Int32), K σ x1 x2 x3 x4 → jJ p l e rmX7_greatestFrom s m args below meth c 0 0 (MQ below (va_Qi post (jE D (jT cI cJ cZ cO) A (rcells a cI cJ cZ)) A) args s 0 0 A) D A 6 (rcells a cI cJ cZ σ) [(0, .ref (a 0)), (1, .int x1), (2, .int x2), (3, .int x3), (4, .int x4)] 6 []) (hw : wX7_greatestFrom_70 N σ x1 x2 x3 x4 K post) : jJ p l e rmX7_greatestFrom s m args below meth c 0 0 (MQ below (va_Qi post (jE D (jT cI cJ cZ cO) A (rcells a cI cJ cZ)) A) args s 0 0 A) D A 6 (rcells a cI cJ cZ σ) [(0, .ref (a 0)), (1, .int x1), (2, .int x2), (3, .int x3), (4, .int x4)] 70 [] := by
  unfold wX7_greatestFrom_70 at hw
  refine j_iload_n (pc := 70) C dX7_greatestFrom_70 3 rfl rfl ?_
  refine j_sub [0, 1, 2, 4] rfl ?_
  exact kX7_greatestFrom_71 C hr hG _ _ _ _ _ _ hK hw
def wX7_greatestFrom_6 (N : Nat) : Nat → jRS → Int32 → Int32 → Int32 → Int32 → (Int32 → jRS → Prop) → Prop
  | 0, _, _, _, _, _, _ => False
  | n + 1, σ, x1, x2, x3, x4, post => vp_in x1 2 ∧ (((σ.1 36 x1.toNatClampNeg) ≤ x4) → (post x3 σ)) ∧ ((¬ (σ.1 36 x1.toNatClampNeg) ≤ x4) → (vp_in x1 2 ∧ ∀ x5_15 : Int32, x5_15 = (8192 * x1) + (((σ.1 35 x1.toNatClampNeg) + x4) - ((σ.1 35 x1.toNatClampNeg) + x4) / 8192 * 8192) → vp_in x5_15 16384 ∧ (((σ.1 37 x5_15.toNatClampNeg) < x2) → (wX7_greatestFrom_70 N σ x1 x2 x3 x4 (fun z0 x1 x2 x3 x4 => wX7_greatestFrom_6 N n z0 x1 x2 x3 x4 post) post)) ∧ ((¬ (σ.1 37 x5_15.toNatClampNeg) < x2) → (vp_in x5_15 16384 ∧ (((σ.1 38 x5_15.toNatClampNeg) ≤ x3) → (wX7_greatestFrom_70 N σ x1 x2 x3 x4 (fun z0 x1 x2 x3 x4 => wX7_greatestFrom_6 N n z0 x1 x2 x3 x4 post) post)) ∧ ((¬ (σ.1 38 x5_15.toNatClampNeg) ≤ x3) → (vp_in x5_15 16384 ∧ wX7_greatestFrom_71 N σ x1 x2 x4 (σ.1 38 x5_15.toNatClampNeg) (fun z0 x1 x2 x3 x4 => wX7_greatestFrom_6 N n z0 x1 x2 x3 x4 post) post))))))
set_option maxHeartbeats 4000000 in
set_option maxRecDepth 100000 in
theorem kX7_greatestFrom_6 {p : Program} {l : Launch} {e : Env} {s : State} {m : MethodId} {args : Array Value} {below : List Frame} {meth : Method} {c : Code} {D : va_G} {cI cJ cZ cO : ClassId} {a : Nat → Nat} {A : Nat → Prop} {N : Nat} {post : Int32 → jRS → Prop} (C : jC p s m args meth c cX7_greatestFrom 6 yX7_greatestFrom.cls wsX7_greatestFrom D (jT cI cJ cZ cO) A) (hr : meth.sig.returnType = (some .int)) (hG : jG0 A s) : ∀ (n : Nat) (σ : jRS) (x1 : Int32) (x2 : Int32) (x3 : Int32) (x4 : Int32), wX7_greatestFrom_6 N n σ x1 x2 x3 x4 post → jJ p l e rmX7_greatestFrom s m args below meth c 0 0 (MQ below (va_Qi post (jE D (jT cI cJ cZ cO) A (rcells a cI cJ cZ)) A) args s 0 0 A) D A 6 (rcells a cI cJ cZ σ) [(0, .ref (a 0)), (1, .int x1), (2, .int x2), (3, .int x3), (4, .int x4)] 6 [] := by
  intro n
  induction n with
  | zero =>
    intro σ x1 x2 x3 x4 hw
    exact False.elim hw
  | succ n ih =>
    intro σ x1 x2 x3 x4 hw
    unfold wX7_greatestFrom_6 at hw
    refine j_iload (pc := 6) C dX7_greatestFrom_6 4 rfl ?_
    refine j_aload_n (pc := 8) C dX7_greatestFrom_8 0 rfl rfl ?_
    refine j_get (ref := RX7) (pc := 9) C hiX7_greatestFrom 0 (r_at0 a cI cJ cZ σ) rfl 36 (by decide) lkX7_greatestFrom_94 (r_fl36 a σ) dX7_greatestFrom_9 ?_
    refine j_iload_n (pc := 12) C dX7_greatestFrom_12 1 rfl rfl ?_
    obtain ⟨h_12, hw⟩ := hw
    refine j_iald (pc := 13) C 24 0 (r_at36 a cI cJ cZ σ) rfl h_12 dX7_greatestFrom_13 ?_
    refine j_icmp_ge (pc := 14) C 78 dX7_greatestFrom_14 (by decide) (fun z_13 => ?_) (fun z_13 => ?_)
    · have hw := hw.1 z_13
      refine j_iload_n (pc := 78) C dX7_greatestFrom_78 3 rfl rfl ?_
      exact j_iret (pc := 79) C hr σ rfl hw dX7_greatestFrom_79
    · have hw := hw.2 z_13
      refine j_sipush (pc := 17) (v := 8192) C dX7_greatestFrom_17 (by decide) ?_
      refine j_iload_n (pc := 20) C dX7_greatestFrom_20 1 rfl rfl ?_
      refine j_imul (pc := 21) C dX7_greatestFrom_21 ?_
      refine j_aload_n (pc := 22) C dX7_greatestFrom_22 0 rfl rfl ?_
      refine j_get (ref := RX7) (pc := 23) C hiX7_greatestFrom 0 (r_at0 a cI cJ cZ σ) rfl 35 (by decide) lkX7_greatestFrom_91 (r_fl35 a σ) dX7_greatestFrom_23 ?_
      refine j_iload_n (pc := 26) C dX7_greatestFrom_26 1 rfl rfl ?_
      obtain ⟨h_14, hw⟩ := hw
      refine j_iald (pc := 27) C 23 0 (r_at35 a cI cJ cZ σ) rfl h_14 dX7_greatestFrom_27 ?_
      refine j_iload (pc := 28) C dX7_greatestFrom_28 4 rfl ?_
      refine j_iadd (pc := 30) C dX7_greatestFrom_30 ?_
      refine j_sipush (pc := 31) (v := 8192) C dX7_greatestFrom_31 (by decide) ?_
      refine j_irem (pc := 34) C dX7_greatestFrom_34 (by decide) ?_
      refine j_iadd (pc := 35) C dX7_greatestFrom_35 ?_
      refine j_topi (fun x5_15 ex5_15 => ?_)
      have hw := hw x5_15 ex5_15
      refine j_istore (pc := 36) (lv' := [(0, .ref (a 0)), (1, .int x1), (2, .int x2), (3, .int x3), (4, .int x4), (5, .int x5_15)]) C [1, 2, 3, 4, 5, 0] dX7_greatestFrom_36 (by decide) rfl ?_
      refine j_aload_n (pc := 38) C dX7_greatestFrom_38 0 rfl rfl ?_
      refine j_get (ref := RX7) (pc := 39) C hiX7_greatestFrom 0 (r_at0 a cI cJ cZ σ) rfl 37 (by decide) lkX7_greatestFrom_97 (r_fl37 a σ) dX7_greatestFrom_39 ?_
      refine j_iload (pc := 42) C dX7_greatestFrom_42 5 rfl ?_
      obtain ⟨h_16, hw⟩ := hw
      refine j_iald (pc := 44) C 25 0 (r_at37 a cI cJ cZ σ) rfl h_16 dX7_greatestFrom_44 ?_
      refine j_iload_n (pc := 45) C dX7_greatestFrom_45 2 rfl rfl ?_
      refine j_icmp_lt (pc := 46) C 70 dX7_greatestFrom_46 (by decide) (fun z_17 => ?_) (fun z_17 => ?_)
      · have hw := hw.1 z_17
        refine j_sub [0, 1, 2, 3, 4] rfl ?_
        exact kX7_greatestFrom_70 C hr hG _ _ _ _ _ _ (fun z0 x1 x2 x3 x4 hz => ih z0 x1 x2 x3 x4 hz) hw
      · have hw := hw.2 z_17
        refine j_aload_n (pc := 49) C dX7_greatestFrom_49 0 rfl rfl ?_
        refine j_get (ref := RX7) (pc := 50) C hiX7_greatestFrom 0 (r_at0 a cI cJ cZ σ) rfl 38 (by decide) lkX7_greatestFrom_100 (r_fl38 a σ) dX7_greatestFrom_50 ?_
        refine j_iload (pc := 53) C dX7_greatestFrom_53 5 rfl ?_
        obtain ⟨h_18, hw⟩ := hw
        refine j_iald (pc := 55) C 26 0 (r_at38 a cI cJ cZ σ) rfl h_18 dX7_greatestFrom_55 ?_
        refine j_iload_n (pc := 56) C dX7_greatestFrom_56 3 rfl rfl ?_
        refine j_icmp_le (pc := 57) C 70 dX7_greatestFrom_57 (by decide) (fun z_19 => ?_) (fun z_19 => ?_)
        · have hw := hw.1 z_19
          refine j_sub [0, 1, 2, 3, 4] rfl ?_
          exact kX7_greatestFrom_70 C hr hG _ _ _ _ _ _ (fun z0 x1 x2 x3 x4 hz => ih z0 x1 x2 x3 x4 hz) hw
        · have hw := hw.2 z_19
          refine j_aload_n (pc := 60) C dX7_greatestFrom_60 0 rfl rfl ?_
          refine j_get (ref := RX7) (pc := 61) C hiX7_greatestFrom 0 (r_at0 a cI cJ cZ σ) rfl 38 (by decide) lkX7_greatestFrom_100 (r_fl38 a σ) dX7_greatestFrom_61 ?_
          refine j_iload (pc := 64) C dX7_greatestFrom_64 5 rfl ?_
          obtain ⟨h_20, hw⟩ := hw
          refine j_iald (pc := 66) C 26 0 (r_at38 a cI cJ cZ σ) rfl h_20 dX7_greatestFrom_66 ?_
          refine j_goto (pc := 67) C 71 dX7_greatestFrom_67 (by decide) ?_
          refine j_sub [0, 1, 2, 4] rfl ?_
          exact kX7_greatestFrom_71 C hr hG _ _ _ _ _ _ (fun z0 x1 x2 x3 x4 hz => ih z0 x1 x2 x3 x4 hz) hw
def wX7_greatestFrom (N : Nat) (σ : jRS) (x1 : Int32) (x2 : Int32) (post : Int32 → jRS → Prop) : Prop := wX7_greatestFrom_6 N N σ x1 x2 ((-9)) 0 post
set_option maxHeartbeats 4000000 in
set_option maxRecDepth 100000 in
theorem mX7_greatestFrom {l : Launch} {D : va_G} {cI cJ cZ cO : ClassId} {a : Nat → Nat} {N : Nat} {σ : jRS} {x1 x2 : Int32} {post : Int32 → jRS → Prop} (hw : wX7_greatestFrom N σ x1 x2 post) : jMi l D (jT cI cJ cZ cO) jG0 yX7_greatestFrom wsX7_greatestFrom rmX7_greatestFrom [.ref (a 0), .int x1, .int x2] (rcells a cI cJ cZ σ) post (rcells a cI cJ cZ) 0 0 := by
  refine j_ofi (cc := cX7_greatestFrom) (maxL := 6) (ret := (some .int)) (by decide) rfl (Nat.le_of_ble_eq_true rfl) ?_
  intro p e s m args below meth c A C hr hnm hG
  refine j_sub (lv' := [(0, .ref (a 0)), (1, .int x1), (2, .int x2)]) [0, 1, 2] rfl ?_
  unfold wX7_greatestFrom at hw
  refine j_bipush (pc := 0) (v := (-9)) C dX7_greatestFrom_0 (by decide) ?_
  refine j_istore_n (pc := 2) (lv' := [(0, .ref (a 0)), (1, .int x1), (2, .int x2), (3, .int ((-9)))]) C [1, 2, 3, 0] dX7_greatestFrom_2 rfl (by decide) rfl ?_
  refine j_iconst (pc := 3) (v := 0) C dX7_greatestFrom_3 (by decide) ?_
  refine j_istore (pc := 4) (lv' := [(0, .ref (a 0)), (1, .int x1), (2, .int x2), (3, .int ((-9))), (4, .int 0)]) C [1, 2, 3, 4, 0] dX7_greatestFrom_4 (by decide) rfl ?_
  exact kX7_greatestFrom_6 C hr hG N _ _ _ _ _ hw

def rmX7_keepsSample : Room := { frames := 0, cells := 0, slots := 0, locals := 0 }
theorem hiX7_keepsSample : ∀ w ∈ u_ws RX7 TX7 50, w ∈ wsX7_keepsSample := fun w h => List.mem_cons_of_mem _ (List.mem_append_right _ h)
theorem lkX7_keepsSample_91 : Cond.fieldLink yX7_keepsSample.cls 91 (TX7 35).1 (TX7 35).2.1 (TX7 35).2.2.1 ∈ wsX7_keepsSample := by decide +kernel
theorem lkX7_keepsSample_94 : Cond.fieldLink yX7_keepsSample.cls 94 (TX7 36).1 (TX7 36).2.1 (TX7 36).2.2.1 ∈ wsX7_keepsSample := by decide +kernel
theorem lkX7_keepsSample_97 : Cond.fieldLink yX7_keepsSample.cls 97 (TX7 37).1 (TX7 37).2.1 (TX7 37).2.2.1 ∈ wsX7_keepsSample := by decide +kernel
theorem lkX7_keepsSample_69 : Cond.fieldLink yX7_keepsSample.cls 69 (TX7 28).1 (TX7 28).2.1 (TX7 28).2.2.1 ∈ wsX7_keepsSample := by decide +kernel
theorem lkX7_keepsSample_100 : Cond.fieldLink yX7_keepsSample.cls 100 (TX7 38).1 (TX7 38).2.1 (TX7 38).2.2.1 ∈ wsX7_keepsSample := by decide +kernel
theorem lkX7_keepsSample_75 : Cond.fieldLink yX7_keepsSample.cls 75 (TX7 30).1 (TX7 30).2.1 (TX7 30).2.2.1 ∈ wsX7_keepsSample := by decide +kernel
def wX7_keepsSample_78 (N : Nat) (σ : jRS) (y0 : Int32) (y1 : Int32) (post : jRS → Prop) : Prop := vp_in y1 2 ∧ ∀ s_20 : jRS, s_20 = rP σ 30 y1.toNatClampNeg y0 → post s_20
set_option maxHeartbeats 4000000 in
set_option maxRecDepth 100000 in
theorem kX7_keepsSample_78 {p : Program} {l : Launch} {e : Env} {s : State} {m : MethodId} {args : Array Value} {below : List Frame} {meth : Method} {c : Code} {D : va_G} {cI cJ cZ cO : ClassId} {a : Nat → Nat} {A : Nat → Prop} {N : Nat} {post : jRS → Prop} (C : jC p s m args meth c cX7_keepsSample 4 yX7_keepsSample.cls wsX7_keepsSample D (jT cI cJ cZ cO) A) (hr : meth.sig.returnType = none) (hG : jG0 A s) (σ : jRS) (y0 : Int32) (y1 : Int32) (hw : wX7_keepsSample_78 N σ y0 y1 post) : jJ p l e rmX7_keepsSample s m args below meth c 0 0 (MQ below (va_Qv post (jE D (jT cI cJ cZ cO) A (rcells a cI cJ cZ)) A) args s 0 0 A) D A 4 (rcells a cI cJ cZ σ) [] 78 [.int y0, .int y1, .ref (a 30)] := by
  unfold wX7_keepsSample_78 at hw
  obtain ⟨h_19, hw⟩ := hw
  refine j_iast (pc := 78) C 18 0 (r_at30 a cI cJ cZ σ) rfl h_19 dX7_keepsSample_78 (j_ws (r_s30 a cI cJ cZ σ y1.toNatClampNeg y0) ?_)
  refine j_nmS (F := rcells a cI cJ cZ) (fun s_20 es_20 => ?_)
  have hw := hw s_20 es_20
  exact j_vret (pc := 79) C hr s_20 rfl hw dX7_keepsSample_79
def wX7_keepsSample (N : Nat) (σ : jRS) (x1 : Int32) (x2 : Int32) (post : jRS → Prop) : Prop := vp_in x1 2 ∧ vp_in x1 2 ∧ ∀ x3_23 : Int32, x3_23 = (8192 * x1) + (((σ.1 35 x1.toNatClampNeg) + (σ.1 36 x1.toNatClampNeg)) - ((σ.1 35 x1.toNatClampNeg) + (σ.1 36 x1.toNatClampNeg)) / 8192 * 8192) → vp_in x1 2 ∧ ∀ v_25 : Int32, v_25 = σ.1 28 x1.toNatClampNeg → vp_in x3_23 16384 ∧ ∀ s_27 : jRS, s_27 = rP σ 37 x3_23.toNatClampNeg v_25 → vp_in x3_23 16384 ∧ ∀ s_29 : jRS, s_29 = rP s_27 38 x3_23.toNatClampNeg x2 → vp_in x1 2 ∧ ∀ v_31 : Int32, v_31 = (s_29.1 36 x1.toNatClampNeg) + 1 → vp_in x1 2 ∧ ∀ s_33 : jRS, s_33 = rP s_29 36 x1.toNatClampNeg v_31 → vp_in x1 2 ∧ ((x2 ≤ (s_33.1 30 x1.toNatClampNeg)) → (vp_in x1 2 ∧ wX7_keepsSample_78 N s_33 (s_33.1 30 x1.toNatClampNeg) x1 post)) ∧ ((¬ x2 ≤ (s_33.1 30 x1.toNatClampNeg)) → (wX7_keepsSample_78 N s_33 x2 x1 post))
set_option maxHeartbeats 4000000 in
set_option maxRecDepth 100000 in
theorem mX7_keepsSample {l : Launch} {D : va_G} {cI cJ cZ cO : ClassId} {a : Nat → Nat} {N : Nat} {σ : jRS} {x1 x2 : Int32} {post : jRS → Prop} (hw : wX7_keepsSample N σ x1 x2 post) : jMv l D (jT cI cJ cZ cO) jG0 yX7_keepsSample wsX7_keepsSample rmX7_keepsSample [.ref (a 0), .int x1, .int x2] (rcells a cI cJ cZ σ) post (rcells a cI cJ cZ) 0 0 := by
  refine j_ofv (cc := cX7_keepsSample) (maxL := 4) (ret := none) (by decide) rfl (Nat.le_of_ble_eq_true rfl) ?_
  intro p e s m args below meth c A C hr hnm hG
  refine j_sub (lv' := [(0, .ref (a 0)), (1, .int x1), (2, .int x2)]) [0, 1, 2] rfl ?_
  unfold wX7_keepsSample at hw
  refine j_sipush (pc := 0) (v := 8192) C dX7_keepsSample_0 (by decide) ?_
  refine j_iload_n (pc := 3) C dX7_keepsSample_3 1 rfl rfl ?_
  refine j_imul (pc := 4) C dX7_keepsSample_4 ?_
  refine j_aload_n (pc := 5) C dX7_keepsSample_5 0 rfl rfl ?_
  refine j_get (ref := RX7) (pc := 6) C hiX7_keepsSample 0 (r_at0 a cI cJ cZ σ) rfl 35 (by decide) lkX7_keepsSample_91 (r_fl35 a σ) dX7_keepsSample_6 ?_
  refine j_iload_n (pc := 9) C dX7_keepsSample_9 1 rfl rfl ?_
  obtain ⟨h_21, hw⟩ := hw
  refine j_iald (pc := 10) C 23 0 (r_at35 a cI cJ cZ σ) rfl h_21 dX7_keepsSample_10 ?_
  refine j_aload_n (pc := 11) C dX7_keepsSample_11 0 rfl rfl ?_
  refine j_get (ref := RX7) (pc := 12) C hiX7_keepsSample 0 (r_at0 a cI cJ cZ σ) rfl 36 (by decide) lkX7_keepsSample_94 (r_fl36 a σ) dX7_keepsSample_12 ?_
  refine j_iload_n (pc := 15) C dX7_keepsSample_15 1 rfl rfl ?_
  obtain ⟨h_22, hw⟩ := hw
  refine j_iald (pc := 16) C 24 0 (r_at36 a cI cJ cZ σ) rfl h_22 dX7_keepsSample_16 ?_
  refine j_iadd (pc := 17) C dX7_keepsSample_17 ?_
  refine j_sipush (pc := 18) (v := 8192) C dX7_keepsSample_18 (by decide) ?_
  refine j_irem (pc := 21) C dX7_keepsSample_21 (by decide) ?_
  refine j_iadd (pc := 22) C dX7_keepsSample_22 ?_
  refine j_topi (fun x3_23 ex3_23 => ?_)
  have hw := hw x3_23 ex3_23
  refine j_istore_n (pc := 23) (lv' := [(0, .ref (a 0)), (1, .int x1), (2, .int x2), (3, .int x3_23)]) C [1, 2, 3, 0] dX7_keepsSample_23 rfl (by decide) rfl ?_
  refine j_aload_n (pc := 24) C dX7_keepsSample_24 0 rfl rfl ?_
  refine j_get (ref := RX7) (pc := 25) C hiX7_keepsSample 0 (r_at0 a cI cJ cZ σ) rfl 37 (by decide) lkX7_keepsSample_97 (r_fl37 a σ) dX7_keepsSample_25 ?_
  refine j_iload_n (pc := 28) C dX7_keepsSample_28 3 rfl rfl ?_
  refine j_aload_n (pc := 29) C dX7_keepsSample_29 0 rfl rfl ?_
  refine j_get (ref := RX7) (pc := 30) C hiX7_keepsSample 0 (r_at0 a cI cJ cZ σ) rfl 28 (by decide) lkX7_keepsSample_69 (r_fl28 a σ) dX7_keepsSample_30 ?_
  refine j_iload_n (pc := 33) C dX7_keepsSample_33 1 rfl rfl ?_
  obtain ⟨h_24, hw⟩ := hw
  refine j_iald (pc := 34) C 16 0 (r_at28 a cI cJ cZ σ) rfl h_24 dX7_keepsSample_34 ?_
  refine j_topi (fun v_25 ev_25 => ?_)
  have hw := hw v_25 ev_25
  obtain ⟨h_26, hw⟩ := hw
  refine j_iast (pc := 35) C 25 0 (r_at37 a cI cJ cZ σ) rfl h_26 dX7_keepsSample_35 (j_ws (r_s37 a cI cJ cZ σ x3_23.toNatClampNeg v_25) ?_)
  refine j_nmS (F := rcells a cI cJ cZ) (fun s_27 es_27 => ?_)
  have hw := hw s_27 es_27
  refine j_aload_n (pc := 36) C dX7_keepsSample_36 0 rfl rfl ?_
  refine j_get (ref := RX7) (pc := 37) C hiX7_keepsSample 0 (r_at0 a cI cJ cZ s_27) rfl 38 (by decide) lkX7_keepsSample_100 (r_fl38 a s_27) dX7_keepsSample_37 ?_
  refine j_iload_n (pc := 40) C dX7_keepsSample_40 3 rfl rfl ?_
  refine j_iload_n (pc := 41) C dX7_keepsSample_41 2 rfl rfl ?_
  obtain ⟨h_28, hw⟩ := hw
  refine j_iast (pc := 42) C 26 0 (r_at38 a cI cJ cZ s_27) rfl h_28 dX7_keepsSample_42 (j_ws (r_s38 a cI cJ cZ s_27 x3_23.toNatClampNeg x2) ?_)
  refine j_nmS (F := rcells a cI cJ cZ) (fun s_29 es_29 => ?_)
  have hw := hw s_29 es_29
  refine j_aload_n (pc := 43) C dX7_keepsSample_43 0 rfl rfl ?_
  refine j_get (ref := RX7) (pc := 44) C hiX7_keepsSample 0 (r_at0 a cI cJ cZ s_29) rfl 36 (by decide) lkX7_keepsSample_94 (r_fl36 a s_29) dX7_keepsSample_44 ?_
  refine j_iload_n (pc := 47) C dX7_keepsSample_47 1 rfl rfl ?_
  refine j_dup2 (pc := 48) C dX7_keepsSample_48 rfl rfl ?_
  obtain ⟨h_30, hw⟩ := hw
  refine j_iald (pc := 49) C 24 0 (r_at36 a cI cJ cZ s_29) rfl h_30 dX7_keepsSample_49 ?_
  refine j_iconst (pc := 50) (v := 1) C dX7_keepsSample_50 (by decide) ?_
  refine j_iadd (pc := 51) C dX7_keepsSample_51 ?_
  refine j_topi (fun v_31 ev_31 => ?_)
  have hw := hw v_31 ev_31
  obtain ⟨h_32, hw⟩ := hw
  refine j_iast (pc := 52) C 24 0 (r_at36 a cI cJ cZ s_29) rfl h_32 dX7_keepsSample_52 (j_ws (r_s36 a cI cJ cZ s_29 x1.toNatClampNeg v_31) ?_)
  refine j_nmS (F := rcells a cI cJ cZ) (fun s_33 es_33 => ?_)
  have hw := hw s_33 es_33
  refine j_aload_n (pc := 53) C dX7_keepsSample_53 0 rfl rfl ?_
  refine j_get (ref := RX7) (pc := 54) C hiX7_keepsSample 0 (r_at0 a cI cJ cZ s_33) rfl 30 (by decide) lkX7_keepsSample_75 (r_fl30 a s_33) dX7_keepsSample_54 ?_
  refine j_iload_n (pc := 57) C dX7_keepsSample_57 1 rfl rfl ?_
  refine j_iload_n (pc := 58) C dX7_keepsSample_58 2 rfl rfl ?_
  refine j_aload_n (pc := 59) C dX7_keepsSample_59 0 rfl rfl ?_
  refine j_get (ref := RX7) (pc := 60) C hiX7_keepsSample 0 (r_at0 a cI cJ cZ s_33) rfl 30 (by decide) lkX7_keepsSample_75 (r_fl30 a s_33) dX7_keepsSample_60 ?_
  refine j_iload_n (pc := 63) C dX7_keepsSample_63 1 rfl rfl ?_
  obtain ⟨h_34, hw⟩ := hw
  refine j_iald (pc := 64) C 18 0 (r_at30 a cI cJ cZ s_33) rfl h_34 dX7_keepsSample_64 ?_
  refine j_icmp_le (pc := 65) C 72 dX7_keepsSample_65 (by decide) (fun z_35 => ?_) (fun z_35 => ?_)
  · have hw := hw.1 z_35
    refine j_aload_n (pc := 72) C dX7_keepsSample_72 0 rfl rfl ?_
    refine j_get (ref := RX7) (pc := 73) C hiX7_keepsSample 0 (r_at0 a cI cJ cZ s_33) rfl 30 (by decide) lkX7_keepsSample_75 (r_fl30 a s_33) dX7_keepsSample_73 ?_
    refine j_iload_n (pc := 76) C dX7_keepsSample_76 1 rfl rfl ?_
    obtain ⟨h_36, hw⟩ := hw
    refine j_iald (pc := 77) C 18 0 (r_at30 a cI cJ cZ s_33) rfl h_36 dX7_keepsSample_77 ?_
    refine j_sub [] rfl ?_
    exact kX7_keepsSample_78 C hr hG _ _ _ hw
  · have hw := hw.2 z_35
    refine j_iload_n (pc := 68) C dX7_keepsSample_68 2 rfl rfl ?_
    refine j_goto (pc := 69) C 78 dX7_keepsSample_69 (by decide) ?_
    refine j_sub [] rfl ?_
    exact kX7_keepsSample_78 C hr hG _ _ _ hw

def rmX7_letsGo : Room := { frames := 1, cells := 0, slots := 0, locals := 25 }
theorem hiX7_letsGo : ∀ w ∈ u_ws RX7 TX7 50, w ∈ wsX7_letsGo := fun w h => List.mem_cons_of_mem _ (List.mem_append_right _ h)
theorem lkX7_letsGo_94 : Cond.fieldLink yX7_letsGo.cls 94 (TX7 36).1 (TX7 36).2.1 (TX7 36).2.2.1 ∈ wsX7_letsGo := by decide +kernel
theorem lkX7_letsGo_97 : Cond.fieldLink yX7_letsGo.cls 97 (TX7 37).1 (TX7 37).2.1 (TX7 37).2.2.1 ∈ wsX7_letsGo := by decide +kernel
theorem lkX7_letsGo_91 : Cond.fieldLink yX7_letsGo.cls 91 (TX7 35).1 (TX7 35).2.1 (TX7 35).2.2.1 ∈ wsX7_letsGo := by decide +kernel
theorem lkX7_letsGo_69 : Cond.fieldLink yX7_letsGo.cls 69 (TX7 28).1 (TX7 28).2.1 (TX7 28).2.2.1 ∈ wsX7_letsGo := by decide +kernel
theorem lkX7_letsGo_100 : Cond.fieldLink yX7_letsGo.cls 100 (TX7 38).1 (TX7 38).2.1 (TX7 38).2.2.1 ∈ wsX7_letsGo := by decide +kernel
theorem lkX7_letsGo_75 : Cond.fieldLink yX7_letsGo.cls 75 (TX7 30).1 (TX7 30).2.1 (TX7 30).2.2.1 ∈ wsX7_letsGo := by decide +kernel
def wX7_letsGo_75 (N : Nat) (σ : jRS) (x1 : Int32) (y0 : Int32) (K : jRS → Int32 → Int32 → Prop) (post : jRS → Prop) : Prop := vp_in x1 2 ∧ ∀ v_27 : Int32, v_27 = ((σ.1 35 x1.toNatClampNeg) + 1) - ((σ.1 35 x1.toNatClampNeg) + 1) / 8192 * 8192 → vp_in x1 2 ∧ ∀ s_29 : jRS, s_29 = rP σ 35 x1.toNatClampNeg v_27 → vp_in x1 2 ∧ ∀ v_31 : Int32, v_31 = (s_29.1 36 x1.toNatClampNeg) - 1 → vp_in x1 2 ∧ ∀ s_33 : jRS, s_33 = rP s_29 36 x1.toNatClampNeg v_31 → K s_33 x1 y0
set_option maxHeartbeats 4000000 in
set_option maxRecDepth 100000 in
theorem kX7_letsGo_75 {p : Program} {l : Launch} {e : Env} {s : State} {m : MethodId} {args : Array Value} {below : List Frame} {meth : Method} {c : Code} {D : va_G} {cI cJ cZ cO : ClassId} {a : Nat → Nat} {A : Nat → Prop} {N : Nat} {post : jRS → Prop} (C : jC p s m args meth c cX7_letsGo 4 yX7_letsGo.cls wsX7_letsGo D (jT cI cJ cZ cO) A) (hr : meth.sig.returnType = none) (hG : jG0 A s) (σ : jRS) (x1 : Int32) (y0 : Int32) (K : jRS → Int32 → Int32 → Prop) (hK : ∀ (σ : jRS) (x1 : Int32) (x2 : Int32), K σ x1 x2 → jJ p l e rmX7_letsGo s m args below meth c 0 0 (MQ below (va_Qv post (jE D (jT cI cJ cZ cO) A (rcells a cI cJ cZ)) A) args s 0 0 A) D A 4 (rcells a cI cJ cZ σ) [(0, .ref (a 0)), (1, .int x1), (2, .int x2)] 2 []) (hw : wX7_letsGo_75 N σ x1 y0 K post) : jJ p l e rmX7_letsGo s m args below meth c 0 0 (MQ below (va_Qv post (jE D (jT cI cJ cZ cO) A (rcells a cI cJ cZ)) A) args s 0 0 A) D A 4 (rcells a cI cJ cZ σ) [(0, .ref (a 0)), (1, .int x1)] 75 [.int y0] := by
  unfold wX7_letsGo_75 at hw
  refine j_istore_n (pc := 75) (lv' := [(0, .ref (a 0)), (1, .int x1), (2, .int y0)]) C [1, 2, 0] dX7_letsGo_75 rfl (by decide) rfl ?_
  refine j_aload_n (pc := 76) C dX7_letsGo_76 0 rfl rfl ?_
  refine j_get (ref := RX7) (pc := 77) C hiX7_letsGo 0 (r_at0 a cI cJ cZ σ) rfl 35 (by decide) lkX7_letsGo_91 (r_fl35 a σ) dX7_letsGo_77 ?_
  refine j_iload_n (pc := 80) C dX7_letsGo_80 1 rfl rfl ?_
  refine j_aload_n (pc := 81) C dX7_letsGo_81 0 rfl rfl ?_
  refine j_get (ref := RX7) (pc := 82) C hiX7_letsGo 0 (r_at0 a cI cJ cZ σ) rfl 35 (by decide) lkX7_letsGo_91 (r_fl35 a σ) dX7_letsGo_82 ?_
  refine j_iload_n (pc := 85) C dX7_letsGo_85 1 rfl rfl ?_
  obtain ⟨h_26, hw⟩ := hw
  refine j_iald (pc := 86) C 23 0 (r_at35 a cI cJ cZ σ) rfl h_26 dX7_letsGo_86 ?_
  refine j_iconst (pc := 87) (v := 1) C dX7_letsGo_87 (by decide) ?_
  refine j_iadd (pc := 88) C dX7_letsGo_88 ?_
  refine j_sipush (pc := 89) (v := 8192) C dX7_letsGo_89 (by decide) ?_
  refine j_irem (pc := 92) C dX7_letsGo_92 (by decide) ?_
  refine j_topi (fun v_27 ev_27 => ?_)
  have hw := hw v_27 ev_27
  obtain ⟨h_28, hw⟩ := hw
  refine j_iast (pc := 93) C 23 0 (r_at35 a cI cJ cZ σ) rfl h_28 dX7_letsGo_93 (j_ws (r_s35 a cI cJ cZ σ x1.toNatClampNeg v_27) ?_)
  refine j_nmS (F := rcells a cI cJ cZ) (fun s_29 es_29 => ?_)
  have hw := hw s_29 es_29
  refine j_aload_n (pc := 94) C dX7_letsGo_94 0 rfl rfl ?_
  refine j_get (ref := RX7) (pc := 95) C hiX7_letsGo 0 (r_at0 a cI cJ cZ s_29) rfl 36 (by decide) lkX7_letsGo_94 (r_fl36 a s_29) dX7_letsGo_95 ?_
  refine j_iload_n (pc := 98) C dX7_letsGo_98 1 rfl rfl ?_
  refine j_dup2 (pc := 99) C dX7_letsGo_99 rfl rfl ?_
  obtain ⟨h_30, hw⟩ := hw
  refine j_iald (pc := 100) C 24 0 (r_at36 a cI cJ cZ s_29) rfl h_30 dX7_letsGo_100 ?_
  refine j_iconst (pc := 101) (v := 1) C dX7_letsGo_101 (by decide) ?_
  refine j_isub (pc := 102) C dX7_letsGo_102 ?_
  refine j_topi (fun v_31 ev_31 => ?_)
  have hw := hw v_31 ev_31
  obtain ⟨h_32, hw⟩ := hw
  refine j_iast (pc := 103) C 24 0 (r_at36 a cI cJ cZ s_29) rfl h_32 dX7_letsGo_103 (j_ws (r_s36 a cI cJ cZ s_29 x1.toNatClampNeg v_31) ?_)
  refine j_nmS (F := rcells a cI cJ cZ) (fun s_33 es_33 => ?_)
  have hw := hw s_33 es_33
  refine j_goto (pc := 104) C 2 dX7_letsGo_104 (by decide) ?_
  exact hK _ _ _ hw
def wX7_letsGo_70 (N : Nat) (σ : jRS) (x1 : Int32) (K : jRS → Int32 → Int32 → Prop) (post : jRS → Prop) : Prop := wX7_letsGo_75 N σ x1 1 K post
set_option maxHeartbeats 4000000 in
set_option maxRecDepth 100000 in
theorem kX7_letsGo_70 {p : Program} {l : Launch} {e : Env} {s : State} {m : MethodId} {args : Array Value} {below : List Frame} {meth : Method} {c : Code} {D : va_G} {cI cJ cZ cO : ClassId} {a : Nat → Nat} {A : Nat → Prop} {N : Nat} {post : jRS → Prop} (C : jC p s m args meth c cX7_letsGo 4 yX7_letsGo.cls wsX7_letsGo D (jT cI cJ cZ cO) A) (hr : meth.sig.returnType = none) (hG : jG0 A s) (σ : jRS) (x1 : Int32) (K : jRS → Int32 → Int32 → Prop) (hK : ∀ (σ : jRS) (x1 : Int32) (x2 : Int32), K σ x1 x2 → jJ p l e rmX7_letsGo s m args below meth c 0 0 (MQ below (va_Qv post (jE D (jT cI cJ cZ cO) A (rcells a cI cJ cZ)) A) args s 0 0 A) D A 4 (rcells a cI cJ cZ σ) [(0, .ref (a 0)), (1, .int x1), (2, .int x2)] 2 []) (hw : wX7_letsGo_70 N σ x1 K post) : jJ p l e rmX7_letsGo s m args below meth c 0 0 (MQ below (va_Qv post (jE D (jT cI cJ cZ cO) A (rcells a cI cJ cZ)) A) args s 0 0 A) D A 4 (rcells a cI cJ cZ σ) [(0, .ref (a 0)), (1, .int x1)] 70 [] := by
  unfold wX7_letsGo_70 at hw
  refine j_iconst (pc := 70) (v := 1) C dX7_letsGo_70 (by decide) ?_
  refine j_goto (pc := 71) C 75 dX7_letsGo_71 (by decide) ?_
  exact kX7_letsGo_75 C hr hG _ _ _ _ hK hw
def wX7_letsGo_134 (N : Nat) (σ : jRS) (y0 : Int32) (y1 : Int32) (post : jRS → Prop) : Prop := vp_in y1 2 ∧ ∀ s_35 : jRS, s_35 = rP σ 30 y1.toNatClampNeg y0 → post s_35
set_option maxHeartbeats 4000000 in
set_option maxRecDepth 100000 in
theorem kX7_letsGo_134 {p : Program} {l : Launch} {e : Env} {s : State} {m : MethodId} {args : Array Value} {below : List Frame} {meth : Method} {c : Code} {D : va_G} {cI cJ cZ cO : ClassId} {a : Nat → Nat} {A : Nat → Prop} {N : Nat} {post : jRS → Prop} (C : jC p s m args meth c cX7_letsGo 4 yX7_letsGo.cls wsX7_letsGo D (jT cI cJ cZ cO) A) (hr : meth.sig.returnType = none) (hG : jG0 A s) (σ : jRS) (y0 : Int32) (y1 : Int32) (hw : wX7_letsGo_134 N σ y0 y1 post) : jJ p l e rmX7_letsGo s m args below meth c 0 0 (MQ below (va_Qv post (jE D (jT cI cJ cZ cO) A (rcells a cI cJ cZ)) A) args s 0 0 A) D A 4 (rcells a cI cJ cZ σ) [] 134 [.int y0, .int y1, .ref (a 30)] := by
  unfold wX7_letsGo_134 at hw
  obtain ⟨h_34, hw⟩ := hw
  refine j_iast (pc := 134) C 18 0 (r_at30 a cI cJ cZ σ) rfl h_34 dX7_letsGo_134 (j_ws (r_s30 a cI cJ cZ σ y1.toNatClampNeg y0) ?_)
  refine j_nmS (F := rcells a cI cJ cZ) (fun s_35 es_35 => ?_)
  have hw := hw s_35 es_35
  exact j_vret (pc := 135) C hr s_35 rfl hw dX7_letsGo_135
def wX7_letsGo_107 (N : Nat) (σ : jRS) (x1 : Int32) (x2 : Int32) (post : jRS → Prop) : Prop := ((x2 = 0) → (post σ)) ∧ ((¬ x2 = 0) → (wX7_greatestFrom N σ x1 0 (fun r_37 s_38 => ((¬ r_37 = ((-9))) → (wX7_letsGo_134 N s_38 r_37 x1 post)) ∧ ((r_37 = ((-9))) → (wX7_letsGo_134 N s_38 0 x1 post)))))
set_option maxHeartbeats 4000000 in
set_option maxRecDepth 100000 in
theorem kX7_letsGo_107 {p : Program} {l : Launch} {e : Env} {s : State} {m : MethodId} {args : Array Value} {below : List Frame} {meth : Method} {c : Code} {D : va_G} {cI cJ cZ cO : ClassId} {a : Nat → Nat} {A : Nat → Prop} {N : Nat} {post : jRS → Prop} (C : jC p s m args meth c cX7_letsGo 4 yX7_letsGo.cls wsX7_letsGo D (jT cI cJ cZ cO) A) (hr : meth.sig.returnType = none) (hG : jG0 A s) (σ : jRS) (x1 : Int32) (x2 : Int32) (hw : wX7_letsGo_107 N σ x1 x2 post) : jJ p l e rmX7_letsGo s m args below meth c 0 0 (MQ below (va_Qv post (jE D (jT cI cJ cZ cO) A (rcells a cI cJ cZ)) A) args s 0 0 A) D A 4 (rcells a cI cJ cZ σ) [(0, .ref (a 0)), (1, .int x1), (2, .int x2)] 107 [] := by
  unfold wX7_letsGo_107 at hw
  refine j_iload_n (pc := 107) C dX7_letsGo_107 2 rfl rfl ?_
  refine j_if_eq (pc := 108) C 135 dX7_letsGo_108 (by decide) (fun z_36 => ?_) (fun z_36 => ?_)
  · have hw := hw.1 z_36
    exact j_vret (pc := 135) C hr σ rfl hw dX7_letsGo_135
  · have hw := hw.2 z_36
    refine j_aload_n (pc := 111) C dX7_letsGo_111 0 rfl rfl ?_
    refine j_iload_n (pc := 112) C dX7_letsGo_112 1 rfl rfl ?_
    refine j_iconst (pc := 113) (v := 0) C dX7_letsGo_113 (by decide) ?_
    refine j_calli0 (pc := 114) C jG0_ok trivial 2 (mX7_greatestFrom hw) gX7_letsGo_X7_greatestFrom rfl rfl rfl (by decide +kernel) ⟨by decide, by decide⟩ 0 (r_at0 a cI cJ cZ σ) rfl rfl rfl (Nat.le_of_ble_eq_true rfl) dX7_letsGo_114 ⟨Nat.le_refl _, Nat.le_refl _⟩ (fun r_37 s_38 hw => ?_)
    refine j_istore_n (pc := 117) (lv' := [(0, .ref (a 0)), (1, .int x1), (2, .int x2), (3, .int r_37)]) C [1, 2, 3, 0] dX7_letsGo_117 rfl (by decide) rfl ?_
    refine j_aload_n (pc := 118) C dX7_letsGo_118 0 rfl rfl ?_
    refine j_get (ref := RX7) (pc := 119) C hiX7_letsGo 0 (r_at0 a cI cJ cZ s_38) rfl 30 (by decide) lkX7_letsGo_75 (r_fl30 a s_38) dX7_letsGo_119 ?_
    refine j_iload_n (pc := 122) C dX7_letsGo_122 1 rfl rfl ?_
    refine j_iload_n (pc := 123) C dX7_letsGo_123 3 rfl rfl ?_
    refine j_bipush (pc := 124) (v := (-9)) C dX7_letsGo_124 (by decide) ?_
    refine j_icmp_ne (pc := 126) C 133 dX7_letsGo_126 (by decide) (fun z_39 => ?_) (fun z_39 => ?_)
    · have hw := hw.1 z_39
      refine j_iload_n (pc := 133) C dX7_letsGo_133 3 rfl rfl ?_
      refine j_sub [] rfl ?_
      exact kX7_letsGo_134 C hr hG _ _ _ hw
    · have hw := hw.2 z_39
      refine j_iconst (pc := 129) (v := 0) C dX7_letsGo_129 (by decide) ?_
      refine j_goto (pc := 130) C 134 dX7_letsGo_130 (by decide) ?_
      refine j_sub [] rfl ?_
      exact kX7_letsGo_134 C hr hG _ _ _ hw
def wX7_letsGo_2 (N : Nat) : Nat → jRS → Int32 → Int32 → (jRS → Prop) → Prop
  | 0, _, _, _, _ => False
  | n + 1, σ, x1, x2, post => vp_in x1 2 ∧ (((σ.1 36 x1.toNatClampNeg) ≤ 0) → (wX7_letsGo_107 N σ x1 x2 post)) ∧ ((¬ (σ.1 36 x1.toNatClampNeg) ≤ 0) → (vp_in x1 2 ∧ vp_in ((8192 * x1) + (σ.1 35 x1.toNatClampNeg)) 16384 ∧ vp_in x1 2 ∧ ((((σ.1 28 x1.toNatClampNeg) - 10) < (σ.1 37 ((8192 * x1) + (σ.1 35 x1.toNatClampNeg)).toNatClampNeg)) → (wX7_letsGo_107 N σ x1 x2 post)) ∧ ((¬ ((σ.1 28 x1.toNatClampNeg) - 10) < (σ.1 37 ((8192 * x1) + (σ.1 35 x1.toNatClampNeg)).toNatClampNeg)) → (((¬ x2 = 0) → (wX7_letsGo_70 N σ x1 (fun z0 x1 x2 => wX7_letsGo_2 N n z0 x1 x2 post) post)) ∧ ((x2 = 0) → (vp_in x1 2 ∧ vp_in ((8192 * x1) + (σ.1 35 x1.toNatClampNeg)) 16384 ∧ vp_in x1 2 ∧ (((σ.1 38 ((8192 * x1) + (σ.1 35 x1.toNatClampNeg)).toNatClampNeg) < (σ.1 30 x1.toNatClampNeg)) → (wX7_letsGo_75 N σ x1 0 (fun z0 x1 x2 => wX7_letsGo_2 N n z0 x1 x2 post) post)) ∧ ((¬ (σ.1 38 ((8192 * x1) + (σ.1 35 x1.toNatClampNeg)).toNatClampNeg) < (σ.1 30 x1.toNatClampNeg)) → (wX7_letsGo_70 N σ x1 (fun z0 x1 x2 => wX7_letsGo_2 N n z0 x1 x2 post) post))))))))
set_option maxHeartbeats 4000000 in
set_option maxRecDepth 100000 in
theorem kX7_letsGo_2 {p : Program} {l : Launch} {e : Env} {s : State} {m : MethodId} {args : Array Value} {below : List Frame} {meth : Method} {c : Code} {D : va_G} {cI cJ cZ cO : ClassId} {a : Nat → Nat} {A : Nat → Prop} {N : Nat} {post : jRS → Prop} (C : jC p s m args meth c cX7_letsGo 4 yX7_letsGo.cls wsX7_letsGo D (jT cI cJ cZ cO) A) (hr : meth.sig.returnType = none) (hG : jG0 A s) : ∀ (n : Nat) (σ : jRS) (x1 : Int32) (x2 : Int32), wX7_letsGo_2 N n σ x1 x2 post → jJ p l e rmX7_letsGo s m args below meth c 0 0 (MQ below (va_Qv post (jE D (jT cI cJ cZ cO) A (rcells a cI cJ cZ)) A) args s 0 0 A) D A 4 (rcells a cI cJ cZ σ) [(0, .ref (a 0)), (1, .int x1), (2, .int x2)] 2 [] := by
  intro n
  induction n with
  | zero =>
    intro σ x1 x2 hw
    exact False.elim hw
  | succ n ih =>
    intro σ x1 x2 hw
    unfold wX7_letsGo_2 at hw
    refine j_aload_n (pc := 2) C dX7_letsGo_2 0 rfl rfl ?_
    refine j_get (ref := RX7) (pc := 3) C hiX7_letsGo 0 (r_at0 a cI cJ cZ σ) rfl 36 (by decide) lkX7_letsGo_94 (r_fl36 a σ) dX7_letsGo_3 ?_
    refine j_iload_n (pc := 6) C dX7_letsGo_6 1 rfl rfl ?_
    obtain ⟨h_40, hw⟩ := hw
    refine j_iald (pc := 7) C 24 0 (r_at36 a cI cJ cZ σ) rfl h_40 dX7_letsGo_7 ?_
    refine j_if_le (pc := 8) C 107 dX7_letsGo_8 (by decide) (fun z_41 => ?_) (fun z_41 => ?_)
    · have hw := hw.1 z_41
      exact kX7_letsGo_107 C hr hG _ _ _ hw
    · have hw := hw.2 z_41
      refine j_aload_n (pc := 11) C dX7_letsGo_11 0 rfl rfl ?_
      refine j_get (ref := RX7) (pc := 12) C hiX7_letsGo 0 (r_at0 a cI cJ cZ σ) rfl 37 (by decide) lkX7_letsGo_97 (r_fl37 a σ) dX7_letsGo_12 ?_
      refine j_sipush (pc := 15) (v := 8192) C dX7_letsGo_15 (by decide) ?_
      refine j_iload_n (pc := 18) C dX7_letsGo_18 1 rfl rfl ?_
      refine j_imul (pc := 19) C dX7_letsGo_19 ?_
      refine j_aload_n (pc := 20) C dX7_letsGo_20 0 rfl rfl ?_
      refine j_get (ref := RX7) (pc := 21) C hiX7_letsGo 0 (r_at0 a cI cJ cZ σ) rfl 35 (by decide) lkX7_letsGo_91 (r_fl35 a σ) dX7_letsGo_21 ?_
      refine j_iload_n (pc := 24) C dX7_letsGo_24 1 rfl rfl ?_
      obtain ⟨h_42, hw⟩ := hw
      refine j_iald (pc := 25) C 23 0 (r_at35 a cI cJ cZ σ) rfl h_42 dX7_letsGo_25 ?_
      refine j_iadd (pc := 26) C dX7_letsGo_26 ?_
      obtain ⟨h_43, hw⟩ := hw
      refine j_iald (pc := 27) C 25 0 (r_at37 a cI cJ cZ σ) rfl h_43 dX7_letsGo_27 ?_
      refine j_aload_n (pc := 28) C dX7_letsGo_28 0 rfl rfl ?_
      refine j_get (ref := RX7) (pc := 29) C hiX7_letsGo 0 (r_at0 a cI cJ cZ σ) rfl 28 (by decide) lkX7_letsGo_69 (r_fl28 a σ) dX7_letsGo_29 ?_
      refine j_iload_n (pc := 32) C dX7_letsGo_32 1 rfl rfl ?_
      obtain ⟨h_44, hw⟩ := hw
      refine j_iald (pc := 33) C 16 0 (r_at28 a cI cJ cZ σ) rfl h_44 dX7_letsGo_33 ?_
      refine j_bipush (pc := 34) (v := 10) C dX7_letsGo_34 (by decide) ?_
      refine j_isub (pc := 36) C dX7_letsGo_36 ?_
      refine j_icmp_gt (pc := 37) C 107 dX7_letsGo_37 (by decide) (fun z_45 => ?_) (fun z_45 => ?_)
      · have hw := hw.1 z_45
        exact kX7_letsGo_107 C hr hG _ _ _ hw
      · have hw := hw.2 z_45
        refine j_iload_n (pc := 40) C dX7_letsGo_40 2 rfl rfl ?_
        refine j_if_ne (pc := 41) C 70 dX7_letsGo_41 (by decide) (fun z_46 => ?_) (fun z_46 => ?_)
        · have hw := hw.1 z_46
          refine j_sub [0, 1] rfl ?_
          exact kX7_letsGo_70 C hr hG _ _ _ (fun z0 x1 x2 hz => ih z0 x1 x2 hz) hw
        · have hw := hw.2 z_46
          refine j_aload_n (pc := 44) C dX7_letsGo_44 0 rfl rfl ?_
          refine j_get (ref := RX7) (pc := 45) C hiX7_letsGo 0 (r_at0 a cI cJ cZ σ) rfl 38 (by decide) lkX7_letsGo_100 (r_fl38 a σ) dX7_letsGo_45 ?_
          refine j_sipush (pc := 48) (v := 8192) C dX7_letsGo_48 (by decide) ?_
          refine j_iload_n (pc := 51) C dX7_letsGo_51 1 rfl rfl ?_
          refine j_imul (pc := 52) C dX7_letsGo_52 ?_
          refine j_aload_n (pc := 53) C dX7_letsGo_53 0 rfl rfl ?_
          refine j_get (ref := RX7) (pc := 54) C hiX7_letsGo 0 (r_at0 a cI cJ cZ σ) rfl 35 (by decide) lkX7_letsGo_91 (r_fl35 a σ) dX7_letsGo_54 ?_
          refine j_iload_n (pc := 57) C dX7_letsGo_57 1 rfl rfl ?_
          obtain ⟨h_47, hw⟩ := hw
          refine j_iald (pc := 58) C 23 0 (r_at35 a cI cJ cZ σ) rfl h_47 dX7_letsGo_58 ?_
          refine j_iadd (pc := 59) C dX7_letsGo_59 ?_
          obtain ⟨h_48, hw⟩ := hw
          refine j_iald (pc := 60) C 26 0 (r_at38 a cI cJ cZ σ) rfl h_48 dX7_letsGo_60 ?_
          refine j_aload_n (pc := 61) C dX7_letsGo_61 0 rfl rfl ?_
          refine j_get (ref := RX7) (pc := 62) C hiX7_letsGo 0 (r_at0 a cI cJ cZ σ) rfl 30 (by decide) lkX7_letsGo_75 (r_fl30 a σ) dX7_letsGo_62 ?_
          refine j_iload_n (pc := 65) C dX7_letsGo_65 1 rfl rfl ?_
          obtain ⟨h_49, hw⟩ := hw
          refine j_iald (pc := 66) C 18 0 (r_at30 a cI cJ cZ σ) rfl h_49 dX7_letsGo_66 ?_
          refine j_icmp_lt (pc := 67) C 74 dX7_letsGo_67 (by decide) (fun z_50 => ?_) (fun z_50 => ?_)
          · have hw := hw.1 z_50
            refine j_iconst (pc := 74) (v := 0) C dX7_letsGo_74 (by decide) ?_
            refine j_sub [0, 1] rfl ?_
            exact kX7_letsGo_75 C hr hG _ _ _ _ (fun z0 x1 x2 hz => ih z0 x1 x2 hz) hw
          · have hw := hw.2 z_50
            refine j_sub [0, 1] rfl ?_
            exact kX7_letsGo_70 C hr hG _ _ _ (fun z0 x1 x2 hz => ih z0 x1 x2 hz) hw
def wX7_letsGo (N : Nat) (σ : jRS) (x1 : Int32) (post : jRS → Prop) : Prop := wX7_letsGo_2 N N σ x1 0 post
set_option maxHeartbeats 4000000 in
set_option maxRecDepth 100000 in
theorem mX7_letsGo {l : Launch} {D : va_G} {cI cJ cZ cO : ClassId} {a : Nat → Nat} {N : Nat} {σ : jRS} {x1 : Int32} {post : jRS → Prop} (hw : wX7_letsGo N σ x1 post) : jMv l D (jT cI cJ cZ cO) jG0 yX7_letsGo wsX7_letsGo rmX7_letsGo [.ref (a 0), .int x1] (rcells a cI cJ cZ σ) post (rcells a cI cJ cZ) 0 0 := by
  refine j_ofv (cc := cX7_letsGo) (maxL := 4) (ret := none) (by decide) rfl (Nat.le_of_ble_eq_true rfl) ?_
  intro p e s m args below meth c A C hr hnm hG
  refine j_sub (lv' := [(0, .ref (a 0)), (1, .int x1)]) [0, 1] rfl ?_
  unfold wX7_letsGo at hw
  refine j_iconst (pc := 0) (v := 0) C dX7_letsGo_0 (by decide) ?_
  refine j_istore_n (pc := 1) (lv' := [(0, .ref (a 0)), (1, .int x1), (2, .int 0)]) C [1, 2, 0] dX7_letsGo_1 rfl (by decide) rfl ?_
  exact kX7_letsGo_2 C hr hG N _ _ _ hw

def rmX7_comesTo : Room := { frames := 0, cells := 0, slots := 0, locals := 0 }
theorem hiX7_comesTo : ∀ w ∈ u_ws RX7 TX7 50, w ∈ wsX7_comesTo := fun w h => List.mem_cons_of_mem _ (List.mem_append_right _ h)
theorem lkX7_comesTo_127 : Cond.fieldLink yX7_comesTo.cls 127 (TX7 47).1 (TX7 47).2.1 (TX7 47).2.2.1 ∈ wsX7_comesTo := by decide +kernel
theorem lkX7_comesTo_130 : Cond.fieldLink yX7_comesTo.cls 130 (TX7 48).1 (TX7 48).2.1 (TX7 48).2.2.1 ∈ wsX7_comesTo := by decide +kernel
theorem lkX7_comesTo_133 : Cond.fieldLink yX7_comesTo.cls 133 (TX7 49).1 (TX7 49).2.1 (TX7 49).2.2.1 ∈ wsX7_comesTo := by decide +kernel
theorem lkX7_comesTo_146 : Cond.fieldLink yX7_comesTo.cls 146 (TX7 0).1 (TX7 0).2.1 (TX7 0).2.2.1 ∈ wsX7_comesTo := by decide +kernel
theorem lkX7_comesTo_103 : Cond.fieldLink yX7_comesTo.cls 103 (TX7 39).1 (TX7 39).2.1 (TX7 39).2.2.1 ∈ wsX7_comesTo := by decide +kernel
def wX7_comesTo_99 (N : Nat) (σ : jRS) (x1 : Int32) (x2 : Int32) (y0 : Int32) (y1 : Int32) (post : jRS → Prop) : Prop := ∀ x3_28 : Int32, x3_28 = y1 + y0 → ∀ v_29 : Int32, v_29 = σ.1 0 0 → vp_in x3_28 24 ∧ ∀ s_31 : jRS, s_31 = rP σ 48 x3_28.toNatClampNeg v_29 → vp_in x3_28 24 ∧ ∀ s_33 : jRS, s_33 = rP s_31 49 x3_28.toNatClampNeg x2 → vp_in x1 2 ∧ ∀ v_35 : Int32, v_35 = (s_33.1 47 x1.toNatClampNeg) + 1 → vp_in x1 2 ∧ ∀ s_37 : jRS, s_37 = rP s_33 47 x1.toNatClampNeg v_35 → vp_in x1 2 ∧ ∀ s_39 : jRS, s_39 = rP s_37 39 x1.toNatClampNeg x2 → post s_39
set_option maxHeartbeats 4000000 in
set_option maxRecDepth 100000 in
theorem kX7_comesTo_99 {p : Program} {l : Launch} {e : Env} {s : State} {m : MethodId} {args : Array Value} {below : List Frame} {meth : Method} {c : Code} {D : va_G} {cI cJ cZ cO : ClassId} {a : Nat → Nat} {A : Nat → Prop} {N : Nat} {post : jRS → Prop} (C : jC p s m args meth c cX7_comesTo 4 yX7_comesTo.cls wsX7_comesTo D (jT cI cJ cZ cO) A) (hr : meth.sig.returnType = none) (hG : jG0 A s) (σ : jRS) (x1 : Int32) (x2 : Int32) (y0 : Int32) (y1 : Int32) (hw : wX7_comesTo_99 N σ x1 x2 y0 y1 post) : jJ p l e rmX7_comesTo s m args below meth c 0 0 (MQ below (va_Qv post (jE D (jT cI cJ cZ cO) A (rcells a cI cJ cZ)) A) args s 0 0 A) D A 4 (rcells a cI cJ cZ σ) [(0, .ref (a 0)), (1, .int x1), (2, .int x2)] 99 [.int y0, .int y1] := by
  unfold wX7_comesTo_99 at hw
  refine j_iadd (pc := 99) C dX7_comesTo_99 ?_
  refine j_topi (fun x3_28 ex3_28 => ?_)
  have hw := hw x3_28 ex3_28
  refine j_istore_n (pc := 100) (lv' := [(0, .ref (a 0)), (1, .int x1), (2, .int x2), (3, .int x3_28)]) C [1, 2, 3, 0] dX7_comesTo_100 rfl (by decide) rfl ?_
  refine j_aload_n (pc := 101) C dX7_comesTo_101 0 rfl rfl ?_
  refine j_get (ref := RX7) (pc := 102) C hiX7_comesTo 0 (r_at0 a cI cJ cZ σ) rfl 48 (by decide) lkX7_comesTo_130 (r_fl48 a σ) dX7_comesTo_102 ?_
  refine j_iload_n (pc := 105) C dX7_comesTo_105 3 rfl rfl ?_
  refine j_aload_n (pc := 106) C dX7_comesTo_106 0 rfl rfl ?_
  refine j_get (ref := RX7) (pc := 107) C hiX7_comesTo 0 (r_at0 a cI cJ cZ σ) rfl 0 (by decide) lkX7_comesTo_146 (r_fl0 a σ) dX7_comesTo_107 ?_
  refine j_topi (fun v_29 ev_29 => ?_)
  have hw := hw v_29 ev_29
  obtain ⟨h_30, hw⟩ := hw
  refine j_iast (pc := 110) C 36 0 (r_at48 a cI cJ cZ σ) rfl h_30 dX7_comesTo_110 (j_ws (r_s48 a cI cJ cZ σ x3_28.toNatClampNeg v_29) ?_)
  refine j_nmS (F := rcells a cI cJ cZ) (fun s_31 es_31 => ?_)
  have hw := hw s_31 es_31
  refine j_aload_n (pc := 111) C dX7_comesTo_111 0 rfl rfl ?_
  refine j_get (ref := RX7) (pc := 112) C hiX7_comesTo 0 (r_at0 a cI cJ cZ s_31) rfl 49 (by decide) lkX7_comesTo_133 (r_fl49 a s_31) dX7_comesTo_112 ?_
  refine j_iload_n (pc := 115) C dX7_comesTo_115 3 rfl rfl ?_
  refine j_iload_n (pc := 116) C dX7_comesTo_116 2 rfl rfl ?_
  obtain ⟨h_32, hw⟩ := hw
  refine j_iast (pc := 117) C 37 0 (r_at49 a cI cJ cZ s_31) rfl h_32 dX7_comesTo_117 (j_ws (r_s49 a cI cJ cZ s_31 x3_28.toNatClampNeg x2) ?_)
  refine j_nmS (F := rcells a cI cJ cZ) (fun s_33 es_33 => ?_)
  have hw := hw s_33 es_33
  refine j_aload_n (pc := 118) C dX7_comesTo_118 0 rfl rfl ?_
  refine j_get (ref := RX7) (pc := 119) C hiX7_comesTo 0 (r_at0 a cI cJ cZ s_33) rfl 47 (by decide) lkX7_comesTo_127 (r_fl47 a s_33) dX7_comesTo_119 ?_
  refine j_iload_n (pc := 122) C dX7_comesTo_122 1 rfl rfl ?_
  refine j_dup2 (pc := 123) C dX7_comesTo_123 rfl rfl ?_
  obtain ⟨h_34, hw⟩ := hw
  refine j_iald (pc := 124) C 35 0 (r_at47 a cI cJ cZ s_33) rfl h_34 dX7_comesTo_124 ?_
  refine j_iconst (pc := 125) (v := 1) C dX7_comesTo_125 (by decide) ?_
  refine j_iadd (pc := 126) C dX7_comesTo_126 ?_
  refine j_topi (fun v_35 ev_35 => ?_)
  have hw := hw v_35 ev_35
  obtain ⟨h_36, hw⟩ := hw
  refine j_iast (pc := 127) C 35 0 (r_at47 a cI cJ cZ s_33) rfl h_36 dX7_comesTo_127 (j_ws (r_s47 a cI cJ cZ s_33 x1.toNatClampNeg v_35) ?_)
  refine j_nmS (F := rcells a cI cJ cZ) (fun s_37 es_37 => ?_)
  have hw := hw s_37 es_37
  refine j_aload_n (pc := 128) C dX7_comesTo_128 0 rfl rfl ?_
  refine j_get (ref := RX7) (pc := 129) C hiX7_comesTo 0 (r_at0 a cI cJ cZ s_37) rfl 39 (by decide) lkX7_comesTo_103 (r_fl39 a s_37) dX7_comesTo_129 ?_
  refine j_iload_n (pc := 132) C dX7_comesTo_132 1 rfl rfl ?_
  refine j_iload_n (pc := 133) C dX7_comesTo_133 2 rfl rfl ?_
  obtain ⟨h_38, hw⟩ := hw
  refine j_iast (pc := 134) C 27 0 (r_at39 a cI cJ cZ s_37) rfl h_38 dX7_comesTo_134 (j_ws (r_s39 a cI cJ cZ s_37 x1.toNatClampNeg x2) ?_)
  refine j_nmS (F := rcells a cI cJ cZ) (fun s_39 es_39 => ?_)
  have hw := hw s_39 es_39
  exact j_vret (pc := 135) C hr s_39 rfl hw dX7_comesTo_135
def wX7_comesTo_73 (N : Nat) (σ : jRS) (x1 : Int32) (x2 : Int32) (post : jRS → Prop) : Prop := vp_in x1 2 ∧ ((12 ≤ (σ.1 47 x1.toNatClampNeg)) → (wX7_comesTo_99 N σ x1 x2 11 (12 * x1) post)) ∧ ((¬ 12 ≤ (σ.1 47 x1.toNatClampNeg)) → (vp_in x1 2 ∧ wX7_comesTo_99 N σ x1 x2 (σ.1 47 x1.toNatClampNeg) (12 * x1) post))
set_option maxHeartbeats 4000000 in
set_option maxRecDepth 100000 in
theorem kX7_comesTo_73 {p : Program} {l : Launch} {e : Env} {s : State} {m : MethodId} {args : Array Value} {below : List Frame} {meth : Method} {c : Code} {D : va_G} {cI cJ cZ cO : ClassId} {a : Nat → Nat} {A : Nat → Prop} {N : Nat} {post : jRS → Prop} (C : jC p s m args meth c cX7_comesTo 4 yX7_comesTo.cls wsX7_comesTo D (jT cI cJ cZ cO) A) (hr : meth.sig.returnType = none) (hG : jG0 A s) (σ : jRS) (x1 : Int32) (x2 : Int32) (hw : wX7_comesTo_73 N σ x1 x2 post) : jJ p l e rmX7_comesTo s m args below meth c 0 0 (MQ below (va_Qv post (jE D (jT cI cJ cZ cO) A (rcells a cI cJ cZ)) A) args s 0 0 A) D A 4 (rcells a cI cJ cZ σ) [(0, .ref (a 0)), (1, .int x1), (2, .int x2)] 73 [] := by
  unfold wX7_comesTo_73 at hw
  refine j_bipush (pc := 73) (v := 12) C dX7_comesTo_73 (by decide) ?_
  refine j_iload_n (pc := 75) C dX7_comesTo_75 1 rfl rfl ?_
  refine j_imul (pc := 76) C dX7_comesTo_76 ?_
  refine j_aload_n (pc := 77) C dX7_comesTo_77 0 rfl rfl ?_
  refine j_get (ref := RX7) (pc := 78) C hiX7_comesTo 0 (r_at0 a cI cJ cZ σ) rfl 47 (by decide) lkX7_comesTo_127 (r_fl47 a σ) dX7_comesTo_78 ?_
  refine j_iload_n (pc := 81) C dX7_comesTo_81 1 rfl rfl ?_
  obtain ⟨h_40, hw⟩ := hw
  refine j_iald (pc := 82) C 35 0 (r_at47 a cI cJ cZ σ) rfl h_40 dX7_comesTo_82 ?_
  refine j_bipush (pc := 83) (v := 12) C dX7_comesTo_83 (by decide) ?_
  refine j_icmp_ge (pc := 85) C 97 dX7_comesTo_85 (by decide) (fun z_41 => ?_) (fun z_41 => ?_)
  · have hw := hw.1 z_41
    refine j_bipush (pc := 97) (v := 11) C dX7_comesTo_97 (by decide) ?_
    exact kX7_comesTo_99 C hr hG _ _ _ _ _ hw
  · have hw := hw.2 z_41
    refine j_aload_n (pc := 88) C dX7_comesTo_88 0 rfl rfl ?_
    refine j_get (ref := RX7) (pc := 89) C hiX7_comesTo 0 (r_at0 a cI cJ cZ σ) rfl 47 (by decide) lkX7_comesTo_127 (r_fl47 a σ) dX7_comesTo_89 ?_
    refine j_iload_n (pc := 92) C dX7_comesTo_92 1 rfl rfl ?_
    obtain ⟨h_42, hw⟩ := hw
    refine j_iald (pc := 93) C 35 0 (r_at47 a cI cJ cZ σ) rfl h_42 dX7_comesTo_93 ?_
    refine j_goto (pc := 94) C 99 dX7_comesTo_94 (by decide) ?_
    exact kX7_comesTo_99 C hr hG _ _ _ _ _ hw
def wX7_comesTo_13 (N : Nat) : Nat → jRS → Int32 → Int32 → Int32 → (jRS → Prop) → Prop
  | 0, _, _, _, _, _ => False
  | n + 1, σ, x1, x2, x3, post => ((11 ≤ x3) → (wX7_comesTo_73 N σ x1 x2 post)) ∧ ((¬ 11 ≤ x3) → (vp_in (((12 * x1) + x3) + 1) 24 ∧ ∀ v_45 : Int32, v_45 = σ.1 48 (((12 * x1) + x3) + 1).toNatClampNeg → vp_in ((12 * x1) + x3) 24 ∧ ∀ s_47 : jRS, s_47 = rP σ 48 ((12 * x1) + x3).toNatClampNeg v_45 → vp_in (((12 * x1) + x3) + 1) 24 ∧ ∀ v_49 : Int32, v_49 = s_47.1 49 (((12 * x1) + x3) + 1).toNatClampNeg → vp_in ((12 * x1) + x3) 24 ∧ ∀ s_51 : jRS, s_51 = rP s_47 49 ((12 * x1) + x3).toNatClampNeg v_49 → ∀ x3_52 : Int32, x3_52 = x3 + 1 → wX7_comesTo_13 N n s_51 x1 x2 x3_52 post))
set_option maxHeartbeats 4000000 in
set_option maxRecDepth 100000 in
theorem kX7_comesTo_13 {p : Program} {l : Launch} {e : Env} {s : State} {m : MethodId} {args : Array Value} {below : List Frame} {meth : Method} {c : Code} {D : va_G} {cI cJ cZ cO : ClassId} {a : Nat → Nat} {A : Nat → Prop} {N : Nat} {post : jRS → Prop} (C : jC p s m args meth c cX7_comesTo 4 yX7_comesTo.cls wsX7_comesTo D (jT cI cJ cZ cO) A) (hr : meth.sig.returnType = none) (hG : jG0 A s) : ∀ (n : Nat) (σ : jRS) (x1 : Int32) (x2 : Int32) (x3 : Int32), wX7_comesTo_13 N n σ x1 x2 x3 post → jJ p l e rmX7_comesTo s m args below meth c 0 0 (MQ below (va_Qv post (jE D (jT cI cJ cZ cO) A (rcells a cI cJ cZ)) A) args s 0 0 A) D A 4 (rcells a cI cJ cZ σ) [(0, .ref (a 0)), (1, .int x1), (2, .int x2), (3, .int x3)] 13 [] := by
  intro n
  induction n with
  | zero =>
    intro σ x1 x2 x3 hw
    exact False.elim hw
  | succ n ih =>
    intro σ x1 x2 x3 hw
    unfold wX7_comesTo_13 at hw
    refine j_iload_n (pc := 13) C dX7_comesTo_13 3 rfl rfl ?_
    refine j_bipush (pc := 14) (v := 11) C dX7_comesTo_14 (by decide) ?_
    refine j_icmp_ge (pc := 16) C 73 dX7_comesTo_16 (by decide) (fun z_43 => ?_) (fun z_43 => ?_)
    · have hw := hw.1 z_43
      refine j_sub [0, 1, 2] rfl ?_
      exact kX7_comesTo_73 C hr hG _ _ _ hw
    · have hw := hw.2 z_43
      refine j_aload_n (pc := 19) C dX7_comesTo_19 0 rfl rfl ?_
      refine j_get (ref := RX7) (pc := 20) C hiX7_comesTo 0 (r_at0 a cI cJ cZ σ) rfl 48 (by decide) lkX7_comesTo_130 (r_fl48 a σ) dX7_comesTo_20 ?_
      refine j_bipush (pc := 23) (v := 12) C dX7_comesTo_23 (by decide) ?_
      refine j_iload_n (pc := 25) C dX7_comesTo_25 1 rfl rfl ?_
      refine j_imul (pc := 26) C dX7_comesTo_26 ?_
      refine j_iload_n (pc := 27) C dX7_comesTo_27 3 rfl rfl ?_
      refine j_iadd (pc := 28) C dX7_comesTo_28 ?_
      refine j_aload_n (pc := 29) C dX7_comesTo_29 0 rfl rfl ?_
      refine j_get (ref := RX7) (pc := 30) C hiX7_comesTo 0 (r_at0 a cI cJ cZ σ) rfl 48 (by decide) lkX7_comesTo_130 (r_fl48 a σ) dX7_comesTo_30 ?_
      refine j_bipush (pc := 33) (v := 12) C dX7_comesTo_33 (by decide) ?_
      refine j_iload_n (pc := 35) C dX7_comesTo_35 1 rfl rfl ?_
      refine j_imul (pc := 36) C dX7_comesTo_36 ?_
      refine j_iload_n (pc := 37) C dX7_comesTo_37 3 rfl rfl ?_
      refine j_iadd (pc := 38) C dX7_comesTo_38 ?_
      refine j_iconst (pc := 39) (v := 1) C dX7_comesTo_39 (by decide) ?_
      refine j_iadd (pc := 40) C dX7_comesTo_40 ?_
      obtain ⟨h_44, hw⟩ := hw
      refine j_iald (pc := 41) C 36 0 (r_at48 a cI cJ cZ σ) rfl h_44 dX7_comesTo_41 ?_
      refine j_topi (fun v_45 ev_45 => ?_)
      have hw := hw v_45 ev_45
      obtain ⟨h_46, hw⟩ := hw
      refine j_iast (pc := 42) C 36 0 (r_at48 a cI cJ cZ σ) rfl h_46 dX7_comesTo_42 (j_ws (r_s48 a cI cJ cZ σ ((12 * x1) + x3).toNatClampNeg v_45) ?_)
      refine j_nmS (F := rcells a cI cJ cZ) (fun s_47 es_47 => ?_)
      have hw := hw s_47 es_47
      refine j_aload_n (pc := 43) C dX7_comesTo_43 0 rfl rfl ?_
      refine j_get (ref := RX7) (pc := 44) C hiX7_comesTo 0 (r_at0 a cI cJ cZ s_47) rfl 49 (by decide) lkX7_comesTo_133 (r_fl49 a s_47) dX7_comesTo_44 ?_
      refine j_bipush (pc := 47) (v := 12) C dX7_comesTo_47 (by decide) ?_
      refine j_iload_n (pc := 49) C dX7_comesTo_49 1 rfl rfl ?_
      refine j_imul (pc := 50) C dX7_comesTo_50 ?_
      refine j_iload_n (pc := 51) C dX7_comesTo_51 3 rfl rfl ?_
      refine j_iadd (pc := 52) C dX7_comesTo_52 ?_
      refine j_aload_n (pc := 53) C dX7_comesTo_53 0 rfl rfl ?_
      refine j_get (ref := RX7) (pc := 54) C hiX7_comesTo 0 (r_at0 a cI cJ cZ s_47) rfl 49 (by decide) lkX7_comesTo_133 (r_fl49 a s_47) dX7_comesTo_54 ?_
      refine j_bipush (pc := 57) (v := 12) C dX7_comesTo_57 (by decide) ?_
      refine j_iload_n (pc := 59) C dX7_comesTo_59 1 rfl rfl ?_
      refine j_imul (pc := 60) C dX7_comesTo_60 ?_
      refine j_iload_n (pc := 61) C dX7_comesTo_61 3 rfl rfl ?_
      refine j_iadd (pc := 62) C dX7_comesTo_62 ?_
      refine j_iconst (pc := 63) (v := 1) C dX7_comesTo_63 (by decide) ?_
      refine j_iadd (pc := 64) C dX7_comesTo_64 ?_
      obtain ⟨h_48, hw⟩ := hw
      refine j_iald (pc := 65) C 37 0 (r_at49 a cI cJ cZ s_47) rfl h_48 dX7_comesTo_65 ?_
      refine j_topi (fun v_49 ev_49 => ?_)
      have hw := hw v_49 ev_49
      obtain ⟨h_50, hw⟩ := hw
      refine j_iast (pc := 66) C 37 0 (r_at49 a cI cJ cZ s_47) rfl h_50 dX7_comesTo_66 (j_ws (r_s49 a cI cJ cZ s_47 ((12 * x1) + x3).toNatClampNeg v_49) ?_)
      refine j_nmS (F := rcells a cI cJ cZ) (fun s_51 es_51 => ?_)
      have hw := hw s_51 es_51
      obtain ⟨x3_52, ex3_52⟩ : ∃ y : Int32, y = x3 + 1 := ⟨_, rfl⟩
      have hw := hw x3_52 ex3_52
      refine j_iinc (pc := 67) (v := x3_52) (lv' := [(0, .ref (a 0)), (1, .int x1), (2, .int x2), (3, .int x3_52)]) C [1, 2, 3, 0] 3 dX7_comesTo_67 rfl (by rw [ex3_52]; rfl) (by decide) rfl ?_
      refine j_goto (pc := 70) C 13 dX7_comesTo_70 (by decide) ?_
      exact ih _ _ _ _ hw
def wX7_comesTo (N : Nat) (σ : jRS) (x1 : Int32) (x2 : Int32) (post : jRS → Prop) : Prop := vp_in x1 2 ∧ (((σ.1 47 x1.toNatClampNeg) < 12) → (wX7_comesTo_73 N σ x1 x2 post)) ∧ ((¬ (σ.1 47 x1.toNatClampNeg) < 12) → (wX7_comesTo_13 N N σ x1 x2 0 post))
set_option maxHeartbeats 4000000 in
set_option maxRecDepth 100000 in
theorem mX7_comesTo {l : Launch} {D : va_G} {cI cJ cZ cO : ClassId} {a : Nat → Nat} {N : Nat} {σ : jRS} {x1 x2 : Int32} {post : jRS → Prop} (hw : wX7_comesTo N σ x1 x2 post) : jMv l D (jT cI cJ cZ cO) jG0 yX7_comesTo wsX7_comesTo rmX7_comesTo [.ref (a 0), .int x1, .int x2] (rcells a cI cJ cZ σ) post (rcells a cI cJ cZ) 0 0 := by
  refine j_ofv (cc := cX7_comesTo) (maxL := 4) (ret := none) (by decide) rfl (Nat.le_of_ble_eq_true rfl) ?_
  intro p e s m args below meth c A C hr hnm hG
  refine j_sub (lv' := [(0, .ref (a 0)), (1, .int x1), (2, .int x2)]) [0, 1, 2] rfl ?_
  unfold wX7_comesTo at hw
  refine j_aload_n (pc := 0) C dX7_comesTo_0 0 rfl rfl ?_
  refine j_get (ref := RX7) (pc := 1) C hiX7_comesTo 0 (r_at0 a cI cJ cZ σ) rfl 47 (by decide) lkX7_comesTo_127 (r_fl47 a σ) dX7_comesTo_1 ?_
  refine j_iload_n (pc := 4) C dX7_comesTo_4 1 rfl rfl ?_
  obtain ⟨h_53, hw⟩ := hw
  refine j_iald (pc := 5) C 35 0 (r_at47 a cI cJ cZ σ) rfl h_53 dX7_comesTo_5 ?_
  refine j_bipush (pc := 6) (v := 12) C dX7_comesTo_6 (by decide) ?_
  refine j_icmp_lt (pc := 8) C 73 dX7_comesTo_8 (by decide) (fun z_54 => ?_) (fun z_54 => ?_)
  · have hw := hw.1 z_54
    exact kX7_comesTo_73 C hr hG _ _ _ hw
  · have hw := hw.2 z_54
    refine j_iconst (pc := 11) (v := 0) C dX7_comesTo_11 (by decide) ?_
    refine j_istore_n (pc := 12) (lv' := [(0, .ref (a 0)), (1, .int x1), (2, .int x2), (3, .int 0)]) C [1, 2, 3, 0] dX7_comesTo_12 rfl (by decide) rfl ?_
    exact kX7_comesTo_13 C hr hG N _ _ _ _ hw

def rmX7_comesToPhase : Room := { frames := 0, cells := 0, slots := 0, locals := 0 }
theorem hiX7_comesToPhase : ∀ w ∈ u_ws RX7 TX7 50, w ∈ wsX7_comesToPhase := fun w h => List.mem_cons_of_mem _ (List.mem_append_right _ h)
theorem lkX7_comesToPhase_106 : Cond.fieldLink yX7_comesToPhase.cls 106 (TX7 40).1 (TX7 40).2.1 (TX7 40).2.2.1 ∈ wsX7_comesToPhase := by decide +kernel
theorem lkX7_comesToPhase_109 : Cond.fieldLink yX7_comesToPhase.cls 109 (TX7 41).1 (TX7 41).2.1 (TX7 41).2.2.1 ∈ wsX7_comesToPhase := by decide +kernel
theorem lkX7_comesToPhase_146 : Cond.fieldLink yX7_comesToPhase.cls 146 (TX7 0).1 (TX7 0).2.1 (TX7 0).2.2.1 ∈ wsX7_comesToPhase := by decide +kernel
theorem lkX7_comesToPhase_112 : Cond.fieldLink yX7_comesToPhase.cls 112 (TX7 42).1 (TX7 42).2.1 (TX7 42).2.2.1 ∈ wsX7_comesToPhase := by decide +kernel
theorem lkX7_comesToPhase_88 : Cond.fieldLink yX7_comesToPhase.cls 88 (TX7 34).1 (TX7 34).2.1 (TX7 34).2.2.1 ∈ wsX7_comesToPhase := by decide +kernel
def wX7_comesToPhase (N : Nat) (σ : jRS) (x1 : Int32) (x2 : Int32) (post : jRS → Prop) : Prop := vp_in x1 2 ∧ ∀ s_11 : jRS, s_11 = rP σ 40 x1.toNatClampNeg x2 → ∀ v_12 : Int32, v_12 = s_11.1 0 0 → vp_in x1 2 ∧ ∀ s_14 : jRS, s_14 = rP s_11 41 x1.toNatClampNeg v_12 → vp_in x1 2 ∧ ∀ v_16 : Int32, v_16 = s_14.1 34 x1.toNatClampNeg → vp_in x1 2 ∧ ∀ s_18 : jRS, s_18 = rP s_14 42 x1.toNatClampNeg v_16 → post s_18
set_option maxHeartbeats 4000000 in
set_option maxRecDepth 100000 in
theorem mX7_comesToPhase {l : Launch} {D : va_G} {cI cJ cZ cO : ClassId} {a : Nat → Nat} {N : Nat} {σ : jRS} {x1 x2 : Int32} {post : jRS → Prop} (hw : wX7_comesToPhase N σ x1 x2 post) : jMv l D (jT cI cJ cZ cO) jG0 yX7_comesToPhase wsX7_comesToPhase rmX7_comesToPhase [.ref (a 0), .int x1, .int x2] (rcells a cI cJ cZ σ) post (rcells a cI cJ cZ) 0 0 := by
  refine j_ofv (cc := cX7_comesToPhase) (maxL := 3) (ret := none) (by decide) rfl (Nat.le_of_ble_eq_true rfl) ?_
  intro p e s m args below meth c A C hr hnm hG
  refine j_sub (lv' := [(0, .ref (a 0)), (1, .int x1), (2, .int x2)]) [0, 1, 2] rfl ?_
  unfold wX7_comesToPhase at hw
  refine j_aload_n (pc := 0) C dX7_comesToPhase_0 0 rfl rfl ?_
  refine j_get (ref := RX7) (pc := 1) C hiX7_comesToPhase 0 (r_at0 a cI cJ cZ σ) rfl 40 (by decide) lkX7_comesToPhase_106 (r_fl40 a σ) dX7_comesToPhase_1 ?_
  refine j_iload_n (pc := 4) C dX7_comesToPhase_4 1 rfl rfl ?_
  refine j_iload_n (pc := 5) C dX7_comesToPhase_5 2 rfl rfl ?_
  obtain ⟨h_10, hw⟩ := hw
  refine j_iast (pc := 6) C 28 0 (r_at40 a cI cJ cZ σ) rfl h_10 dX7_comesToPhase_6 (j_ws (r_s40 a cI cJ cZ σ x1.toNatClampNeg x2) ?_)
  refine j_nmS (F := rcells a cI cJ cZ) (fun s_11 es_11 => ?_)
  have hw := hw s_11 es_11
  refine j_aload_n (pc := 7) C dX7_comesToPhase_7 0 rfl rfl ?_
  refine j_get (ref := RX7) (pc := 8) C hiX7_comesToPhase 0 (r_at0 a cI cJ cZ s_11) rfl 41 (by decide) lkX7_comesToPhase_109 (r_fl41 a s_11) dX7_comesToPhase_8 ?_
  refine j_iload_n (pc := 11) C dX7_comesToPhase_11 1 rfl rfl ?_
  refine j_aload_n (pc := 12) C dX7_comesToPhase_12 0 rfl rfl ?_
  refine j_get (ref := RX7) (pc := 13) C hiX7_comesToPhase 0 (r_at0 a cI cJ cZ s_11) rfl 0 (by decide) lkX7_comesToPhase_146 (r_fl0 a s_11) dX7_comesToPhase_13 ?_
  refine j_topi (fun v_12 ev_12 => ?_)
  have hw := hw v_12 ev_12
  obtain ⟨h_13, hw⟩ := hw
  refine j_iast (pc := 16) C 29 0 (r_at41 a cI cJ cZ s_11) rfl h_13 dX7_comesToPhase_16 (j_ws (r_s41 a cI cJ cZ s_11 x1.toNatClampNeg v_12) ?_)
  refine j_nmS (F := rcells a cI cJ cZ) (fun s_14 es_14 => ?_)
  have hw := hw s_14 es_14
  refine j_aload_n (pc := 17) C dX7_comesToPhase_17 0 rfl rfl ?_
  refine j_get (ref := RX7) (pc := 18) C hiX7_comesToPhase 0 (r_at0 a cI cJ cZ s_14) rfl 42 (by decide) lkX7_comesToPhase_112 (r_fl42 a s_14) dX7_comesToPhase_18 ?_
  refine j_iload_n (pc := 21) C dX7_comesToPhase_21 1 rfl rfl ?_
  refine j_aload_n (pc := 22) C dX7_comesToPhase_22 0 rfl rfl ?_
  refine j_get (ref := RX7) (pc := 23) C hiX7_comesToPhase 0 (r_at0 a cI cJ cZ s_14) rfl 34 (by decide) lkX7_comesToPhase_88 (r_fl34 a s_14) dX7_comesToPhase_23 ?_
  refine j_iload_n (pc := 26) C dX7_comesToPhase_26 1 rfl rfl ?_
  obtain ⟨h_15, hw⟩ := hw
  refine j_iald (pc := 27) C 22 0 (r_at34 a cI cJ cZ s_14) rfl h_15 dX7_comesToPhase_27 ?_
  refine j_topi (fun v_16 ev_16 => ?_)
  have hw := hw v_16 ev_16
  obtain ⟨h_17, hw⟩ := hw
  refine j_iast (pc := 28) C 30 0 (r_at42 a cI cJ cZ s_14) rfl h_17 dX7_comesToPhase_28 (j_ws (r_s42 a cI cJ cZ s_14 x1.toNatClampNeg v_16) ?_)
  refine j_nmS (F := rcells a cI cJ cZ) (fun s_18 es_18 => ?_)
  have hw := hw s_18 es_18
  exact j_vret (pc := 29) C hr s_18 rfl hw dX7_comesToPhase_29

def rmX7_starts : Room := { frames := 0, cells := 0, slots := 0, locals := 0 }
theorem hiX7_starts : ∀ w ∈ u_ws RX7 TX7 50, w ∈ wsX7_starts := fun w h => List.mem_cons_of_mem _ (List.mem_append_right _ h)
theorem lkX7_starts_75 : Cond.fieldLink yX7_starts.cls 75 (TX7 30).1 (TX7 30).2.1 (TX7 30).2.2.1 ∈ wsX7_starts := by decide +kernel
theorem lkX7_starts_121 : Cond.fieldLink yX7_starts.cls 121 (TX7 45).1 (TX7 45).2.1 (TX7 45).2.2.1 ∈ wsX7_starts := by decide +kernel
theorem lkX7_starts_124 : Cond.fieldLink yX7_starts.cls 124 (TX7 46).1 (TX7 46).2.1 (TX7 46).2.2.1 ∈ wsX7_starts := by decide +kernel
theorem lkX7_starts_118 : Cond.fieldLink yX7_starts.cls 118 (TX7 44).1 (TX7 44).2.1 (TX7 44).2.2.1 ∈ wsX7_starts := by decide +kernel
def wX7_starts_96 (N : Nat) (σ : jRS) (y0 : Int32) (y1 : Int32) (post : jRS → Prop) : Prop := vp_in y1 2 ∧ ∀ s_23 : jRS, s_23 = rP σ 44 y1.toNatClampNeg (vp_nar .boolean y0) → post s_23
set_option maxHeartbeats 4000000 in
set_option maxRecDepth 100000 in
theorem kX7_starts_96 {p : Program} {l : Launch} {e : Env} {s : State} {m : MethodId} {args : Array Value} {below : List Frame} {meth : Method} {c : Code} {D : va_G} {cI cJ cZ cO : ClassId} {a : Nat → Nat} {A : Nat → Prop} {N : Nat} {post : jRS → Prop} (C : jC p s m args meth c cX7_starts 4 yX7_starts.cls wsX7_starts D (jT cI cJ cZ cO) A) (hr : meth.sig.returnType = none) (hG : jG0 A s) (σ : jRS) (y0 : Int32) (y1 : Int32) (hw : wX7_starts_96 N σ y0 y1 post) : jJ p l e rmX7_starts s m args below meth c 0 0 (MQ below (va_Qv post (jE D (jT cI cJ cZ cO) A (rcells a cI cJ cZ)) A) args s 0 0 A) D A 4 (rcells a cI cJ cZ σ) [] 96 [.int y0, .int y1, .ref (a 44)] := by
  unfold wX7_starts_96 at hw
  obtain ⟨h_22, hw⟩ := hw
  refine j_zast (pc := 96) C 32 2 (r_at44 a cI cJ cZ σ) rfl h_22 dX7_starts_96 (j_ws (r_s44 a cI cJ cZ σ y1.toNatClampNeg (vp_nar .boolean y0)) ?_)
  refine j_nmS (F := rcells a cI cJ cZ) (fun s_23 es_23 => ?_)
  have hw := hw s_23 es_23
  exact j_vret (pc := 97) C hr s_23 rfl hw dX7_starts_97
def wX7_starts_91 (N : Nat) (σ : jRS) (y0 : Int32) (post : jRS → Prop) : Prop := wX7_starts_96 N σ 1 y0 post
set_option maxHeartbeats 4000000 in
set_option maxRecDepth 100000 in
theorem kX7_starts_91 {p : Program} {l : Launch} {e : Env} {s : State} {m : MethodId} {args : Array Value} {below : List Frame} {meth : Method} {c : Code} {D : va_G} {cI cJ cZ cO : ClassId} {a : Nat → Nat} {A : Nat → Prop} {N : Nat} {post : jRS → Prop} (C : jC p s m args meth c cX7_starts 4 yX7_starts.cls wsX7_starts D (jT cI cJ cZ cO) A) (hr : meth.sig.returnType = none) (hG : jG0 A s) (σ : jRS) (y0 : Int32) (hw : wX7_starts_91 N σ y0 post) : jJ p l e rmX7_starts s m args below meth c 0 0 (MQ below (va_Qv post (jE D (jT cI cJ cZ cO) A (rcells a cI cJ cZ)) A) args s 0 0 A) D A 4 (rcells a cI cJ cZ σ) [] 91 [.int y0, .ref (a 44)] := by
  unfold wX7_starts_91 at hw
  refine j_iconst (pc := 91) (v := 1) C dX7_starts_91 (by decide) ?_
  refine j_goto (pc := 92) C 96 dX7_starts_92 (by decide) ?_
  exact kX7_starts_96 C hr hG _ _ _ hw
def wX7_starts (N : Nat) (σ : jRS) (x1 : Int32) (x2 : Int32) (x3 : Int32) (post : jRS → Prop) : Prop := ((x2 = 0) → (post σ)) ∧ ((¬ x2 = 0) → (((x3 = 0) → (vp_in x1 2 ∧ vp_in x1 2 ∧ (((lg_cmp (100 * ((σ.1 30 x1.toNatClampNeg).toInt64)) (125 * ((σ.1 45 x1.toNatClampNeg).toInt64))) < 0) → (vp_in x1 2 ∧ ∀ v_30 : Int32, v_30 = (σ.1 46 x1.toNatClampNeg) + 1 → vp_in x1 2 ∧ ∀ s_32 : jRS, s_32 = rP σ 46 x1.toNatClampNeg v_30 → vp_in x1 2 ∧ ((¬ (s_32.1 44 x1.toNatClampNeg) = 0) → (wX7_starts_91 N s_32 x1 post)) ∧ (((s_32.1 44 x1.toNatClampNeg) = 0) → (vp_in x1 2 ∧ ((¬ (s_32.1 46 x1.toNatClampNeg) = 3) → (wX7_starts_96 N s_32 0 x1 post)) ∧ (((s_32.1 46 x1.toNatClampNeg) = 3) → (wX7_starts_91 N s_32 x1 post)))))) ∧ ((¬ (lg_cmp (100 * ((σ.1 30 x1.toNatClampNeg).toInt64)) (125 * ((σ.1 45 x1.toNatClampNeg).toInt64))) < 0) → (vp_in x1 2 ∧ ∀ v_38 : Int32, v_38 = σ.1 30 x1.toNatClampNeg → vp_in x1 2 ∧ ∀ s_40 : jRS, s_40 = rP σ 45 x1.toNatClampNeg v_38 → vp_in x1 2 ∧ ∀ s_42 : jRS, s_42 = rP s_40 46 x1.toNatClampNeg 0 → post s_42)))) ∧ ((¬ x3 = 0) → (post σ))))
set_option maxHeartbeats 4000000 in
set_option maxRecDepth 100000 in
theorem mX7_starts {l : Launch} {D : va_G} {cI cJ cZ cO : ClassId} {a : Nat → Nat} {N : Nat} {σ : jRS} {x1 x2 x3 : Int32} {post : jRS → Prop} (hw : wX7_starts N σ x1 x2 x3 post) : jMv l D (jT cI cJ cZ cO) jG0 yX7_starts wsX7_starts rmX7_starts [.ref (a 0), .int x1, .int x2, .int x3] (rcells a cI cJ cZ σ) post (rcells a cI cJ cZ) 0 0 := by
  refine j_ofv (cc := cX7_starts) (maxL := 4) (ret := none) (by decide) rfl (Nat.le_of_ble_eq_true rfl) ?_
  intro p e s m args below meth c A C hr hnm hG
  refine j_sub (lv' := [(0, .ref (a 0)), (1, .int x1), (2, .int x2), (3, .int x3)]) [0, 1, 2, 3] rfl ?_
  unfold wX7_starts at hw
  refine j_iload_n (pc := 0) C dX7_starts_0 2 rfl rfl ?_
  refine j_if_eq (pc := 1) C 8 dX7_starts_1 (by decide) (fun z_24 => ?_) (fun z_24 => ?_)
  · have hw := hw.1 z_24
    exact j_vret (pc := 8) C hr σ rfl hw dX7_starts_8
  · have hw := hw.2 z_24
    refine j_iload_n (pc := 4) C dX7_starts_4 3 rfl rfl ?_
    refine j_if_eq (pc := 5) C 9 dX7_starts_5 (by decide) (fun z_25 => ?_) (fun z_25 => ?_)
    · have hw := hw.1 z_25
      refine j_ldc2 (pc := 9) (v := 100) C dX7_starts_9 (by decide +kernel) ?_
      refine j_aload_n (pc := 12) C dX7_starts_12 0 rfl rfl ?_
      refine j_get (ref := RX7) (pc := 13) C hiX7_starts 0 (r_at0 a cI cJ cZ σ) rfl 30 (by decide) lkX7_starts_75 (r_fl30 a σ) dX7_starts_13 ?_
      refine j_iload_n (pc := 16) C dX7_starts_16 1 rfl rfl ?_
      obtain ⟨h_26, hw⟩ := hw
      refine j_iald (pc := 17) C 18 0 (r_at30 a cI cJ cZ σ) rfl h_26 dX7_starts_17 ?_
      refine j_i2l (pc := 18) C dX7_starts_18 ?_
      refine j_lmul (pc := 19) C dX7_starts_19 ?_
      refine j_ldc2 (pc := 20) (v := 125) C dX7_starts_20 (by decide +kernel) ?_
      refine j_aload_n (pc := 23) C dX7_starts_23 0 rfl rfl ?_
      refine j_get (ref := RX7) (pc := 24) C hiX7_starts 0 (r_at0 a cI cJ cZ σ) rfl 45 (by decide) lkX7_starts_121 (r_fl45 a σ) dX7_starts_24 ?_
      refine j_iload_n (pc := 27) C dX7_starts_27 1 rfl rfl ?_
      obtain ⟨h_27, hw⟩ := hw
      refine j_iald (pc := 28) C 33 0 (r_at45 a cI cJ cZ σ) rfl h_27 dX7_starts_28 ?_
      refine j_i2l (pc := 29) C dX7_starts_29 ?_
      refine j_lmul (pc := 30) C dX7_starts_30 ?_
      refine j_lcmp (pc := 31) C dX7_starts_31 ?_
      refine j_if_lt (pc := 32) C 57 dX7_starts_32 (by decide) (fun z_28 => ?_) (fun z_28 => ?_)
      · have hw := hw.1 z_28
        refine j_aload_n (pc := 57) C dX7_starts_57 0 rfl rfl ?_
        refine j_get (ref := RX7) (pc := 58) C hiX7_starts 0 (r_at0 a cI cJ cZ σ) rfl 46 (by decide) lkX7_starts_124 (r_fl46 a σ) dX7_starts_58 ?_
        refine j_iload_n (pc := 61) C dX7_starts_61 1 rfl rfl ?_
        refine j_dup2 (pc := 62) C dX7_starts_62 rfl rfl ?_
        obtain ⟨h_29, hw⟩ := hw
        refine j_iald (pc := 63) C 34 0 (r_at46 a cI cJ cZ σ) rfl h_29 dX7_starts_63 ?_
        refine j_iconst (pc := 64) (v := 1) C dX7_starts_64 (by decide) ?_
        refine j_iadd (pc := 65) C dX7_starts_65 ?_
        refine j_topi (fun v_30 ev_30 => ?_)
        have hw := hw v_30 ev_30
        obtain ⟨h_31, hw⟩ := hw
        refine j_iast (pc := 66) C 34 0 (r_at46 a cI cJ cZ σ) rfl h_31 dX7_starts_66 (j_ws (r_s46 a cI cJ cZ σ x1.toNatClampNeg v_30) ?_)
        refine j_nmS (F := rcells a cI cJ cZ) (fun s_32 es_32 => ?_)
        have hw := hw s_32 es_32
        refine j_aload_n (pc := 67) C dX7_starts_67 0 rfl rfl ?_
        refine j_get (ref := RX7) (pc := 68) C hiX7_starts 0 (r_at0 a cI cJ cZ s_32) rfl 44 (by decide) lkX7_starts_118 (r_fl44 a s_32) dX7_starts_68 ?_
        refine j_iload_n (pc := 71) C dX7_starts_71 1 rfl rfl ?_
        refine j_aload_n (pc := 72) C dX7_starts_72 0 rfl rfl ?_
        refine j_get (ref := RX7) (pc := 73) C hiX7_starts 0 (r_at0 a cI cJ cZ s_32) rfl 44 (by decide) lkX7_starts_118 (r_fl44 a s_32) dX7_starts_73 ?_
        refine j_iload_n (pc := 76) C dX7_starts_76 1 rfl rfl ?_
        obtain ⟨h_33, hw⟩ := hw
        refine j_zald (pc := 77) C 32 2 (r_at44 a cI cJ cZ s_32) rfl h_33 dX7_starts_77 ?_
        refine j_if_ne (pc := 78) C 91 dX7_starts_78 (by decide) (fun z_34 => ?_) (fun z_34 => ?_)
        · have hw := hw.1 z_34
          refine j_sub [] rfl ?_
          exact kX7_starts_91 C hr hG _ _ hw
        · have hw := hw.2 z_34
          refine j_aload_n (pc := 81) C dX7_starts_81 0 rfl rfl ?_
          refine j_get (ref := RX7) (pc := 82) C hiX7_starts 0 (r_at0 a cI cJ cZ s_32) rfl 46 (by decide) lkX7_starts_124 (r_fl46 a s_32) dX7_starts_82 ?_
          refine j_iload_n (pc := 85) C dX7_starts_85 1 rfl rfl ?_
          obtain ⟨h_35, hw⟩ := hw
          refine j_iald (pc := 86) C 34 0 (r_at46 a cI cJ cZ s_32) rfl h_35 dX7_starts_86 ?_
          refine j_iconst (pc := 87) (v := 3) C dX7_starts_87 (by decide) ?_
          refine j_icmp_ne (pc := 88) C 95 dX7_starts_88 (by decide) (fun z_36 => ?_) (fun z_36 => ?_)
          · have hw := hw.1 z_36
            refine j_iconst (pc := 95) (v := 0) C dX7_starts_95 (by decide) ?_
            refine j_sub [] rfl ?_
            exact kX7_starts_96 C hr hG _ _ _ hw
          · have hw := hw.2 z_36
            refine j_sub [] rfl ?_
            exact kX7_starts_91 C hr hG _ _ hw
      · have hw := hw.2 z_28
        refine j_aload_n (pc := 35) C dX7_starts_35 0 rfl rfl ?_
        refine j_get (ref := RX7) (pc := 36) C hiX7_starts 0 (r_at0 a cI cJ cZ σ) rfl 45 (by decide) lkX7_starts_121 (r_fl45 a σ) dX7_starts_36 ?_
        refine j_iload_n (pc := 39) C dX7_starts_39 1 rfl rfl ?_
        refine j_aload_n (pc := 40) C dX7_starts_40 0 rfl rfl ?_
        refine j_get (ref := RX7) (pc := 41) C hiX7_starts 0 (r_at0 a cI cJ cZ σ) rfl 30 (by decide) lkX7_starts_75 (r_fl30 a σ) dX7_starts_41 ?_
        refine j_iload_n (pc := 44) C dX7_starts_44 1 rfl rfl ?_
        obtain ⟨h_37, hw⟩ := hw
        refine j_iald (pc := 45) C 18 0 (r_at30 a cI cJ cZ σ) rfl h_37 dX7_starts_45 ?_
        refine j_topi (fun v_38 ev_38 => ?_)
        have hw := hw v_38 ev_38
        obtain ⟨h_39, hw⟩ := hw
        refine j_iast (pc := 46) C 33 0 (r_at45 a cI cJ cZ σ) rfl h_39 dX7_starts_46 (j_ws (r_s45 a cI cJ cZ σ x1.toNatClampNeg v_38) ?_)
        refine j_nmS (F := rcells a cI cJ cZ) (fun s_40 es_40 => ?_)
        have hw := hw s_40 es_40
        refine j_aload_n (pc := 47) C dX7_starts_47 0 rfl rfl ?_
        refine j_get (ref := RX7) (pc := 48) C hiX7_starts 0 (r_at0 a cI cJ cZ s_40) rfl 46 (by decide) lkX7_starts_124 (r_fl46 a s_40) dX7_starts_48 ?_
        refine j_iload_n (pc := 51) C dX7_starts_51 1 rfl rfl ?_
        refine j_iconst (pc := 52) (v := 0) C dX7_starts_52 (by decide) ?_
        obtain ⟨h_41, hw⟩ := hw
        refine j_iast (pc := 53) C 34 0 (r_at46 a cI cJ cZ s_40) rfl h_41 dX7_starts_53 (j_ws (r_s46 a cI cJ cZ s_40 x1.toNatClampNeg 0) ?_)
        refine j_nmS (F := rcells a cI cJ cZ) (fun s_42 es_42 => ?_)
        have hw := hw s_42 es_42
        refine j_goto (pc := 54) C 97 dX7_starts_54 (by decide) ?_
        exact j_vret (pc := 97) C hr s_42 rfl hw dX7_starts_97
    · have hw := hw.2 z_25
      exact j_vret (pc := 8) C hr σ rfl hw dX7_starts_8

def rmX7_isPhaseOver : Room := { frames := 1, cells := 0, slots := 0, locals := 21 }
theorem hiX7_isPhaseOver : ∀ w ∈ u_ws RX7 TX7 50, w ∈ wsX7_isPhaseOver := fun w h => List.mem_cons_of_mem _ (List.mem_append_right _ h)
theorem lkX7_isPhaseOver_146 : Cond.fieldLink yX7_isPhaseOver.cls 146 (TX7 0).1 (TX7 0).2.1 (TX7 0).2.2.1 ∈ wsX7_isPhaseOver := by decide +kernel
theorem lkX7_isPhaseOver_109 : Cond.fieldLink yX7_isPhaseOver.cls 109 (TX7 41).1 (TX7 41).2.1 (TX7 41).2.2.1 ∈ wsX7_isPhaseOver := by decide +kernel
theorem lkX7_isPhaseOver_78 : Cond.fieldLink yX7_isPhaseOver.cls 78 (TX7 31).1 (TX7 31).2.1 (TX7 31).2.2.1 ∈ wsX7_isPhaseOver := by decide +kernel
theorem lkX7_isPhaseOver_106 : Cond.fieldLink yX7_isPhaseOver.cls 106 (TX7 40).1 (TX7 40).2.1 (TX7 40).2.2.1 ∈ wsX7_isPhaseOver := by decide +kernel
theorem lkX7_isPhaseOver_32 : Cond.fieldLink yX7_isPhaseOver.cls 32 (TX7 16).1 (TX7 16).2.1 (TX7 16).2.2.1 ∈ wsX7_isPhaseOver := by decide +kernel
theorem lkX7_isPhaseOver_88 : Cond.fieldLink yX7_isPhaseOver.cls 88 (TX7 34).1 (TX7 34).2.1 (TX7 34).2.2.1 ∈ wsX7_isPhaseOver := by decide +kernel
theorem lkX7_isPhaseOver_112 : Cond.fieldLink yX7_isPhaseOver.cls 112 (TX7 42).1 (TX7 42).2.1 (TX7 42).2.2.1 ∈ wsX7_isPhaseOver := by decide +kernel
def wX7_isPhaseOver_78 (N : Nat) (σ : jRS)  (post : Int32 → jRS → Prop) : Prop := post 1 σ
set_option maxHeartbeats 4000000 in
set_option maxRecDepth 100000 in
theorem kX7_isPhaseOver_78 {p : Program} {l : Launch} {e : Env} {s : State} {m : MethodId} {args : Array Value} {below : List Frame} {meth : Method} {c : Code} {D : va_G} {cI cJ cZ cO : ClassId} {a : Nat → Nat} {A : Nat → Prop} {N : Nat} {post : Int32 → jRS → Prop} (C : jC p s m args meth c cX7_isPhaseOver 3 yX7_isPhaseOver.cls wsX7_isPhaseOver D (jT cI cJ cZ cO) A) (hr : meth.sig.returnType = (some .boolean)) (hG : jG0 A s) (σ : jRS)  (hw : wX7_isPhaseOver_78 N σ post) : jJ p l e rmX7_isPhaseOver s m args below meth c 0 0 (MQ below (va_Qi post (jE D (jT cI cJ cZ cO) A (rcells a cI cJ cZ)) A) args s 0 0 A) D A 3 (rcells a cI cJ cZ σ) [] 78 [] := by
  unfold wX7_isPhaseOver_78 at hw
  refine j_iconst (pc := 78) (v := 1) C dX7_isPhaseOver_78 (by decide) ?_
  refine j_goto (pc := 79) C 83 dX7_isPhaseOver_79 (by decide) ?_
  exact j_zret (pc := 83) C hr (by decide) σ rfl hw dX7_isPhaseOver_83
def wX7_isPhaseOver_114 (N : Nat) (σ : jRS)  (post : Int32 → jRS → Prop) : Prop := post 1 σ
set_option maxHeartbeats 4000000 in
set_option maxRecDepth 100000 in
theorem kX7_isPhaseOver_114 {p : Program} {l : Launch} {e : Env} {s : State} {m : MethodId} {args : Array Value} {below : List Frame} {meth : Method} {c : Code} {D : va_G} {cI cJ cZ cO : ClassId} {a : Nat → Nat} {A : Nat → Prop} {N : Nat} {post : Int32 → jRS → Prop} (C : jC p s m args meth c cX7_isPhaseOver 3 yX7_isPhaseOver.cls wsX7_isPhaseOver D (jT cI cJ cZ cO) A) (hr : meth.sig.returnType = (some .boolean)) (hG : jG0 A s) (σ : jRS)  (hw : wX7_isPhaseOver_114 N σ post) : jJ p l e rmX7_isPhaseOver s m args below meth c 0 0 (MQ below (va_Qi post (jE D (jT cI cJ cZ cO) A (rcells a cI cJ cZ)) A) args s 0 0 A) D A 3 (rcells a cI cJ cZ σ) [] 114 [] := by
  unfold wX7_isPhaseOver_114 at hw
  refine j_iconst (pc := 114) (v := 1) C dX7_isPhaseOver_114 (by decide) ?_
  refine j_goto (pc := 115) C 119 dX7_isPhaseOver_115 (by decide) ?_
  exact j_zret (pc := 119) C hr (by decide) σ rfl hw dX7_isPhaseOver_119
def wX7_isPhaseOver_25 (N : Nat) (σ : jRS) (x1 : Int32) (y0 : Int32) (post : Int32 → jRS → Prop) : Prop := vp_in x1 2 ∧ ((¬ (σ.1 40 x1.toNatClampNeg) = 0) → (((¬ y0 = 0) → (wX7_isPhaseOver_114 N σ post)) ∧ ((y0 = 0) → (vp_in x1 2 ∧ ((¬ (σ.1 40 x1.toNatClampNeg) = 1) → (post 0 σ)) ∧ (((σ.1 40 x1.toNatClampNeg) = 1) → (vp_in x1 2 ∧ wX7_product N σ x1 (fun r_27 s_28 => ((0 < (lg_cmp ((σ.1 16 x1.toNatClampNeg).toInt64) r_27)) → (post 0 s_28)) ∧ ((¬ 0 < (lg_cmp ((σ.1 16 x1.toNatClampNeg).toInt64) r_27)) → (wX7_isPhaseOver_114 N s_28 post))))))))) ∧ (((σ.1 40 x1.toNatClampNeg) = 0) → (((y0 = 0) → (post 0 σ)) ∧ ((¬ y0 = 0) → (vp_in x1 2 ∧ wX7_product N σ x1 (fun r_32 s_33 => ((0 ≤ (lg_cmp (4 * ((σ.1 16 x1.toNatClampNeg).toInt64)) (5 * r_32))) → (wX7_isPhaseOver_78 N s_33 post)) ∧ ((¬ 0 ≤ (lg_cmp (4 * ((σ.1 16 x1.toNatClampNeg).toInt64)) (5 * r_32))) → (vp_in x1 2 ∧ vp_in x1 2 ∧ (((s_33.1 34 x1.toNatClampNeg) ≤ (s_33.1 42 x1.toNatClampNeg)) → (post 0 s_33)) ∧ ((¬ (s_33.1 34 x1.toNatClampNeg) ≤ (s_33.1 42 x1.toNatClampNeg)) → (wX7_isPhaseOver_78 N s_33 post)))))))))
set_option maxHeartbeats 4000000 in
set_option maxRecDepth 100000 in
theorem kX7_isPhaseOver_25 {p : Program} {l : Launch} {e : Env} {s : State} {m : MethodId} {args : Array Value} {below : List Frame} {meth : Method} {c : Code} {D : va_G} {cI cJ cZ cO : ClassId} {a : Nat → Nat} {A : Nat → Prop} {N : Nat} {post : Int32 → jRS → Prop} (C : jC p s m args meth c cX7_isPhaseOver 3 yX7_isPhaseOver.cls wsX7_isPhaseOver D (jT cI cJ cZ cO) A) (hr : meth.sig.returnType = (some .boolean)) (hG : jG0 A s) (σ : jRS) (x1 : Int32) (y0 : Int32) (hw : wX7_isPhaseOver_25 N σ x1 y0 post) : jJ p l e rmX7_isPhaseOver s m args below meth c 0 0 (MQ below (va_Qi post (jE D (jT cI cJ cZ cO) A (rcells a cI cJ cZ)) A) args s 0 0 A) D A 3 (rcells a cI cJ cZ σ) [(0, .ref (a 0)), (1, .int x1)] 25 [.int y0] := by
  unfold wX7_isPhaseOver_25 at hw
  refine j_istore_n (pc := 25) (lv' := [(0, .ref (a 0)), (1, .int x1), (2, .int y0)]) C [1, 2, 0] dX7_isPhaseOver_25 rfl (by decide) rfl ?_
  refine j_aload_n (pc := 26) C dX7_isPhaseOver_26 0 rfl rfl ?_
  refine j_get (ref := RX7) (pc := 27) C hiX7_isPhaseOver 0 (r_at0 a cI cJ cZ σ) rfl 40 (by decide) lkX7_isPhaseOver_106 (r_fl40 a σ) dX7_isPhaseOver_27 ?_
  refine j_iload_n (pc := 30) C dX7_isPhaseOver_30 1 rfl rfl ?_
  obtain ⟨h_21, hw⟩ := hw
  refine j_iald (pc := 31) C 28 0 (r_at40 a cI cJ cZ σ) rfl h_21 dX7_isPhaseOver_31 ?_
  refine j_if_ne (pc := 32) C 84 dX7_isPhaseOver_32 (by decide) (fun z_22 => ?_) (fun z_22 => ?_)
  · have hw := hw.1 z_22
    refine j_iload_n (pc := 84) C dX7_isPhaseOver_84 2 rfl rfl ?_
    refine j_if_ne (pc := 85) C 114 dX7_isPhaseOver_85 (by decide) (fun z_23 => ?_) (fun z_23 => ?_)
    · have hw := hw.1 z_23
      refine j_sub [] rfl ?_
      exact kX7_isPhaseOver_114 C hr hG _ hw
    · have hw := hw.2 z_23
      refine j_aload_n (pc := 88) C dX7_isPhaseOver_88 0 rfl rfl ?_
      refine j_get (ref := RX7) (pc := 89) C hiX7_isPhaseOver 0 (r_at0 a cI cJ cZ σ) rfl 40 (by decide) lkX7_isPhaseOver_106 (r_fl40 a σ) dX7_isPhaseOver_89 ?_
      refine j_iload_n (pc := 92) C dX7_isPhaseOver_92 1 rfl rfl ?_
      obtain ⟨h_24, hw⟩ := hw
      refine j_iald (pc := 93) C 28 0 (r_at40 a cI cJ cZ σ) rfl h_24 dX7_isPhaseOver_93 ?_
      refine j_iconst (pc := 94) (v := 1) C dX7_isPhaseOver_94 (by decide) ?_
      refine j_icmp_ne (pc := 95) C 118 dX7_isPhaseOver_95 (by decide) (fun z_25 => ?_) (fun z_25 => ?_)
      · have hw := hw.1 z_25
        refine j_iconst (pc := 118) (v := 0) C dX7_isPhaseOver_118 (by decide) ?_
        exact j_zret (pc := 119) C hr (by decide) σ rfl hw dX7_isPhaseOver_119
      · have hw := hw.2 z_25
        refine j_aload_n (pc := 98) C dX7_isPhaseOver_98 0 rfl rfl ?_
        refine j_get (ref := RX7) (pc := 99) C hiX7_isPhaseOver 0 (r_at0 a cI cJ cZ σ) rfl 16 (by decide) lkX7_isPhaseOver_32 (r_fl16 a σ) dX7_isPhaseOver_99 ?_
        refine j_iload_n (pc := 102) C dX7_isPhaseOver_102 1 rfl rfl ?_
        obtain ⟨h_26, hw⟩ := hw
        refine j_iald (pc := 103) C 4 0 (r_at16 a cI cJ cZ σ) rfl h_26 dX7_isPhaseOver_103 ?_
        refine j_i2l (pc := 104) C dX7_isPhaseOver_104 ?_
        refine j_aload_n (pc := 105) C dX7_isPhaseOver_105 0 rfl rfl ?_
        refine j_iload_n (pc := 106) C dX7_isPhaseOver_106 1 rfl rfl ?_
        refine j_calll0 (pc := 107) C jG0_ok trivial 1 (mX7_product hw) gX7_isPhaseOver_X7_product rfl rfl rfl (by decide +kernel) ⟨by decide, by decide⟩ 0 (r_at0 a cI cJ cZ σ) rfl rfl rfl (Nat.le_of_ble_eq_true rfl) dX7_isPhaseOver_107 ⟨Nat.le_refl _, Nat.le_refl _⟩ (fun r_27 s_28 hw => ?_)
        refine j_lcmp (pc := 110) C dX7_isPhaseOver_110 ?_
        refine j_if_gt (pc := 111) C 118 dX7_isPhaseOver_111 (by decide) (fun z_29 => ?_) (fun z_29 => ?_)
        · have hw := hw.1 z_29
          refine j_iconst (pc := 118) (v := 0) C dX7_isPhaseOver_118 (by decide) ?_
          exact j_zret (pc := 119) C hr (by decide) s_28 rfl hw dX7_isPhaseOver_119
        · have hw := hw.2 z_29
          refine j_sub [] rfl ?_
          exact kX7_isPhaseOver_114 C hr hG _ hw
  · have hw := hw.2 z_22
    refine j_iload_n (pc := 35) C dX7_isPhaseOver_35 2 rfl rfl ?_
    refine j_if_eq (pc := 36) C 82 dX7_isPhaseOver_36 (by decide) (fun z_30 => ?_) (fun z_30 => ?_)
    · have hw := hw.1 z_30
      refine j_iconst (pc := 82) (v := 0) C dX7_isPhaseOver_82 (by decide) ?_
      exact j_zret (pc := 83) C hr (by decide) σ rfl hw dX7_isPhaseOver_83
    · have hw := hw.2 z_30
      refine j_ldc2 (pc := 39) (v := 4) C dX7_isPhaseOver_39 (by decide +kernel) ?_
      refine j_aload_n (pc := 42) C dX7_isPhaseOver_42 0 rfl rfl ?_
      refine j_get (ref := RX7) (pc := 43) C hiX7_isPhaseOver 0 (r_at0 a cI cJ cZ σ) rfl 16 (by decide) lkX7_isPhaseOver_32 (r_fl16 a σ) dX7_isPhaseOver_43 ?_
      refine j_iload_n (pc := 46) C dX7_isPhaseOver_46 1 rfl rfl ?_
      obtain ⟨h_31, hw⟩ := hw
      refine j_iald (pc := 47) C 4 0 (r_at16 a cI cJ cZ σ) rfl h_31 dX7_isPhaseOver_47 ?_
      refine j_i2l (pc := 48) C dX7_isPhaseOver_48 ?_
      refine j_lmul (pc := 49) C dX7_isPhaseOver_49 ?_
      refine j_ldc2 (pc := 50) (v := 5) C dX7_isPhaseOver_50 (by decide +kernel) ?_
      refine j_aload_n (pc := 53) C dX7_isPhaseOver_53 0 rfl rfl ?_
      refine j_iload_n (pc := 54) C dX7_isPhaseOver_54 1 rfl rfl ?_
      refine j_calll0 (pc := 55) C jG0_ok trivial 1 (mX7_product hw) gX7_isPhaseOver_X7_product rfl rfl rfl (by decide +kernel) ⟨by decide, by decide⟩ 0 (r_at0 a cI cJ cZ σ) rfl rfl rfl (Nat.le_of_ble_eq_true rfl) dX7_isPhaseOver_55 ⟨Nat.le_refl _, Nat.le_refl _⟩ (fun r_32 s_33 hw => ?_)
      refine j_lmul (pc := 58) C dX7_isPhaseOver_58 ?_
      refine j_lcmp (pc := 59) C dX7_isPhaseOver_59 ?_
      refine j_if_ge (pc := 60) C 78 dX7_isPhaseOver_60 (by decide) (fun z_34 => ?_) (fun z_34 => ?_)
      · have hw := hw.1 z_34
        refine j_sub [] rfl ?_
        exact kX7_isPhaseOver_78 C hr hG _ hw
      · have hw := hw.2 z_34
        refine j_aload_n (pc := 63) C dX7_isPhaseOver_63 0 rfl rfl ?_
        refine j_get (ref := RX7) (pc := 64) C hiX7_isPhaseOver 0 (r_at0 a cI cJ cZ s_33) rfl 34 (by decide) lkX7_isPhaseOver_88 (r_fl34 a s_33) dX7_isPhaseOver_64 ?_
        refine j_iload_n (pc := 67) C dX7_isPhaseOver_67 1 rfl rfl ?_
        obtain ⟨h_35, hw⟩ := hw
        refine j_iald (pc := 68) C 22 0 (r_at34 a cI cJ cZ s_33) rfl h_35 dX7_isPhaseOver_68 ?_
        refine j_aload_n (pc := 69) C dX7_isPhaseOver_69 0 rfl rfl ?_
        refine j_get (ref := RX7) (pc := 70) C hiX7_isPhaseOver 0 (r_at0 a cI cJ cZ s_33) rfl 42 (by decide) lkX7_isPhaseOver_112 (r_fl42 a s_33) dX7_isPhaseOver_70 ?_
        refine j_iload_n (pc := 73) C dX7_isPhaseOver_73 1 rfl rfl ?_
        obtain ⟨h_36, hw⟩ := hw
        refine j_iald (pc := 74) C 30 0 (r_at42 a cI cJ cZ s_33) rfl h_36 dX7_isPhaseOver_74 ?_
        refine j_icmp_le (pc := 75) C 82 dX7_isPhaseOver_75 (by decide) (fun z_37 => ?_) (fun z_37 => ?_)
        · have hw := hw.1 z_37
          refine j_iconst (pc := 82) (v := 0) C dX7_isPhaseOver_82 (by decide) ?_
          exact j_zret (pc := 83) C hr (by decide) s_33 rfl hw dX7_isPhaseOver_83
        · have hw := hw.2 z_37
          refine j_sub [] rfl ?_
          exact kX7_isPhaseOver_78 C hr hG _ hw
def wX7_isPhaseOver (N : Nat) (σ : jRS) (x1 : Int32) (post : Int32 → jRS → Prop) : Prop := vp_in x1 2 ∧ vp_in x1 2 ∧ ((((σ.1 0 0) - (σ.1 41 x1.toNatClampNeg)) < (σ.1 31 x1.toNatClampNeg)) → (wX7_isPhaseOver_25 N σ x1 0 post)) ∧ ((¬ ((σ.1 0 0) - (σ.1 41 x1.toNatClampNeg)) < (σ.1 31 x1.toNatClampNeg)) → (wX7_isPhaseOver_25 N σ x1 1 post))
set_option maxHeartbeats 4000000 in
set_option maxRecDepth 100000 in
theorem mX7_isPhaseOver {l : Launch} {D : va_G} {cI cJ cZ cO : ClassId} {a : Nat → Nat} {N : Nat} {σ : jRS} {x1 : Int32} {post : Int32 → jRS → Prop} (hw : wX7_isPhaseOver N σ x1 post) : jMi l D (jT cI cJ cZ cO) jG0 yX7_isPhaseOver wsX7_isPhaseOver rmX7_isPhaseOver [.ref (a 0), .int x1] (rcells a cI cJ cZ σ) post (rcells a cI cJ cZ) 0 0 := by
  refine j_ofi (cc := cX7_isPhaseOver) (maxL := 3) (ret := (some .boolean)) (by decide) rfl (Nat.le_of_ble_eq_true rfl) ?_
  intro p e s m args below meth c A C hr hnm hG
  refine j_sub (lv' := [(0, .ref (a 0)), (1, .int x1)]) [0, 1] rfl ?_
  unfold wX7_isPhaseOver at hw
  refine j_aload_n (pc := 0) C dX7_isPhaseOver_0 0 rfl rfl ?_
  refine j_get (ref := RX7) (pc := 1) C hiX7_isPhaseOver 0 (r_at0 a cI cJ cZ σ) rfl 0 (by decide) lkX7_isPhaseOver_146 (r_fl0 a σ) dX7_isPhaseOver_1 ?_
  refine j_aload_n (pc := 4) C dX7_isPhaseOver_4 0 rfl rfl ?_
  refine j_get (ref := RX7) (pc := 5) C hiX7_isPhaseOver 0 (r_at0 a cI cJ cZ σ) rfl 41 (by decide) lkX7_isPhaseOver_109 (r_fl41 a σ) dX7_isPhaseOver_5 ?_
  refine j_iload_n (pc := 8) C dX7_isPhaseOver_8 1 rfl rfl ?_
  obtain ⟨h_38, hw⟩ := hw
  refine j_iald (pc := 9) C 29 0 (r_at41 a cI cJ cZ σ) rfl h_38 dX7_isPhaseOver_9 ?_
  refine j_isub (pc := 10) C dX7_isPhaseOver_10 ?_
  refine j_aload_n (pc := 11) C dX7_isPhaseOver_11 0 rfl rfl ?_
  refine j_get (ref := RX7) (pc := 12) C hiX7_isPhaseOver 0 (r_at0 a cI cJ cZ σ) rfl 31 (by decide) lkX7_isPhaseOver_78 (r_fl31 a σ) dX7_isPhaseOver_12 ?_
  refine j_iload_n (pc := 15) C dX7_isPhaseOver_15 1 rfl rfl ?_
  obtain ⟨h_39, hw⟩ := hw
  refine j_iald (pc := 16) C 19 0 (r_at31 a cI cJ cZ σ) rfl h_39 dX7_isPhaseOver_16 ?_
  refine j_icmp_lt (pc := 17) C 24 dX7_isPhaseOver_17 (by decide) (fun z_40 => ?_) (fun z_40 => ?_)
  · have hw := hw.1 z_40
    refine j_iconst (pc := 24) (v := 0) C dX7_isPhaseOver_24 (by decide) ?_
    exact kX7_isPhaseOver_25 C hr hG _ _ _ hw
  · have hw := hw.2 z_40
    refine j_iconst (pc := 20) (v := 1) C dX7_isPhaseOver_20 (by decide) ?_
    refine j_goto (pc := 21) C 25 dX7_isPhaseOver_21 (by decide) ?_
    exact kX7_isPhaseOver_25 C hr hG _ _ _ hw

def rmX7_probes : Room := { frames := 1, cells := 0, slots := 0, locals := 23 }
theorem hiX7_probes : ∀ w ∈ u_ws RX7 TX7 50, w ∈ wsX7_probes := fun w h => List.mem_cons_of_mem _ (List.mem_append_right _ h)
theorem lkX7_probes_115 : Cond.fieldLink yX7_probes.cls 115 (TX7 43).1 (TX7 43).2.1 (TX7 43).2.2.1 ∈ wsX7_probes := by decide +kernel
theorem lkX7_probes_146 : Cond.fieldLink yX7_probes.cls 146 (TX7 0).1 (TX7 0).2.1 (TX7 0).2.2.1 ∈ wsX7_probes := by decide +kernel
theorem lkX7_probes_81 : Cond.fieldLink yX7_probes.cls 81 (TX7 32).1 (TX7 32).2.1 (TX7 32).2.2.1 ∈ wsX7_probes := by decide +kernel
theorem lkX7_probes_118 : Cond.fieldLink yX7_probes.cls 118 (TX7 44).1 (TX7 44).2.1 (TX7 44).2.2.1 ∈ wsX7_probes := by decide +kernel
theorem lkX7_probes_32 : Cond.fieldLink yX7_probes.cls 32 (TX7 16).1 (TX7 16).2.1 (TX7 16).2.2.1 ∈ wsX7_probes := by decide +kernel
def wX7_probes_39 (N : Nat) (σ : jRS) (y0 : Int32) (y1 : Int32) (post : jRS → Prop) : Prop := vp_in y1 2 ∧ ∀ s_23 : jRS, s_23 = rP σ 43 y1.toNatClampNeg y0 → post s_23
set_option maxHeartbeats 4000000 in
set_option maxRecDepth 100000 in
theorem kX7_probes_39 {p : Program} {l : Launch} {e : Env} {s : State} {m : MethodId} {args : Array Value} {below : List Frame} {meth : Method} {c : Code} {D : va_G} {cI cJ cZ cO : ClassId} {a : Nat → Nat} {A : Nat → Prop} {N : Nat} {post : jRS → Prop} (C : jC p s m args meth c cX7_probes 2 yX7_probes.cls wsX7_probes D (jT cI cJ cZ cO) A) (hr : meth.sig.returnType = none) (hG : jG0 A s) (σ : jRS) (y0 : Int32) (y1 : Int32) (hw : wX7_probes_39 N σ y0 y1 post) : jJ p l e rmX7_probes s m args below meth c 0 0 (MQ below (va_Qv post (jE D (jT cI cJ cZ cO) A (rcells a cI cJ cZ)) A) args s 0 0 A) D A 2 (rcells a cI cJ cZ σ) [] 39 [.int y0, .int y1, .ref (a 43)] := by
  unfold wX7_probes_39 at hw
  obtain ⟨h_22, hw⟩ := hw
  refine j_iast (pc := 39) C 31 0 (r_at43 a cI cJ cZ σ) rfl h_22 dX7_probes_39 (j_ws (r_s43 a cI cJ cZ σ y1.toNatClampNeg y0) ?_)
  refine j_nmS (F := rcells a cI cJ cZ) (fun s_23 es_23 => ?_)
  have hw := hw s_23 es_23
  refine j_goto (pc := 40) C 104 dX7_probes_40 (by decide) ?_
  exact j_vret (pc := 104) C hr s_23 rfl hw dX7_probes_104
def wX7_probes (N : Nat) (σ : jRS) (x1 : Int32) (post : jRS → Prop) : Prop := vp_in x1 2 ∧ ((¬ (σ.1 43 x1.toNatClampNeg) = ((-9))) → (vp_in x1 2 ∧ (((σ.1 0 0) < (σ.1 43 x1.toNatClampNeg)) → (post σ)) ∧ ((¬ (σ.1 0 0) < (σ.1 43 x1.toNatClampNeg)) → (∀ v_28 : Int32, v_28 = σ.1 0 0 → vp_in x1 2 ∧ ∀ s_30 : jRS, s_30 = rP σ 32 x1.toNatClampNeg v_28 → vp_in x1 2 ∧ ∀ s_32 : jRS, s_32 = rP s_30 43 x1.toNatClampNeg (-9) → vp_in x1 2 ∧ (((s_32.1 44 x1.toNatClampNeg) = 0) → (wX7_comesTo N s_32 x1 0 (fun s_36 => post s_36))) ∧ ((¬ (s_32.1 44 x1.toNatClampNeg) = 0) → (wX7_comesTo N s_32 x1 2 (fun s_38 => wX7_comesToPhase N s_38 x1 2 (fun s_40 => post s_40)))))))) ∧ (((σ.1 43 x1.toNatClampNeg) = ((-9))) → (vp_in x1 2 ∧ ((4 < (σ.1 16 x1.toNatClampNeg)) → (wX7_probes_39 N σ ((-9)) x1 post)) ∧ ((¬ 4 < (σ.1 16 x1.toNatClampNeg)) → (wX7_probes_39 N σ ((σ.1 0 0) + 200) x1 post))))
set_option maxHeartbeats 4000000 in
set_option maxRecDepth 100000 in
theorem mX7_probes {l : Launch} {D : va_G} {cI cJ cZ cO : ClassId} {a : Nat → Nat} {N : Nat} {σ : jRS} {x1 : Int32} {post : jRS → Prop} (hw : wX7_probes N σ x1 post) : jMv l D (jT cI cJ cZ cO) jG0 yX7_probes wsX7_probes rmX7_probes [.ref (a 0), .int x1] (rcells a cI cJ cZ σ) post (rcells a cI cJ cZ) 0 0 := by
  refine j_ofv (cc := cX7_probes) (maxL := 2) (ret := none) (by decide) rfl (Nat.le_of_ble_eq_true rfl) ?_
  intro p e s m args below meth c A C hr hnm hG
  refine j_sub (lv' := [(0, .ref (a 0)), (1, .int x1)]) [0, 1] rfl ?_
  unfold wX7_probes at hw
  refine j_aload_n (pc := 0) C dX7_probes_0 0 rfl rfl ?_
  refine j_get (ref := RX7) (pc := 1) C hiX7_probes 0 (r_at0 a cI cJ cZ σ) rfl 43 (by decide) lkX7_probes_115 (r_fl43 a σ) dX7_probes_1 ?_
  refine j_iload_n (pc := 4) C dX7_probes_4 1 rfl rfl ?_
  obtain ⟨h_24, hw⟩ := hw
  refine j_iald (pc := 5) C 31 0 (r_at43 a cI cJ cZ σ) rfl h_24 dX7_probes_5 ?_
  refine j_bipush (pc := 6) (v := (-9)) C dX7_probes_6 (by decide) ?_
  refine j_icmp_ne (pc := 8) C 43 dX7_probes_8 (by decide) (fun z_25 => ?_) (fun z_25 => ?_)
  · have hw := hw.1 z_25
    refine j_aload_n (pc := 43) C dX7_probes_43 0 rfl rfl ?_
    refine j_get (ref := RX7) (pc := 44) C hiX7_probes 0 (r_at0 a cI cJ cZ σ) rfl 0 (by decide) lkX7_probes_146 (r_fl0 a σ) dX7_probes_44 ?_
    refine j_aload_n (pc := 47) C dX7_probes_47 0 rfl rfl ?_
    refine j_get (ref := RX7) (pc := 48) C hiX7_probes 0 (r_at0 a cI cJ cZ σ) rfl 43 (by decide) lkX7_probes_115 (r_fl43 a σ) dX7_probes_48 ?_
    refine j_iload_n (pc := 51) C dX7_probes_51 1 rfl rfl ?_
    obtain ⟨h_26, hw⟩ := hw
    refine j_iald (pc := 52) C 31 0 (r_at43 a cI cJ cZ σ) rfl h_26 dX7_probes_52 ?_
    refine j_icmp_lt (pc := 53) C 104 dX7_probes_53 (by decide) (fun z_27 => ?_) (fun z_27 => ?_)
    · have hw := hw.1 z_27
      exact j_vret (pc := 104) C hr σ rfl hw dX7_probes_104
    · have hw := hw.2 z_27
      refine j_aload_n (pc := 56) C dX7_probes_56 0 rfl rfl ?_
      refine j_get (ref := RX7) (pc := 57) C hiX7_probes 0 (r_at0 a cI cJ cZ σ) rfl 32 (by decide) lkX7_probes_81 (r_fl32 a σ) dX7_probes_57 ?_
      refine j_iload_n (pc := 60) C dX7_probes_60 1 rfl rfl ?_
      refine j_aload_n (pc := 61) C dX7_probes_61 0 rfl rfl ?_
      refine j_get (ref := RX7) (pc := 62) C hiX7_probes 0 (r_at0 a cI cJ cZ σ) rfl 0 (by decide) lkX7_probes_146 (r_fl0 a σ) dX7_probes_62 ?_
      refine j_topi (fun v_28 ev_28 => ?_)
      have hw := hw v_28 ev_28
      obtain ⟨h_29, hw⟩ := hw
      refine j_iast (pc := 65) C 20 0 (r_at32 a cI cJ cZ σ) rfl h_29 dX7_probes_65 (j_ws (r_s32 a cI cJ cZ σ x1.toNatClampNeg v_28) ?_)
      refine j_nmS (F := rcells a cI cJ cZ) (fun s_30 es_30 => ?_)
      have hw := hw s_30 es_30
      refine j_aload_n (pc := 66) C dX7_probes_66 0 rfl rfl ?_
      refine j_get (ref := RX7) (pc := 67) C hiX7_probes 0 (r_at0 a cI cJ cZ s_30) rfl 43 (by decide) lkX7_probes_115 (r_fl43 a s_30) dX7_probes_67 ?_
      refine j_iload_n (pc := 70) C dX7_probes_70 1 rfl rfl ?_
      refine j_bipush (pc := 71) (v := (-9)) C dX7_probes_71 (by decide) ?_
      obtain ⟨h_31, hw⟩ := hw
      refine j_iast (pc := 73) C 31 0 (r_at43 a cI cJ cZ s_30) rfl h_31 dX7_probes_73 (j_ws (r_s43 a cI cJ cZ s_30 x1.toNatClampNeg (-9)) ?_)
      refine j_nmS (F := rcells a cI cJ cZ) (fun s_32 es_32 => ?_)
      have hw := hw s_32 es_32
      refine j_aload_n (pc := 74) C dX7_probes_74 0 rfl rfl ?_
      refine j_get (ref := RX7) (pc := 75) C hiX7_probes 0 (r_at0 a cI cJ cZ s_32) rfl 44 (by decide) lkX7_probes_118 (r_fl44 a s_32) dX7_probes_75 ?_
      refine j_iload_n (pc := 78) C dX7_probes_78 1 rfl rfl ?_
      obtain ⟨h_33, hw⟩ := hw
      refine j_zald (pc := 79) C 32 2 (r_at44 a cI cJ cZ s_32) rfl h_33 dX7_probes_79 ?_
      refine j_if_eq (pc := 80) C 98 dX7_probes_80 (by decide) (fun z_34 => ?_) (fun z_34 => ?_)
      · have hw := hw.1 z_34
        refine j_aload_n (pc := 98) C dX7_probes_98 0 rfl rfl ?_
        refine j_iload_n (pc := 99) C dX7_probes_99 1 rfl rfl ?_
        refine j_iconst (pc := 100) (v := 0) C dX7_probes_100 (by decide) ?_
        refine j_callv0 (pc := 101) C jG0_ok trivial 2 (mX7_comesTo hw) gX7_probes_X7_comesTo rfl rfl rfl (by decide +kernel) ⟨by decide, by decide⟩ 0 (r_at0 a cI cJ cZ s_32) rfl rfl rfl (Nat.le_of_ble_eq_true rfl) dX7_probes_101 ⟨Nat.le_refl _, Nat.le_refl _⟩ (fun s_36 hw => ?_)
        exact j_vret (pc := 104) C hr s_36 rfl hw dX7_probes_104
      · have hw := hw.2 z_34
        refine j_aload_n (pc := 83) C dX7_probes_83 0 rfl rfl ?_
        refine j_iload_n (pc := 84) C dX7_probes_84 1 rfl rfl ?_
        refine j_iconst (pc := 85) (v := 2) C dX7_probes_85 (by decide) ?_
        refine j_callv0 (pc := 86) C jG0_ok trivial 2 (mX7_comesTo hw) gX7_probes_X7_comesTo rfl rfl rfl (by decide +kernel) ⟨by decide, by decide⟩ 0 (r_at0 a cI cJ cZ s_32) rfl rfl rfl (Nat.le_of_ble_eq_true rfl) dX7_probes_86 ⟨Nat.le_refl _, Nat.le_refl _⟩ (fun s_38 hw => ?_)
        refine j_aload_n (pc := 89) C dX7_probes_89 0 rfl rfl ?_
        refine j_iload_n (pc := 90) C dX7_probes_90 1 rfl rfl ?_
        refine j_iconst (pc := 91) (v := 2) C dX7_probes_91 (by decide) ?_
        refine j_callv0 (pc := 92) C jG0_ok trivial 2 (mX7_comesToPhase hw) gX7_probes_X7_comesToPhase rfl rfl rfl (by decide +kernel) ⟨by decide, by decide⟩ 0 (r_at0 a cI cJ cZ s_38) rfl rfl rfl (Nat.le_of_ble_eq_true rfl) dX7_probes_92 ⟨Nat.le_refl _, Nat.le_refl _⟩ (fun s_40 hw => ?_)
        refine j_goto (pc := 95) C 104 dX7_probes_95 (by decide) ?_
        exact j_vret (pc := 104) C hr s_40 rfl hw dX7_probes_104
  · have hw := hw.2 z_25
    refine j_aload_n (pc := 11) C dX7_probes_11 0 rfl rfl ?_
    refine j_get (ref := RX7) (pc := 12) C hiX7_probes 0 (r_at0 a cI cJ cZ σ) rfl 43 (by decide) lkX7_probes_115 (r_fl43 a σ) dX7_probes_12 ?_
    refine j_iload_n (pc := 15) C dX7_probes_15 1 rfl rfl ?_
    refine j_aload_n (pc := 16) C dX7_probes_16 0 rfl rfl ?_
    refine j_get (ref := RX7) (pc := 17) C hiX7_probes 0 (r_at0 a cI cJ cZ σ) rfl 16 (by decide) lkX7_probes_32 (r_fl16 a σ) dX7_probes_17 ?_
    refine j_iload_n (pc := 20) C dX7_probes_20 1 rfl rfl ?_
    obtain ⟨h_41, hw⟩ := hw
    refine j_iald (pc := 21) C 4 0 (r_at16 a cI cJ cZ σ) rfl h_41 dX7_probes_21 ?_
    refine j_iconst (pc := 22) (v := 4) C dX7_probes_22 (by decide) ?_
    refine j_icmp_gt (pc := 23) C 37 dX7_probes_23 (by decide) (fun z_42 => ?_) (fun z_42 => ?_)
    · have hw := hw.1 z_42
      refine j_bipush (pc := 37) (v := (-9)) C dX7_probes_37 (by decide) ?_
      refine j_sub [] rfl ?_
      exact kX7_probes_39 C hr hG _ _ _ hw
    · have hw := hw.2 z_42
      refine j_aload_n (pc := 26) C dX7_probes_26 0 rfl rfl ?_
      refine j_get (ref := RX7) (pc := 27) C hiX7_probes 0 (r_at0 a cI cJ cZ σ) rfl 0 (by decide) lkX7_probes_146 (r_fl0 a σ) dX7_probes_27 ?_
      refine j_sipush (pc := 30) (v := 200) C dX7_probes_30 (by decide) ?_
      refine j_iadd (pc := 33) C dX7_probes_33 ?_
      refine j_goto (pc := 34) C 39 dX7_probes_34 (by decide) ?_
      refine j_sub [] rfl ?_
      exact kX7_probes_39 C hr hG _ _ _ hw

def rmX7_changesState : Room := { frames := 2, cells := 0, slots := 0, locals := 44 }
theorem hiX7_changesState : ∀ w ∈ u_ws RX7 TX7 50, w ∈ wsX7_changesState := fun w h => List.mem_cons_of_mem _ (List.mem_append_right _ h)
theorem lkX7_changesState_103 : Cond.fieldLink yX7_changesState.cls 103 (TX7 39).1 (TX7 39).2.1 (TX7 39).2.2.1 ∈ wsX7_changesState := by decide +kernel
theorem lkX7_changesState_118 : Cond.fieldLink yX7_changesState.cls 118 (TX7 44).1 (TX7 44).2.1 (TX7 44).2.2.1 ∈ wsX7_changesState := by decide +kernel
theorem lkX7_changesState_32 : Cond.fieldLink yX7_changesState.cls 32 (TX7 16).1 (TX7 16).2.1 (TX7 16).2.2.1 ∈ wsX7_changesState := by decide +kernel
theorem lkX7_changesState_106 : Cond.fieldLink yX7_changesState.cls 106 (TX7 40).1 (TX7 40).2.1 (TX7 40).2.2.1 ∈ wsX7_changesState := by decide +kernel
theorem lkX7_changesState_115 : Cond.fieldLink yX7_changesState.cls 115 (TX7 43).1 (TX7 43).2.1 (TX7 43).2.2.1 ∈ wsX7_changesState := by decide +kernel
def wX7_changesState_112 (N : Nat) (σ : jRS) (x1 : Int32) (x4 : Int32) (post : jRS → Prop) : Prop := vp_in x1 2 ∧ ((¬ (σ.1 39 x1.toNatClampNeg) = 3) → (((x4 = 0) → (post σ)) ∧ ((¬ x4 = 0) → (wX7_comesTo N σ x1 3 (fun s_42 => vp_in x1 2 ∧ ∀ s_44 : jRS, s_44 = rP s_42 43 x1.toNatClampNeg (-9) → post s_44))))) ∧ (((σ.1 39 x1.toNatClampNeg) = 3) → (wX7_probes N σ x1 (fun s_46 => post s_46)))
set_option maxHeartbeats 4000000 in
set_option maxRecDepth 100000 in
theorem kX7_changesState_112 {p : Program} {l : Launch} {e : Env} {s : State} {m : MethodId} {args : Array Value} {below : List Frame} {meth : Method} {c : Code} {D : va_G} {cI cJ cZ cO : ClassId} {a : Nat → Nat} {A : Nat → Prop} {N : Nat} {post : jRS → Prop} (C : jC p s m args meth c cX7_changesState 5 yX7_changesState.cls wsX7_changesState D (jT cI cJ cZ cO) A) (hr : meth.sig.returnType = none) (hG : jG0 A s) (σ : jRS) (x1 : Int32) (x4 : Int32) (hw : wX7_changesState_112 N σ x1 x4 post) : jJ p l e rmX7_changesState s m args below meth c 0 0 (MQ below (va_Qv post (jE D (jT cI cJ cZ cO) A (rcells a cI cJ cZ)) A) args s 0 0 A) D A 5 (rcells a cI cJ cZ σ) [(0, .ref (a 0)), (1, .int x1), (4, .int x4)] 112 [] := by
  unfold wX7_changesState_112 at hw
  refine j_aload_n (pc := 112) C dX7_changesState_112 0 rfl rfl ?_
  refine j_get (ref := RX7) (pc := 113) C hiX7_changesState 0 (r_at0 a cI cJ cZ σ) rfl 39 (by decide) lkX7_changesState_103 (r_fl39 a σ) dX7_changesState_113 ?_
  refine j_iload_n (pc := 116) C dX7_changesState_116 1 rfl rfl ?_
  obtain ⟨h_38, hw⟩ := hw
  refine j_iald (pc := 117) C 27 0 (r_at39 a cI cJ cZ σ) rfl h_38 dX7_changesState_117 ?_
  refine j_iconst (pc := 118) (v := 3) C dX7_changesState_118 (by decide) ?_
  refine j_icmp_ne (pc := 119) C 130 dX7_changesState_119 (by decide) (fun z_39 => ?_) (fun z_39 => ?_)
  · have hw := hw.1 z_39
    refine j_iload (pc := 130) C dX7_changesState_130 2 rfl ?_
    refine j_if_eq (pc := 132) C 149 dX7_changesState_132 (by decide) (fun z_40 => ?_) (fun z_40 => ?_)
    · have hw := hw.1 z_40
      exact j_vret (pc := 149) C hr σ rfl hw dX7_changesState_149
    · have hw := hw.2 z_40
      refine j_aload_n (pc := 135) C dX7_changesState_135 0 rfl rfl ?_
      refine j_iload_n (pc := 136) C dX7_changesState_136 1 rfl rfl ?_
      refine j_iconst (pc := 137) (v := 3) C dX7_changesState_137 (by decide) ?_
      refine j_callv0 (pc := 138) C jG0_ok trivial 2 (mX7_comesTo hw) gX7_changesState_X7_comesTo rfl rfl rfl (by decide +kernel) ⟨by decide, by decide⟩ 0 (r_at0 a cI cJ cZ σ) rfl rfl rfl (Nat.le_of_ble_eq_true rfl) dX7_changesState_138 ⟨Nat.le_refl _, Nat.le_refl _⟩ (fun s_42 hw => ?_)
      refine j_aload_n (pc := 141) C dX7_changesState_141 0 rfl rfl ?_
      refine j_get (ref := RX7) (pc := 142) C hiX7_changesState 0 (r_at0 a cI cJ cZ s_42) rfl 43 (by decide) lkX7_changesState_115 (r_fl43 a s_42) dX7_changesState_142 ?_
      refine j_iload_n (pc := 145) C dX7_changesState_145 1 rfl rfl ?_
      refine j_bipush (pc := 146) (v := (-9)) C dX7_changesState_146 (by decide) ?_
      obtain ⟨h_43, hw⟩ := hw
      refine j_iast (pc := 148) C 31 0 (r_at43 a cI cJ cZ s_42) rfl h_43 dX7_changesState_148 (j_ws (r_s43 a cI cJ cZ s_42 x1.toNatClampNeg (-9)) ?_)
      refine j_nmS (F := rcells a cI cJ cZ) (fun s_44 es_44 => ?_)
      have hw := hw s_44 es_44
      exact j_vret (pc := 149) C hr s_44 rfl hw dX7_changesState_149
  · have hw := hw.2 z_39
    refine j_aload_n (pc := 122) C dX7_changesState_122 0 rfl rfl ?_
    refine j_iload_n (pc := 123) C dX7_changesState_123 1 rfl rfl ?_
    refine j_callv0 (pc := 124) C jG0_ok trivial 1 (mX7_probes hw) gX7_changesState_X7_probes rfl rfl rfl (by decide +kernel) ⟨by decide, by decide⟩ 0 (r_at0 a cI cJ cZ σ) rfl rfl rfl (Nat.le_of_ble_eq_true rfl) dX7_changesState_124 ⟨Nat.le_refl _, Nat.le_refl _⟩ (fun s_46 hw => ?_)
    refine j_goto (pc := 127) C 149 dX7_changesState_127 (by decide) ?_
    exact j_vret (pc := 149) C hr s_46 rfl hw dX7_changesState_149
def wX7_changesState_78 (N : Nat) (σ : jRS) (x1 : Int32) (x4 : Int32) (post : jRS → Prop) : Prop := vp_in x1 2 ∧ ((¬ (σ.1 39 x1.toNatClampNeg) = 2) → (wX7_changesState_112 N σ x1 x4 post)) ∧ (((σ.1 39 x1.toNatClampNeg) = 2) → (wX7_isPhaseOver N σ x1 (fun r_49 s_50 => ((r_49 = 0) → (wX7_changesState_112 N s_50 x1 x4 post)) ∧ ((¬ r_49 = 0) → (vp_in x1 2 ∧ wX7_comesToPhase N s_50 x1 (((s_50.1 40 x1.toNatClampNeg) + 1) - ((s_50.1 40 x1.toNatClampNeg) + 1) / 8 * 8) (fun s_54 => wX7_changesState_112 N s_54 x1 x4 post))))))
set_option maxHeartbeats 4000000 in
set_option maxRecDepth 100000 in
theorem kX7_changesState_78 {p : Program} {l : Launch} {e : Env} {s : State} {m : MethodId} {args : Array Value} {below : List Frame} {meth : Method} {c : Code} {D : va_G} {cI cJ cZ cO : ClassId} {a : Nat → Nat} {A : Nat → Prop} {N : Nat} {post : jRS → Prop} (C : jC p s m args meth c cX7_changesState 5 yX7_changesState.cls wsX7_changesState D (jT cI cJ cZ cO) A) (hr : meth.sig.returnType = none) (hG : jG0 A s) (σ : jRS) (x1 : Int32) (x4 : Int32) (hw : wX7_changesState_78 N σ x1 x4 post) : jJ p l e rmX7_changesState s m args below meth c 0 0 (MQ below (va_Qv post (jE D (jT cI cJ cZ cO) A (rcells a cI cJ cZ)) A) args s 0 0 A) D A 5 (rcells a cI cJ cZ σ) [(0, .ref (a 0)), (1, .int x1), (4, .int x4)] 78 [] := by
  unfold wX7_changesState_78 at hw
  refine j_aload_n (pc := 78) C dX7_changesState_78 0 rfl rfl ?_
  refine j_get (ref := RX7) (pc := 79) C hiX7_changesState 0 (r_at0 a cI cJ cZ σ) rfl 39 (by decide) lkX7_changesState_103 (r_fl39 a σ) dX7_changesState_79 ?_
  refine j_iload_n (pc := 82) C dX7_changesState_82 1 rfl rfl ?_
  obtain ⟨h_47, hw⟩ := hw
  refine j_iald (pc := 83) C 27 0 (r_at39 a cI cJ cZ σ) rfl h_47 dX7_changesState_83 ?_
  refine j_iconst (pc := 84) (v := 2) C dX7_changesState_84 (by decide) ?_
  refine j_icmp_ne (pc := 85) C 112 dX7_changesState_85 (by decide) (fun z_48 => ?_) (fun z_48 => ?_)
  · have hw := hw.1 z_48
    exact kX7_changesState_112 C hr hG _ _ _ hw
  · have hw := hw.2 z_48
    refine j_aload_n (pc := 88) C dX7_changesState_88 0 rfl rfl ?_
    refine j_iload_n (pc := 89) C dX7_changesState_89 1 rfl rfl ?_
    refine j_calli0 (pc := 90) C jG0_ok trivial 1 (mX7_isPhaseOver hw) gX7_changesState_X7_isPhaseOver rfl rfl rfl (by decide +kernel) ⟨by decide, by decide⟩ 0 (r_at0 a cI cJ cZ σ) rfl rfl rfl (Nat.le_of_ble_eq_true rfl) dX7_changesState_90 ⟨Nat.le_refl _, Nat.le_refl _⟩ (fun r_49 s_50 hw => ?_)
    refine j_if_eq (pc := 93) C 112 dX7_changesState_93 (by decide) (fun z_51 => ?_) (fun z_51 => ?_)
    · have hw := hw.1 z_51
      exact kX7_changesState_112 C hr hG _ _ _ hw
    · have hw := hw.2 z_51
      refine j_aload_n (pc := 96) C dX7_changesState_96 0 rfl rfl ?_
      refine j_iload_n (pc := 97) C dX7_changesState_97 1 rfl rfl ?_
      refine j_aload_n (pc := 98) C dX7_changesState_98 0 rfl rfl ?_
      refine j_get (ref := RX7) (pc := 99) C hiX7_changesState 0 (r_at0 a cI cJ cZ s_50) rfl 40 (by decide) lkX7_changesState_106 (r_fl40 a s_50) dX7_changesState_99 ?_
      refine j_iload_n (pc := 102) C dX7_changesState_102 1 rfl rfl ?_
      obtain ⟨h_52, hw⟩ := hw
      refine j_iald (pc := 103) C 28 0 (r_at40 a cI cJ cZ s_50) rfl h_52 dX7_changesState_103 ?_
      refine j_iconst (pc := 104) (v := 1) C dX7_changesState_104 (by decide) ?_
      refine j_iadd (pc := 105) C dX7_changesState_105 ?_
      refine j_bipush (pc := 106) (v := 8) C dX7_changesState_106 (by decide) ?_
      refine j_irem (pc := 108) C dX7_changesState_108 (by decide) ?_
      refine j_callv0 (pc := 109) C jG0_ok trivial 2 (mX7_comesToPhase hw) gX7_changesState_X7_comesToPhase rfl rfl rfl (by decide +kernel) ⟨by decide, by decide⟩ 0 (r_at0 a cI cJ cZ s_50) rfl rfl rfl (Nat.le_of_ble_eq_true rfl) dX7_changesState_109 ⟨Nat.le_refl _, Nat.le_refl _⟩ (fun s_54 hw => ?_)
      exact kX7_changesState_112 C hr hG _ _ _ hw
def wX7_changesState_40 (N : Nat) (σ : jRS) (x1 : Int32) (x4 : Int32) (post : jRS → Prop) : Prop := vp_in x1 2 ∧ ((¬ (σ.1 39 x1.toNatClampNeg) = 1) → (wX7_changesState_78 N σ x1 x4 post)) ∧ (((σ.1 39 x1.toNatClampNeg) = 1) → (vp_in x1 2 ∧ wX7_product N σ x1 (fun r_58 s_59 => ((0 < (lg_cmp ((σ.1 16 x1.toNatClampNeg).toInt64) r_58)) → (wX7_changesState_78 N s_59 x1 x4 post)) ∧ ((¬ 0 < (lg_cmp ((σ.1 16 x1.toNatClampNeg).toInt64) r_58)) → (wX7_comesTo N s_59 x1 2 (fun s_62 => wX7_comesToPhase N s_62 x1 2 (fun s_64 => wX7_changesState_78 N s_64 x1 x4 post)))))))
set_option maxHeartbeats 4000000 in
set_option maxRecDepth 100000 in
theorem kX7_changesState_40 {p : Program} {l : Launch} {e : Env} {s : State} {m : MethodId} {args : Array Value} {below : List Frame} {meth : Method} {c : Code} {D : va_G} {cI cJ cZ cO : ClassId} {a : Nat → Nat} {A : Nat → Prop} {N : Nat} {post : jRS → Prop} (C : jC p s m args meth c cX7_changesState 5 yX7_changesState.cls wsX7_changesState D (jT cI cJ cZ cO) A) (hr : meth.sig.returnType = none) (hG : jG0 A s) (σ : jRS) (x1 : Int32) (x4 : Int32) (hw : wX7_changesState_40 N σ x1 x4 post) : jJ p l e rmX7_changesState s m args below meth c 0 0 (MQ below (va_Qv post (jE D (jT cI cJ cZ cO) A (rcells a cI cJ cZ)) A) args s 0 0 A) D A 5 (rcells a cI cJ cZ σ) [(0, .ref (a 0)), (1, .int x1), (4, .int x4)] 40 [] := by
  unfold wX7_changesState_40 at hw
  refine j_aload_n (pc := 40) C dX7_changesState_40 0 rfl rfl ?_
  refine j_get (ref := RX7) (pc := 41) C hiX7_changesState 0 (r_at0 a cI cJ cZ σ) rfl 39 (by decide) lkX7_changesState_103 (r_fl39 a σ) dX7_changesState_41 ?_
  refine j_iload_n (pc := 44) C dX7_changesState_44 1 rfl rfl ?_
  obtain ⟨h_55, hw⟩ := hw
  refine j_iald (pc := 45) C 27 0 (r_at39 a cI cJ cZ σ) rfl h_55 dX7_changesState_45 ?_
  refine j_iconst (pc := 46) (v := 1) C dX7_changesState_46 (by decide) ?_
  refine j_icmp_ne (pc := 47) C 78 dX7_changesState_47 (by decide) (fun z_56 => ?_) (fun z_56 => ?_)
  · have hw := hw.1 z_56
    exact kX7_changesState_78 C hr hG _ _ _ hw
  · have hw := hw.2 z_56
    refine j_aload_n (pc := 50) C dX7_changesState_50 0 rfl rfl ?_
    refine j_get (ref := RX7) (pc := 51) C hiX7_changesState 0 (r_at0 a cI cJ cZ σ) rfl 16 (by decide) lkX7_changesState_32 (r_fl16 a σ) dX7_changesState_51 ?_
    refine j_iload_n (pc := 54) C dX7_changesState_54 1 rfl rfl ?_
    obtain ⟨h_57, hw⟩ := hw
    refine j_iald (pc := 55) C 4 0 (r_at16 a cI cJ cZ σ) rfl h_57 dX7_changesState_55 ?_
    refine j_i2l (pc := 56) C dX7_changesState_56 ?_
    refine j_aload_n (pc := 57) C dX7_changesState_57 0 rfl rfl ?_
    refine j_iload_n (pc := 58) C dX7_changesState_58 1 rfl rfl ?_
    refine j_calll0 (pc := 59) C jG0_ok trivial 1 (mX7_product hw) gX7_changesState_X7_product rfl rfl rfl (by decide +kernel) ⟨by decide, by decide⟩ 0 (r_at0 a cI cJ cZ σ) rfl rfl rfl (Nat.le_of_ble_eq_true rfl) dX7_changesState_59 ⟨Nat.le_refl _, Nat.le_refl _⟩ (fun r_58 s_59 hw => ?_)
    refine j_lcmp (pc := 62) C dX7_changesState_62 ?_
    refine j_if_gt (pc := 63) C 78 dX7_changesState_63 (by decide) (fun z_60 => ?_) (fun z_60 => ?_)
    · have hw := hw.1 z_60
      exact kX7_changesState_78 C hr hG _ _ _ hw
    · have hw := hw.2 z_60
      refine j_aload_n (pc := 66) C dX7_changesState_66 0 rfl rfl ?_
      refine j_iload_n (pc := 67) C dX7_changesState_67 1 rfl rfl ?_
      refine j_iconst (pc := 68) (v := 2) C dX7_changesState_68 (by decide) ?_
      refine j_callv0 (pc := 69) C jG0_ok trivial 2 (mX7_comesTo hw) gX7_changesState_X7_comesTo rfl rfl rfl (by decide +kernel) ⟨by decide, by decide⟩ 0 (r_at0 a cI cJ cZ s_59) rfl rfl rfl (Nat.le_of_ble_eq_true rfl) dX7_changesState_69 ⟨Nat.le_refl _, Nat.le_refl _⟩ (fun s_62 hw => ?_)
      refine j_aload_n (pc := 72) C dX7_changesState_72 0 rfl rfl ?_
      refine j_iload_n (pc := 73) C dX7_changesState_73 1 rfl rfl ?_
      refine j_iconst (pc := 74) (v := 2) C dX7_changesState_74 (by decide) ?_
      refine j_callv0 (pc := 75) C jG0_ok trivial 2 (mX7_comesToPhase hw) gX7_changesState_X7_comesToPhase rfl rfl rfl (by decide +kernel) ⟨by decide, by decide⟩ 0 (r_at0 a cI cJ cZ s_62) rfl rfl rfl (Nat.le_of_ble_eq_true rfl) dX7_changesState_75 ⟨Nat.le_refl _, Nat.le_refl _⟩ (fun s_64 hw => ?_)
      exact kX7_changesState_78 C hr hG _ _ _ hw
def wX7_changesState_16 (N : Nat) (σ : jRS) (x1 : Int32) (x4 : Int32) (post : jRS → Prop) : Prop := vp_in x1 2 ∧ ((¬ (σ.1 39 x1.toNatClampNeg) = 0) → (wX7_changesState_40 N σ x1 x4 post)) ∧ (((σ.1 39 x1.toNatClampNeg) = 0) → (vp_in x1 2 ∧ (((σ.1 44 x1.toNatClampNeg) = 0) → (wX7_changesState_40 N σ x1 x4 post)) ∧ ((¬ (σ.1 44 x1.toNatClampNeg) = 0) → (wX7_comesTo N σ x1 1 (fun s_70 => wX7_changesState_40 N s_70 x1 x4 post)))))
set_option maxHeartbeats 4000000 in
set_option maxRecDepth 100000 in
theorem kX7_changesState_16 {p : Program} {l : Launch} {e : Env} {s : State} {m : MethodId} {args : Array Value} {below : List Frame} {meth : Method} {c : Code} {D : va_G} {cI cJ cZ cO : ClassId} {a : Nat → Nat} {A : Nat → Prop} {N : Nat} {post : jRS → Prop} (C : jC p s m args meth c cX7_changesState 5 yX7_changesState.cls wsX7_changesState D (jT cI cJ cZ cO) A) (hr : meth.sig.returnType = none) (hG : jG0 A s) (σ : jRS) (x1 : Int32) (x4 : Int32) (hw : wX7_changesState_16 N σ x1 x4 post) : jJ p l e rmX7_changesState s m args below meth c 0 0 (MQ below (va_Qv post (jE D (jT cI cJ cZ cO) A (rcells a cI cJ cZ)) A) args s 0 0 A) D A 5 (rcells a cI cJ cZ σ) [(0, .ref (a 0)), (1, .int x1), (4, .int x4)] 16 [] := by
  unfold wX7_changesState_16 at hw
  refine j_aload_n (pc := 16) C dX7_changesState_16 0 rfl rfl ?_
  refine j_get (ref := RX7) (pc := 17) C hiX7_changesState 0 (r_at0 a cI cJ cZ σ) rfl 39 (by decide) lkX7_changesState_103 (r_fl39 a σ) dX7_changesState_17 ?_
  refine j_iload_n (pc := 20) C dX7_changesState_20 1 rfl rfl ?_
  obtain ⟨h_65, hw⟩ := hw
  refine j_iald (pc := 21) C 27 0 (r_at39 a cI cJ cZ σ) rfl h_65 dX7_changesState_21 ?_
  refine j_if_ne (pc := 22) C 40 dX7_changesState_22 (by decide) (fun z_66 => ?_) (fun z_66 => ?_)
  · have hw := hw.1 z_66
    exact kX7_changesState_40 C hr hG _ _ _ hw
  · have hw := hw.2 z_66
    refine j_aload_n (pc := 25) C dX7_changesState_25 0 rfl rfl ?_
    refine j_get (ref := RX7) (pc := 26) C hiX7_changesState 0 (r_at0 a cI cJ cZ σ) rfl 44 (by decide) lkX7_changesState_118 (r_fl44 a σ) dX7_changesState_26 ?_
    refine j_iload_n (pc := 29) C dX7_changesState_29 1 rfl rfl ?_
    obtain ⟨h_67, hw⟩ := hw
    refine j_zald (pc := 30) C 32 2 (r_at44 a cI cJ cZ σ) rfl h_67 dX7_changesState_30 ?_
    refine j_if_eq (pc := 31) C 40 dX7_changesState_31 (by decide) (fun z_68 => ?_) (fun z_68 => ?_)
    · have hw := hw.1 z_68
      exact kX7_changesState_40 C hr hG _ _ _ hw
    · have hw := hw.2 z_68
      refine j_aload_n (pc := 34) C dX7_changesState_34 0 rfl rfl ?_
      refine j_iload_n (pc := 35) C dX7_changesState_35 1 rfl rfl ?_
      refine j_iconst (pc := 36) (v := 1) C dX7_changesState_36 (by decide) ?_
      refine j_callv0 (pc := 37) C jG0_ok trivial 2 (mX7_comesTo hw) gX7_changesState_X7_comesTo rfl rfl rfl (by decide +kernel) ⟨by decide, by decide⟩ 0 (r_at0 a cI cJ cZ σ) rfl rfl rfl (Nat.le_of_ble_eq_true rfl) dX7_changesState_37 ⟨Nat.le_refl _, Nat.le_refl _⟩ (fun s_70 hw => ?_)
      exact kX7_changesState_40 C hr hG _ _ _ hw
def wX7_changesState (N : Nat) (σ : jRS) (x1 : Int32) (x2 : Int32) (x3 : Int32) (x4 : Int32) (post : jRS → Prop) : Prop := vp_in x1 2 ∧ ((¬ (σ.1 39 x1.toNatClampNeg) = 0) → (wX7_changesState_16 N σ x1 x4 post)) ∧ (((σ.1 39 x1.toNatClampNeg) = 0) → (wX7_starts N σ x1 x2 x3 (fun s_74 => wX7_changesState_16 N s_74 x1 x4 post)))
set_option maxHeartbeats 4000000 in
set_option maxRecDepth 100000 in
theorem mX7_changesState {l : Launch} {D : va_G} {cI cJ cZ cO : ClassId} {a : Nat → Nat} {N : Nat} {σ : jRS} {x1 x2 x3 x4 : Int32} {post : jRS → Prop} (hw : wX7_changesState N σ x1 x2 x3 x4 post) : jMv l D (jT cI cJ cZ cO) jG0 yX7_changesState wsX7_changesState rmX7_changesState [.ref (a 0), .int x1, .int x2, .int x3, .int x4] (rcells a cI cJ cZ σ) post (rcells a cI cJ cZ) 0 0 := by
  refine j_ofv (cc := cX7_changesState) (maxL := 5) (ret := none) (by decide) rfl (Nat.le_of_ble_eq_true rfl) ?_
  intro p e s m args below meth c A C hr hnm hG
  refine j_sub (lv' := [(0, .ref (a 0)), (1, .int x1), (2, .int x2), (3, .int x3), (4, .int x4)]) [0, 1, 2, 3, 4] rfl ?_
  unfold wX7_changesState at hw
  refine j_aload_n (pc := 0) C dX7_changesState_0 0 rfl rfl ?_
  refine j_get (ref := RX7) (pc := 1) C hiX7_changesState 0 (r_at0 a cI cJ cZ σ) rfl 39 (by decide) lkX7_changesState_103 (r_fl39 a σ) dX7_changesState_1 ?_
  refine j_iload_n (pc := 4) C dX7_changesState_4 1 rfl rfl ?_
  obtain ⟨h_71, hw⟩ := hw
  refine j_iald (pc := 5) C 27 0 (r_at39 a cI cJ cZ σ) rfl h_71 dX7_changesState_5 ?_
  refine j_if_ne (pc := 6) C 16 dX7_changesState_6 (by decide) (fun z_72 => ?_) (fun z_72 => ?_)
  · have hw := hw.1 z_72
    refine j_sub [0, 1, 4] rfl ?_
    exact kX7_changesState_16 C hr hG _ _ _ hw
  · have hw := hw.2 z_72
    refine j_aload_n (pc := 9) C dX7_changesState_9 0 rfl rfl ?_
    refine j_iload_n (pc := 10) C dX7_changesState_10 1 rfl rfl ?_
    refine j_iload_n (pc := 11) C dX7_changesState_11 2 rfl rfl ?_
    refine j_iload_n (pc := 12) C dX7_changesState_12 3 rfl rfl ?_
    refine j_callv0 (pc := 13) C jG0_ok trivial 3 (mX7_starts hw) gX7_changesState_X7_starts rfl rfl rfl (by decide +kernel) ⟨by decide, by decide⟩ 0 (r_at0 a cI cJ cZ σ) rfl rfl rfl (Nat.le_of_ble_eq_true rfl) dX7_changesState_13 ⟨Nat.le_refl _, Nat.le_refl _⟩ (fun s_74 hw => ?_)
    refine j_sub [0, 1, 4] rfl ?_
    exact kX7_changesState_16 C hr hG _ _ _ hw

def rmX7_takes : Room := { frames := 3, cells := 0, slots := 0, locals := 68 }
theorem hiX7_takes : ∀ w ∈ u_ws RX7 TX7 50, w ∈ wsX7_takes := fun w h => List.mem_cons_of_mem _ (List.mem_append_right _ h)
theorem lkX7_takes_38 : Cond.fieldLink yX7_takes.cls 38 (TX7 18).1 (TX7 18).2.1 (TX7 18).2.2.1 ∈ wsX7_takes := by decide +kernel
theorem lkX7_takes_41 : Cond.fieldLink yX7_takes.cls 41 (TX7 19).1 (TX7 19).2.1 (TX7 19).2.2.1 ∈ wsX7_takes := by decide +kernel
theorem lkX7_takes_44 : Cond.fieldLink yX7_takes.cls 44 (TX7 20).1 (TX7 20).2.1 (TX7 20).2.2.1 ∈ wsX7_takes := by decide +kernel
theorem lkX7_takes_47 : Cond.fieldLink yX7_takes.cls 47 (TX7 21).1 (TX7 21).2.1 (TX7 21).2.2.1 ∈ wsX7_takes := by decide +kernel
theorem lkX7_takes_233 : Cond.fieldLink yX7_takes.cls 233 (TX7 15).1 (TX7 15).2.1 (TX7 15).2.2.1 ∈ wsX7_takes := by decide +kernel
theorem lkX7_takes_60 : Cond.fieldLink yX7_takes.cls 60 (TX7 25).1 (TX7 25).2.1 (TX7 25).2.2.1 ∈ wsX7_takes := by decide +kernel
theorem lkX7_takes_63 : Cond.fieldLink yX7_takes.cls 63 (TX7 26).1 (TX7 26).2.1 (TX7 26).2.2.1 ∈ wsX7_takes := by decide +kernel
theorem lkX7_takes_146 : Cond.fieldLink yX7_takes.cls 146 (TX7 0).1 (TX7 0).2.1 (TX7 0).2.2.1 ∈ wsX7_takes := by decide +kernel
theorem lkX7_takes_66 : Cond.fieldLink yX7_takes.cls 66 (TX7 27).1 (TX7 27).2.1 (TX7 27).2.2.1 ∈ wsX7_takes := by decide +kernel
theorem lkX7_takes_72 : Cond.fieldLink yX7_takes.cls 72 (TX7 29).1 (TX7 29).2.1 (TX7 29).2.2.1 ∈ wsX7_takes := by decide +kernel
theorem lkX7_takes_69 : Cond.fieldLink yX7_takes.cls 69 (TX7 28).1 (TX7 28).2.1 (TX7 28).2.2.1 ∈ wsX7_takes := by decide +kernel
theorem lkX7_takes_75 : Cond.fieldLink yX7_takes.cls 75 (TX7 30).1 (TX7 30).2.1 (TX7 30).2.2.1 ∈ wsX7_takes := by decide +kernel
theorem lkX7_takes_78 : Cond.fieldLink yX7_takes.cls 78 (TX7 31).1 (TX7 31).2.1 (TX7 31).2.2.1 ∈ wsX7_takes := by decide +kernel
theorem lkX7_takes_81 : Cond.fieldLink yX7_takes.cls 81 (TX7 32).1 (TX7 32).2.1 (TX7 32).2.2.1 ∈ wsX7_takes := by decide +kernel
def wX7_takes_312 (N : Nat) (σ : jRS) (x1 : Int32) (x7 : Int32) (x8 : Int32) (x11 : Int32) (post : jRS → Prop) : Prop := wX7_changesState N σ x1 x8 x7 x11 (fun s_67 => post s_67)
set_option maxHeartbeats 4000000 in
set_option maxRecDepth 100000 in
theorem kX7_takes_312 {p : Program} {l : Launch} {e : Env} {s : State} {m : MethodId} {args : Array Value} {below : List Frame} {meth : Method} {c : Code} {D : va_G} {cI cJ cZ cO : ClassId} {a : Nat → Nat} {A : Nat → Prop} {N : Nat} {post : jRS → Prop} (C : jC p s m args meth c cX7_takes 12 yX7_takes.cls wsX7_takes D (jT cI cJ cZ cO) A) (hr : meth.sig.returnType = none) (hG : jG0 A s) (σ : jRS) (x1 : Int32) (x7 : Int32) (x8 : Int32) (x11 : Int32) (hw : wX7_takes_312 N σ x1 x7 x8 x11 post) : jJ p l e rmX7_takes s m args below meth c 0 0 (MQ below (va_Qv post (jE D (jT cI cJ cZ cO) A (rcells a cI cJ cZ)) A) args s 0 0 A) D A 12 (rcells a cI cJ cZ σ) [(0, .ref (a 0)), (1, .int x1), (7, .int x7), (8, .int x8), (11, .int x11)] 312 [] := by
  unfold wX7_takes_312 at hw
  refine j_aload_n (pc := 312) C dX7_takes_312 0 rfl rfl ?_
  refine j_iload_n (pc := 313) C dX7_takes_313 1 rfl rfl ?_
  refine j_iload (pc := 314) C dX7_takes_314 3 rfl ?_
  refine j_iload (pc := 316) C dX7_takes_316 2 rfl ?_
  refine j_iload (pc := 318) C dX7_takes_318 4 rfl ?_
  refine j_callv0 (pc := 320) C jG0_ok trivial 4 (mX7_changesState hw) gX7_takes_X7_changesState rfl rfl rfl (by decide +kernel) ⟨by decide, by decide⟩ 0 (r_at0 a cI cJ cZ σ) rfl rfl rfl (Nat.le_of_ble_eq_true rfl) dX7_takes_320 ⟨Nat.le_refl _, Nat.le_refl _⟩ (fun s_67 hw => ?_)
  exact j_vret (pc := 323) C hr s_67 rfl hw dX7_takes_323
def wX7_takes_289 (N : Nat) (σ : jRS) (x1 : Int32) (x4 : Int32) (x7 : Int32) (x8 : Int32) (x11 : Int32) (post : jRS → Prop) : Prop := ∀ v_68 : Int32, v_68 = (σ.1 0 0) - x4 → vp_in x1 2 ∧ ∀ s_70 : jRS, s_70 = rP σ 31 x1.toNatClampNeg v_68 → ∀ v_71 : Int32, v_71 = s_70.1 0 0 → vp_in x1 2 ∧ ∀ s_73 : jRS, s_73 = rP s_70 32 x1.toNatClampNeg v_71 → wX7_takes_312 N s_73 x1 x7 x8 x11 post
set_option maxHeartbeats 4000000 in
set_option maxRecDepth 100000 in
theorem kX7_takes_289 {p : Program} {l : Launch} {e : Env} {s : State} {m : MethodId} {args : Array Value} {below : List Frame} {meth : Method} {c : Code} {D : va_G} {cI cJ cZ cO : ClassId} {a : Nat → Nat} {A : Nat → Prop} {N : Nat} {post : jRS → Prop} (C : jC p s m args meth c cX7_takes 12 yX7_takes.cls wsX7_takes D (jT cI cJ cZ cO) A) (hr : meth.sig.returnType = none) (hG : jG0 A s) (σ : jRS) (x1 : Int32) (x4 : Int32) (x7 : Int32) (x8 : Int32) (x11 : Int32) (hw : wX7_takes_289 N σ x1 x4 x7 x8 x11 post) : jJ p l e rmX7_takes s m args below meth c 0 0 (MQ below (va_Qv post (jE D (jT cI cJ cZ cO) A (rcells a cI cJ cZ)) A) args s 0 0 A) D A 12 (rcells a cI cJ cZ σ) [(0, .ref (a 0)), (1, .int x1), (4, .int x4), (7, .int x7), (8, .int x8), (11, .int x11)] 289 [] := by
  unfold wX7_takes_289 at hw
  refine j_aload_n (pc := 289) C dX7_takes_289 0 rfl rfl ?_
  refine j_get (ref := RX7) (pc := 290) C hiX7_takes 0 (r_at0 a cI cJ cZ σ) rfl 31 (by decide) lkX7_takes_78 (r_fl31 a σ) dX7_takes_290 ?_
  refine j_iload_n (pc := 293) C dX7_takes_293 1 rfl rfl ?_
  refine j_aload_n (pc := 294) C dX7_takes_294 0 rfl rfl ?_
  refine j_get (ref := RX7) (pc := 295) C hiX7_takes 0 (r_at0 a cI cJ cZ σ) rfl 0 (by decide) lkX7_takes_146 (r_fl0 a σ) dX7_takes_295 ?_
  refine j_iload (pc := 298) C dX7_takes_298 2 rfl ?_
  refine j_isub (pc := 300) C dX7_takes_300 ?_
  refine j_topi (fun v_68 ev_68 => ?_)
  have hw := hw v_68 ev_68
  obtain ⟨h_69, hw⟩ := hw
  refine j_iast (pc := 301) C 19 0 (r_at31 a cI cJ cZ σ) rfl h_69 dX7_takes_301 (j_ws (r_s31 a cI cJ cZ σ x1.toNatClampNeg v_68) ?_)
  refine j_nmS (F := rcells a cI cJ cZ) (fun s_70 es_70 => ?_)
  have hw := hw s_70 es_70
  refine j_aload_n (pc := 302) C dX7_takes_302 0 rfl rfl ?_
  refine j_get (ref := RX7) (pc := 303) C hiX7_takes 0 (r_at0 a cI cJ cZ s_70) rfl 32 (by decide) lkX7_takes_81 (r_fl32 a s_70) dX7_takes_303 ?_
  refine j_iload_n (pc := 306) C dX7_takes_306 1 rfl rfl ?_
  refine j_aload_n (pc := 307) C dX7_takes_307 0 rfl rfl ?_
  refine j_get (ref := RX7) (pc := 308) C hiX7_takes 0 (r_at0 a cI cJ cZ s_70) rfl 0 (by decide) lkX7_takes_146 (r_fl0 a s_70) dX7_takes_308 ?_
  refine j_topi (fun v_71 ev_71 => ?_)
  have hw := hw v_71 ev_71
  obtain ⟨h_72, hw⟩ := hw
  refine j_iast (pc := 311) C 20 0 (r_at32 a cI cJ cZ s_70) rfl h_72 dX7_takes_311 (j_ws (r_s32 a cI cJ cZ s_70 x1.toNatClampNeg v_71) ?_)
  refine j_nmS (F := rcells a cI cJ cZ) (fun s_73 es_73 => ?_)
  have hw := hw s_73 es_73
  refine j_sub [0, 1, 3, 4, 5] rfl ?_
  exact kX7_takes_312 C hr hG _ _ _ _ _ hw
def wX7_takes_255 (N : Nat) (σ : jRS) (x1 : Int32) (x4 : Int32) (x7 : Int32) (x8 : Int32) (y0 : Int32) (post : jRS → Prop) : Prop := vp_in x1 2 ∧ (((σ.1 31 x1.toNatClampNeg) = ((-9))) → (wX7_takes_289 N σ x1 x4 x7 x8 y0 post)) ∧ ((¬ (σ.1 31 x1.toNatClampNeg) = ((-9))) → (((¬ y0 = 0) → (wX7_takes_289 N σ x1 x4 x7 x8 y0 post)) ∧ ((y0 = 0) → (vp_in x1 2 ∧ (((σ.1 31 x1.toNatClampNeg) < ((σ.1 0 0) - x4)) → (wX7_takes_312 N σ x1 x7 x8 y0 post)) ∧ ((¬ (σ.1 31 x1.toNatClampNeg) < ((σ.1 0 0) - x4)) → (wX7_takes_289 N σ x1 x4 x7 x8 y0 post))))))
set_option maxHeartbeats 4000000 in
set_option maxRecDepth 100000 in
theorem kX7_takes_255 {p : Program} {l : Launch} {e : Env} {s : State} {m : MethodId} {args : Array Value} {below : List Frame} {meth : Method} {c : Code} {D : va_G} {cI cJ cZ cO : ClassId} {a : Nat → Nat} {A : Nat → Prop} {N : Nat} {post : jRS → Prop} (C : jC p s m args meth c cX7_takes 12 yX7_takes.cls wsX7_takes D (jT cI cJ cZ cO) A) (hr : meth.sig.returnType = none) (hG : jG0 A s) (σ : jRS) (x1 : Int32) (x4 : Int32) (x7 : Int32) (x8 : Int32) (y0 : Int32) (hw : wX7_takes_255 N σ x1 x4 x7 x8 y0 post) : jJ p l e rmX7_takes s m args below meth c 0 0 (MQ below (va_Qv post (jE D (jT cI cJ cZ cO) A (rcells a cI cJ cZ)) A) args s 0 0 A) D A 12 (rcells a cI cJ cZ σ) [(0, .ref (a 0)), (1, .int x1), (4, .int x4), (7, .int x7), (8, .int x8)] 255 [.int y0] := by
  unfold wX7_takes_255 at hw
  refine j_istore (pc := 255) (lv' := [(0, .ref (a 0)), (1, .int x1), (4, .int x4), (7, .int x7), (8, .int x8), (11, .int y0)]) C [1, 2, 3, 4, 5, 0] dX7_takes_255 (by decide) rfl ?_
  refine j_aload_n (pc := 257) C dX7_takes_257 0 rfl rfl ?_
  refine j_get (ref := RX7) (pc := 258) C hiX7_takes 0 (r_at0 a cI cJ cZ σ) rfl 31 (by decide) lkX7_takes_78 (r_fl31 a σ) dX7_takes_258 ?_
  refine j_iload_n (pc := 261) C dX7_takes_261 1 rfl rfl ?_
  obtain ⟨h_74, hw⟩ := hw
  refine j_iald (pc := 262) C 19 0 (r_at31 a cI cJ cZ σ) rfl h_74 dX7_takes_262 ?_
  refine j_bipush (pc := 263) (v := (-9)) C dX7_takes_263 (by decide) ?_
  refine j_icmp_eq (pc := 265) C 289 dX7_takes_265 (by decide) (fun z_75 => ?_) (fun z_75 => ?_)
  · have hw := hw.1 z_75
    exact kX7_takes_289 C hr hG _ _ _ _ _ _ hw
  · have hw := hw.2 z_75
    refine j_iload (pc := 268) C dX7_takes_268 5 rfl ?_
    refine j_if_ne (pc := 270) C 289 dX7_takes_270 (by decide) (fun z_76 => ?_) (fun z_76 => ?_)
    · have hw := hw.1 z_76
      exact kX7_takes_289 C hr hG _ _ _ _ _ _ hw
    · have hw := hw.2 z_76
      refine j_aload_n (pc := 273) C dX7_takes_273 0 rfl rfl ?_
      refine j_get (ref := RX7) (pc := 274) C hiX7_takes 0 (r_at0 a cI cJ cZ σ) rfl 0 (by decide) lkX7_takes_146 (r_fl0 a σ) dX7_takes_274 ?_
      refine j_iload (pc := 277) C dX7_takes_277 2 rfl ?_
      refine j_isub (pc := 279) C dX7_takes_279 ?_
      refine j_aload_n (pc := 280) C dX7_takes_280 0 rfl rfl ?_
      refine j_get (ref := RX7) (pc := 281) C hiX7_takes 0 (r_at0 a cI cJ cZ σ) rfl 31 (by decide) lkX7_takes_78 (r_fl31 a σ) dX7_takes_281 ?_
      refine j_iload_n (pc := 284) C dX7_takes_284 1 rfl rfl ?_
      obtain ⟨h_77, hw⟩ := hw
      refine j_iald (pc := 285) C 19 0 (r_at31 a cI cJ cZ σ) rfl h_77 dX7_takes_285 ?_
      refine j_icmp_gt (pc := 286) C 312 dX7_takes_286 (by decide) (fun z_78 => ?_) (fun z_78 => ?_)
      · have hw := hw.1 z_78
        refine j_sub [0, 1, 3, 4, 5] rfl ?_
        exact kX7_takes_312 C hr hG _ _ _ _ _ hw
      · have hw := hw.2 z_78
        exact kX7_takes_289 C hr hG _ _ _ _ _ _ hw
def wX7_takes_254 (N : Nat) (σ : jRS) (x1 : Int32) (x4 : Int32) (x7 : Int32) (x8 : Int32) (post : jRS → Prop) : Prop := wX7_takes_255 N σ x1 x4 x7 x8 0 post
set_option maxHeartbeats 4000000 in
set_option maxRecDepth 100000 in
theorem kX7_takes_254 {p : Program} {l : Launch} {e : Env} {s : State} {m : MethodId} {args : Array Value} {below : List Frame} {meth : Method} {c : Code} {D : va_G} {cI cJ cZ cO : ClassId} {a : Nat → Nat} {A : Nat → Prop} {N : Nat} {post : jRS → Prop} (C : jC p s m args meth c cX7_takes 12 yX7_takes.cls wsX7_takes D (jT cI cJ cZ cO) A) (hr : meth.sig.returnType = none) (hG : jG0 A s) (σ : jRS) (x1 : Int32) (x4 : Int32) (x7 : Int32) (x8 : Int32) (hw : wX7_takes_254 N σ x1 x4 x7 x8 post) : jJ p l e rmX7_takes s m args below meth c 0 0 (MQ below (va_Qv post (jE D (jT cI cJ cZ cO) A (rcells a cI cJ cZ)) A) args s 0 0 A) D A 12 (rcells a cI cJ cZ σ) [(0, .ref (a 0)), (1, .int x1), (4, .int x4), (7, .int x7), (8, .int x8)] 254 [] := by
  unfold wX7_takes_254 at hw
  refine j_iconst (pc := 254) (v := 0) C dX7_takes_254 (by decide) ?_
  exact kX7_takes_255 C hr hG _ _ _ _ _ _ hw
def wX7_takes_217 (N : Nat) (σ : jRS) (x1 : Int32) (x4 : Int32) (x7 : Int32) (x8 : Int32) (post : jRS → Prop) : Prop := wX7_letsGo N σ x1 (fun s_80 => vp_in x1 2 ∧ (((s_80.1 31 x1.toNatClampNeg) = ((-9))) → (wX7_takes_254 N s_80 x1 x4 x7 x8 post)) ∧ ((¬ (s_80.1 31 x1.toNatClampNeg) = ((-9))) → (vp_in x1 2 ∧ ((((s_80.1 0 0) - (s_80.1 32 x1.toNatClampNeg)) ≤ 1000) → (wX7_takes_254 N s_80 x1 x4 x7 x8 post)) ∧ ((¬ ((s_80.1 0 0) - (s_80.1 32 x1.toNatClampNeg)) ≤ 1000) → (wX7_takes_255 N s_80 x1 x4 x7 x8 1 post)))))
set_option maxHeartbeats 4000000 in
set_option maxRecDepth 100000 in
theorem kX7_takes_217 {p : Program} {l : Launch} {e : Env} {s : State} {m : MethodId} {args : Array Value} {below : List Frame} {meth : Method} {c : Code} {D : va_G} {cI cJ cZ cO : ClassId} {a : Nat → Nat} {A : Nat → Prop} {N : Nat} {post : jRS → Prop} (C : jC p s m args meth c cX7_takes 12 yX7_takes.cls wsX7_takes D (jT cI cJ cZ cO) A) (hr : meth.sig.returnType = none) (hG : jG0 A s) (σ : jRS) (x1 : Int32) (x4 : Int32) (x7 : Int32) (x8 : Int32) (hw : wX7_takes_217 N σ x1 x4 x7 x8 post) : jJ p l e rmX7_takes s m args below meth c 0 0 (MQ below (va_Qv post (jE D (jT cI cJ cZ cO) A (rcells a cI cJ cZ)) A) args s 0 0 A) D A 12 (rcells a cI cJ cZ σ) [(0, .ref (a 0)), (1, .int x1), (4, .int x4), (7, .int x7), (8, .int x8)] 217 [] := by
  unfold wX7_takes_217 at hw
  refine j_aload_n (pc := 217) C dX7_takes_217 0 rfl rfl ?_
  refine j_iload_n (pc := 218) C dX7_takes_218 1 rfl rfl ?_
  refine j_callv0 (pc := 219) C jG0_ok trivial 1 (mX7_letsGo hw) gX7_takes_X7_letsGo rfl rfl rfl (by decide +kernel) ⟨by decide, by decide⟩ 0 (r_at0 a cI cJ cZ σ) rfl rfl rfl (Nat.le_of_ble_eq_true rfl) dX7_takes_219 ⟨Nat.le_refl _, Nat.le_refl _⟩ (fun s_80 hw => ?_)
  refine j_aload_n (pc := 222) C dX7_takes_222 0 rfl rfl ?_
  refine j_get (ref := RX7) (pc := 223) C hiX7_takes 0 (r_at0 a cI cJ cZ s_80) rfl 31 (by decide) lkX7_takes_78 (r_fl31 a s_80) dX7_takes_223 ?_
  refine j_iload_n (pc := 226) C dX7_takes_226 1 rfl rfl ?_
  obtain ⟨h_81, hw⟩ := hw
  refine j_iald (pc := 227) C 19 0 (r_at31 a cI cJ cZ s_80) rfl h_81 dX7_takes_227 ?_
  refine j_bipush (pc := 228) (v := (-9)) C dX7_takes_228 (by decide) ?_
  refine j_icmp_eq (pc := 230) C 254 dX7_takes_230 (by decide) (fun z_82 => ?_) (fun z_82 => ?_)
  · have hw := hw.1 z_82
    exact kX7_takes_254 C hr hG _ _ _ _ _ hw
  · have hw := hw.2 z_82
    refine j_aload_n (pc := 233) C dX7_takes_233 0 rfl rfl ?_
    refine j_get (ref := RX7) (pc := 234) C hiX7_takes 0 (r_at0 a cI cJ cZ s_80) rfl 0 (by decide) lkX7_takes_146 (r_fl0 a s_80) dX7_takes_234 ?_
    refine j_aload_n (pc := 237) C dX7_takes_237 0 rfl rfl ?_
    refine j_get (ref := RX7) (pc := 238) C hiX7_takes 0 (r_at0 a cI cJ cZ s_80) rfl 32 (by decide) lkX7_takes_81 (r_fl32 a s_80) dX7_takes_238 ?_
    refine j_iload_n (pc := 241) C dX7_takes_241 1 rfl rfl ?_
    obtain ⟨h_83, hw⟩ := hw
    refine j_iald (pc := 242) C 20 0 (r_at32 a cI cJ cZ s_80) rfl h_83 dX7_takes_242 ?_
    refine j_isub (pc := 243) C dX7_takes_243 ?_
    refine j_sipush (pc := 244) (v := 1000) C dX7_takes_244 (by decide) ?_
    refine j_icmp_le (pc := 247) C 254 dX7_takes_247 (by decide) (fun z_84 => ?_) (fun z_84 => ?_)
    · have hw := hw.1 z_84
      exact kX7_takes_254 C hr hG _ _ _ _ _ hw
    · have hw := hw.2 z_84
      refine j_iconst (pc := 250) (v := 1) C dX7_takes_250 (by decide) ?_
      refine j_goto (pc := 251) C 255 dX7_takes_251 (by decide) ?_
      exact kX7_takes_255 C hr hG _ _ _ _ _ _ hw
def wX7_takes_210 (N : Nat) (σ : jRS) (x1 : Int32) (x4 : Int32) (x7 : Int32) (x8 : Int32) (x10 : Int32) (post : jRS → Prop) : Prop := wX7_keepsSample N σ x1 x10 (fun s_86 => wX7_takes_217 N s_86 x1 x4 x7 x8 post)
set_option maxHeartbeats 4000000 in
set_option maxRecDepth 100000 in
theorem kX7_takes_210 {p : Program} {l : Launch} {e : Env} {s : State} {m : MethodId} {args : Array Value} {below : List Frame} {meth : Method} {c : Code} {D : va_G} {cI cJ cZ cO : ClassId} {a : Nat → Nat} {A : Nat → Prop} {N : Nat} {post : jRS → Prop} (C : jC p s m args meth c cX7_takes 12 yX7_takes.cls wsX7_takes D (jT cI cJ cZ cO) A) (hr : meth.sig.returnType = none) (hG : jG0 A s) (σ : jRS) (x1 : Int32) (x4 : Int32) (x7 : Int32) (x8 : Int32) (x10 : Int32) (hw : wX7_takes_210 N σ x1 x4 x7 x8 x10 post) : jJ p l e rmX7_takes s m args below meth c 0 0 (MQ below (va_Qv post (jE D (jT cI cJ cZ cO) A (rcells a cI cJ cZ)) A) args s 0 0 A) D A 12 (rcells a cI cJ cZ σ) [(0, .ref (a 0)), (1, .int x1), (4, .int x4), (7, .int x7), (8, .int x8), (10, .int x10)] 210 [] := by
  unfold wX7_takes_210 at hw
  refine j_aload_n (pc := 210) C dX7_takes_210 0 rfl rfl ?_
  refine j_iload_n (pc := 211) C dX7_takes_211 1 rfl rfl ?_
  refine j_iload (pc := 212) C dX7_takes_212 5 rfl ?_
  refine j_callv0 (pc := 214) C jG0_ok trivial 2 (mX7_keepsSample hw) gX7_takes_X7_keepsSample rfl rfl rfl (by decide +kernel) ⟨by decide, by decide⟩ 0 (r_at0 a cI cJ cZ σ) rfl rfl rfl (Nat.le_of_ble_eq_true rfl) dX7_takes_214 ⟨Nat.le_refl _, Nat.le_refl _⟩ (fun s_86 hw => ?_)
  refine j_sub [0, 1, 2, 3, 4] rfl ?_
  exact kX7_takes_217 C hr hG _ _ _ _ _ hw
def wX7_takes_174 (N : Nat) (σ : jRS) (x1 : Int32) (x4 : Int32) (x5 : Int32) (x7 : Int32) (x8 : Int32) (y0 : Int32) (post : jRS → Prop) : Prop := vp_in x1 2 ∧ (¬ y0 = 0) ∧ ∀ x10_89 : Int32, x10_89 = (1000 * ((σ.1 25 x1.toNatClampNeg) - x5)) / y0 → ((x7 = 0) → (wX7_takes_210 N σ x1 x4 x7 x8 x10_89 post)) ∧ ((¬ x7 = 0) → (vp_in x1 2 ∧ ((x10_89 < (σ.1 30 x1.toNatClampNeg)) → (wX7_takes_217 N σ x1 x4 x7 x8 post)) ∧ ((¬ x10_89 < (σ.1 30 x1.toNatClampNeg)) → (wX7_takes_210 N σ x1 x4 x7 x8 x10_89 post))))
set_option maxHeartbeats 4000000 in
set_option maxRecDepth 100000 in
theorem kX7_takes_174 {p : Program} {l : Launch} {e : Env} {s : State} {m : MethodId} {args : Array Value} {below : List Frame} {meth : Method} {c : Code} {D : va_G} {cI cJ cZ cO : ClassId} {a : Nat → Nat} {A : Nat → Prop} {N : Nat} {post : jRS → Prop} (C : jC p s m args meth c cX7_takes 12 yX7_takes.cls wsX7_takes D (jT cI cJ cZ cO) A) (hr : meth.sig.returnType = none) (hG : jG0 A s) (σ : jRS) (x1 : Int32) (x4 : Int32) (x5 : Int32) (x7 : Int32) (x8 : Int32) (y0 : Int32) (hw : wX7_takes_174 N σ x1 x4 x5 x7 x8 y0 post) : jJ p l e rmX7_takes s m args below meth c 0 0 (MQ below (va_Qv post (jE D (jT cI cJ cZ cO) A (rcells a cI cJ cZ)) A) args s 0 0 A) D A 12 (rcells a cI cJ cZ σ) [(0, .ref (a 0)), (1, .int x1), (4, .int x4), (5, .int x5), (7, .int x7), (8, .int x8)] 174 [.int y0] := by
  unfold wX7_takes_174 at hw
  refine j_istore (pc := 174) (lv' := [(0, .ref (a 0)), (1, .int x1), (4, .int x4), (5, .int x5), (7, .int x7), (8, .int x8), (9, .int y0)]) C [1, 2, 3, 4, 5, 6, 0] dX7_takes_174 (by decide) rfl ?_
  refine j_sipush (pc := 176) (v := 1000) C dX7_takes_176 (by decide) ?_
  refine j_aload_n (pc := 179) C dX7_takes_179 0 rfl rfl ?_
  refine j_get (ref := RX7) (pc := 180) C hiX7_takes 0 (r_at0 a cI cJ cZ σ) rfl 25 (by decide) lkX7_takes_60 (r_fl25 a σ) dX7_takes_180 ?_
  refine j_iload_n (pc := 183) C dX7_takes_183 1 rfl rfl ?_
  obtain ⟨h_87, hw⟩ := hw
  refine j_iald (pc := 184) C 13 0 (r_at25 a cI cJ cZ σ) rfl h_87 dX7_takes_184 ?_
  refine j_iload (pc := 185) C dX7_takes_185 3 rfl ?_
  refine j_isub (pc := 187) C dX7_takes_187 ?_
  refine j_imul (pc := 188) C dX7_takes_188 ?_
  refine j_iload (pc := 189) C dX7_takes_189 6 rfl ?_
  obtain ⟨h_88, hw⟩ := hw
  refine j_idiv (pc := 191) C dX7_takes_191 h_88 ?_
  refine j_topi (fun x10_89 ex10_89 => ?_)
  have hw := hw x10_89 ex10_89
  refine j_istore (pc := 192) (lv' := [(0, .ref (a 0)), (1, .int x1), (4, .int x4), (5, .int x5), (7, .int x7), (8, .int x8), (9, .int y0), (10, .int x10_89)]) C [1, 2, 3, 4, 5, 6, 7, 0] dX7_takes_192 (by decide) rfl ?_
  refine j_iload (pc := 194) C dX7_takes_194 4 rfl ?_
  refine j_if_eq (pc := 196) C 210 dX7_takes_196 (by decide) (fun z_90 => ?_) (fun z_90 => ?_)
  · have hw := hw.1 z_90
    refine j_sub [0, 1, 2, 4, 5, 7] rfl ?_
    exact kX7_takes_210 C hr hG _ _ _ _ _ _ hw
  · have hw := hw.2 z_90
    refine j_iload (pc := 199) C dX7_takes_199 7 rfl ?_
    refine j_aload_n (pc := 201) C dX7_takes_201 0 rfl rfl ?_
    refine j_get (ref := RX7) (pc := 202) C hiX7_takes 0 (r_at0 a cI cJ cZ σ) rfl 30 (by decide) lkX7_takes_75 (r_fl30 a σ) dX7_takes_202 ?_
    refine j_iload_n (pc := 205) C dX7_takes_205 1 rfl rfl ?_
    obtain ⟨h_91, hw⟩ := hw
    refine j_iald (pc := 206) C 18 0 (r_at30 a cI cJ cZ σ) rfl h_91 dX7_takes_206 ?_
    refine j_icmp_lt (pc := 207) C 217 dX7_takes_207 (by decide) (fun z_92 => ?_) (fun z_92 => ?_)
    · have hw := hw.1 z_92
      refine j_sub [0, 1, 2, 4, 5] rfl ?_
      exact kX7_takes_217 C hr hG _ _ _ _ _ hw
    · have hw := hw.2 z_92
      refine j_sub [0, 1, 2, 4, 5, 7] rfl ?_
      exact kX7_takes_210 C hr hG _ _ _ _ _ _ hw
def wX7_takes_152 (N : Nat) (σ : jRS) (x1 : Int32) (x4 : Int32) (x5 : Int32) (x6 : Int32) (x7 : Int32) (x8 : Int32) (post : jRS → Prop) : Prop := ((1 ≤ ((σ.1 0 0) - x6)) → (wX7_takes_174 N σ x1 x4 x5 x7 x8 ((σ.1 0 0) - x6) post)) ∧ ((¬ 1 ≤ ((σ.1 0 0) - x6)) → (wX7_takes_174 N σ x1 x4 x5 x7 x8 1 post))
set_option maxHeartbeats 4000000 in
set_option maxRecDepth 100000 in
theorem kX7_takes_152 {p : Program} {l : Launch} {e : Env} {s : State} {m : MethodId} {args : Array Value} {below : List Frame} {meth : Method} {c : Code} {D : va_G} {cI cJ cZ cO : ClassId} {a : Nat → Nat} {A : Nat → Prop} {N : Nat} {post : jRS → Prop} (C : jC p s m args meth c cX7_takes 12 yX7_takes.cls wsX7_takes D (jT cI cJ cZ cO) A) (hr : meth.sig.returnType = none) (hG : jG0 A s) (σ : jRS) (x1 : Int32) (x4 : Int32) (x5 : Int32) (x6 : Int32) (x7 : Int32) (x8 : Int32) (hw : wX7_takes_152 N σ x1 x4 x5 x6 x7 x8 post) : jJ p l e rmX7_takes s m args below meth c 0 0 (MQ below (va_Qv post (jE D (jT cI cJ cZ cO) A (rcells a cI cJ cZ)) A) args s 0 0 A) D A 12 (rcells a cI cJ cZ σ) [(0, .ref (a 0)), (1, .int x1), (4, .int x4), (5, .int x5), (6, .int x6), (7, .int x7), (8, .int x8)] 152 [] := by
  unfold wX7_takes_152 at hw
  refine j_aload_n (pc := 152) C dX7_takes_152 0 rfl rfl ?_
  refine j_get (ref := RX7) (pc := 153) C hiX7_takes 0 (r_at0 a cI cJ cZ σ) rfl 0 (by decide) lkX7_takes_146 (r_fl0 a σ) dX7_takes_153 ?_
  refine j_iload (pc := 156) C dX7_takes_156 4 rfl ?_
  refine j_isub (pc := 158) C dX7_takes_158 ?_
  refine j_iconst (pc := 159) (v := 1) C dX7_takes_159 (by decide) ?_
  refine j_icmp_ge (pc := 160) C 167 dX7_takes_160 (by decide) (fun z_93 => ?_) (fun z_93 => ?_)
  · have hw := hw.1 z_93
    refine j_aload_n (pc := 167) C dX7_takes_167 0 rfl rfl ?_
    refine j_get (ref := RX7) (pc := 168) C hiX7_takes 0 (r_at0 a cI cJ cZ σ) rfl 0 (by decide) lkX7_takes_146 (r_fl0 a σ) dX7_takes_168 ?_
    refine j_iload (pc := 171) C dX7_takes_171 4 rfl ?_
    refine j_isub (pc := 173) C dX7_takes_173 ?_
    refine j_sub [0, 1, 2, 3, 5, 6] rfl ?_
    exact kX7_takes_174 C hr hG _ _ _ _ _ _ _ hw
  · have hw := hw.2 z_93
    refine j_iconst (pc := 163) (v := 1) C dX7_takes_163 (by decide) ?_
    refine j_goto (pc := 164) C 174 dX7_takes_164 (by decide) ?_
    refine j_sub [0, 1, 2, 3, 5, 6] rfl ?_
    exact kX7_takes_174 C hr hG _ _ _ _ _ _ _ hw
def wX7_takes_123 (N : Nat) (σ : jRS) (x1 : Int32) (x4 : Int32) (x5 : Int32) (x6 : Int32) (x7 : Int32) (y0 : Int32) (post : jRS → Prop) : Prop := ((y0 = 0) → (wX7_takes_152 N σ x1 x4 x5 x6 x7 y0 post)) ∧ ((¬ y0 = 0) → (vp_in x1 2 ∧ ∀ v_96 : Int32, v_96 = (σ.1 28 x1.toNatClampNeg) + 1 → vp_in x1 2 ∧ ∀ s_98 : jRS, s_98 = rP σ 28 x1.toNatClampNeg v_96 → vp_in x1 2 ∧ ∀ v_100 : Int32, v_100 = s_98.1 25 x1.toNatClampNeg → vp_in x1 2 ∧ ∀ s_102 : jRS, s_102 = rP s_98 29 x1.toNatClampNeg v_100 → wX7_takes_152 N s_102 x1 x4 x5 x6 x7 y0 post))
set_option maxHeartbeats 4000000 in
set_option maxRecDepth 100000 in
theorem kX7_takes_123 {p : Program} {l : Launch} {e : Env} {s : State} {m : MethodId} {args : Array Value} {below : List Frame} {meth : Method} {c : Code} {D : va_G} {cI cJ cZ cO : ClassId} {a : Nat → Nat} {A : Nat → Prop} {N : Nat} {post : jRS → Prop} (C : jC p s m args meth c cX7_takes 12 yX7_takes.cls wsX7_takes D (jT cI cJ cZ cO) A) (hr : meth.sig.returnType = none) (hG : jG0 A s) (σ : jRS) (x1 : Int32) (x4 : Int32) (x5 : Int32) (x6 : Int32) (x7 : Int32) (y0 : Int32) (hw : wX7_takes_123 N σ x1 x4 x5 x6 x7 y0 post) : jJ p l e rmX7_takes s m args below meth c 0 0 (MQ below (va_Qv post (jE D (jT cI cJ cZ cO) A (rcells a cI cJ cZ)) A) args s 0 0 A) D A 12 (rcells a cI cJ cZ σ) [(0, .ref (a 0)), (1, .int x1), (4, .int x4), (5, .int x5), (6, .int x6), (7, .int x7)] 123 [.int y0] := by
  unfold wX7_takes_123 at hw
  refine j_istore (pc := 123) (lv' := [(0, .ref (a 0)), (1, .int x1), (4, .int x4), (5, .int x5), (6, .int x6), (7, .int x7), (8, .int y0)]) C [1, 2, 3, 4, 5, 6, 0] dX7_takes_123 (by decide) rfl ?_
  refine j_iload (pc := 125) C dX7_takes_125 6 rfl ?_
  refine j_if_eq (pc := 127) C 152 dX7_takes_127 (by decide) (fun z_94 => ?_) (fun z_94 => ?_)
  · have hw := hw.1 z_94
    exact kX7_takes_152 C hr hG _ _ _ _ _ _ _ hw
  · have hw := hw.2 z_94
    refine j_aload_n (pc := 130) C dX7_takes_130 0 rfl rfl ?_
    refine j_get (ref := RX7) (pc := 131) C hiX7_takes 0 (r_at0 a cI cJ cZ σ) rfl 28 (by decide) lkX7_takes_69 (r_fl28 a σ) dX7_takes_131 ?_
    refine j_iload_n (pc := 134) C dX7_takes_134 1 rfl rfl ?_
    refine j_dup2 (pc := 135) C dX7_takes_135 rfl rfl ?_
    obtain ⟨h_95, hw⟩ := hw
    refine j_iald (pc := 136) C 16 0 (r_at28 a cI cJ cZ σ) rfl h_95 dX7_takes_136 ?_
    refine j_iconst (pc := 137) (v := 1) C dX7_takes_137 (by decide) ?_
    refine j_iadd (pc := 138) C dX7_takes_138 ?_
    refine j_topi (fun v_96 ev_96 => ?_)
    have hw := hw v_96 ev_96
    obtain ⟨h_97, hw⟩ := hw
    refine j_iast (pc := 139) C 16 0 (r_at28 a cI cJ cZ σ) rfl h_97 dX7_takes_139 (j_ws (r_s28 a cI cJ cZ σ x1.toNatClampNeg v_96) ?_)
    refine j_nmS (F := rcells a cI cJ cZ) (fun s_98 es_98 => ?_)
    have hw := hw s_98 es_98
    refine j_aload_n (pc := 140) C dX7_takes_140 0 rfl rfl ?_
    refine j_get (ref := RX7) (pc := 141) C hiX7_takes 0 (r_at0 a cI cJ cZ s_98) rfl 29 (by decide) lkX7_takes_72 (r_fl29 a s_98) dX7_takes_141 ?_
    refine j_iload_n (pc := 144) C dX7_takes_144 1 rfl rfl ?_
    refine j_aload_n (pc := 145) C dX7_takes_145 0 rfl rfl ?_
    refine j_get (ref := RX7) (pc := 146) C hiX7_takes 0 (r_at0 a cI cJ cZ s_98) rfl 25 (by decide) lkX7_takes_60 (r_fl25 a s_98) dX7_takes_146 ?_
    refine j_iload_n (pc := 149) C dX7_takes_149 1 rfl rfl ?_
    obtain ⟨h_99, hw⟩ := hw
    refine j_iald (pc := 150) C 13 0 (r_at25 a cI cJ cZ s_98) rfl h_99 dX7_takes_150 ?_
    refine j_topi (fun v_100 ev_100 => ?_)
    have hw := hw v_100 ev_100
    obtain ⟨h_101, hw⟩ := hw
    refine j_iast (pc := 151) C 17 0 (r_at29 a cI cJ cZ s_98) rfl h_101 dX7_takes_151 (j_ws (r_s29 a cI cJ cZ s_98 x1.toNatClampNeg v_100) ?_)
    refine j_nmS (F := rcells a cI cJ cZ) (fun s_102 es_102 => ?_)
    have hw := hw s_102 es_102
    exact kX7_takes_152 C hr hG _ _ _ _ _ _ _ hw
def wX7_takes_106 (N : Nat) (σ : jRS) (x1 : Int32) (x4 : Int32) (x5 : Int32) (x6 : Int32) (x7 : Int32) (y0 : Int32) (y1 : Int32) (post : jRS → Prop) : Prop := vp_in y1 2 ∧ ∀ s_104 : jRS, s_104 = rP σ 27 y1.toNatClampNeg y0 → vp_in x1 2 ∧ ((x5 < (s_104.1 29 x1.toNatClampNeg)) → (wX7_takes_123 N s_104 x1 x4 x5 x6 x7 0 post)) ∧ ((¬ x5 < (s_104.1 29 x1.toNatClampNeg)) → (wX7_takes_123 N s_104 x1 x4 x5 x6 x7 1 post))
set_option maxHeartbeats 4000000 in
set_option maxRecDepth 100000 in
theorem kX7_takes_106 {p : Program} {l : Launch} {e : Env} {s : State} {m : MethodId} {args : Array Value} {below : List Frame} {meth : Method} {c : Code} {D : va_G} {cI cJ cZ cO : ClassId} {a : Nat → Nat} {A : Nat → Prop} {N : Nat} {post : jRS → Prop} (C : jC p s m args meth c cX7_takes 12 yX7_takes.cls wsX7_takes D (jT cI cJ cZ cO) A) (hr : meth.sig.returnType = none) (hG : jG0 A s) (σ : jRS) (x1 : Int32) (x4 : Int32) (x5 : Int32) (x6 : Int32) (x7 : Int32) (y0 : Int32) (y1 : Int32) (hw : wX7_takes_106 N σ x1 x4 x5 x6 x7 y0 y1 post) : jJ p l e rmX7_takes s m args below meth c 0 0 (MQ below (va_Qv post (jE D (jT cI cJ cZ cO) A (rcells a cI cJ cZ)) A) args s 0 0 A) D A 12 (rcells a cI cJ cZ σ) [(0, .ref (a 0)), (1, .int x1), (4, .int x4), (5, .int x5), (6, .int x6), (7, .int x7)] 106 [.int y0, .int y1, .ref (a 27)] := by
  unfold wX7_takes_106 at hw
  obtain ⟨h_103, hw⟩ := hw
  refine j_iast (pc := 106) C 15 0 (r_at27 a cI cJ cZ σ) rfl h_103 dX7_takes_106 (j_ws (r_s27 a cI cJ cZ σ y1.toNatClampNeg y0) ?_)
  refine j_nmS (F := rcells a cI cJ cZ) (fun s_104 es_104 => ?_)
  have hw := hw s_104 es_104
  refine j_iload (pc := 107) C dX7_takes_107 3 rfl ?_
  refine j_aload_n (pc := 109) C dX7_takes_109 0 rfl rfl ?_
  refine j_get (ref := RX7) (pc := 110) C hiX7_takes 0 (r_at0 a cI cJ cZ s_104) rfl 29 (by decide) lkX7_takes_72 (r_fl29 a s_104) dX7_takes_110 ?_
  refine j_iload_n (pc := 113) C dX7_takes_113 1 rfl rfl ?_
  obtain ⟨h_105, hw⟩ := hw
  refine j_iald (pc := 114) C 17 0 (r_at29 a cI cJ cZ s_104) rfl h_105 dX7_takes_114 ?_
  refine j_icmp_lt (pc := 115) C 122 dX7_takes_115 (by decide) (fun z_106 => ?_) (fun z_106 => ?_)
  · have hw := hw.1 z_106
    refine j_iconst (pc := 122) (v := 0) C dX7_takes_122 (by decide) ?_
    exact kX7_takes_123 C hr hG _ _ _ _ _ _ _ hw
  · have hw := hw.2 z_106
    refine j_iconst (pc := 118) (v := 1) C dX7_takes_118 (by decide) ?_
    refine j_goto (pc := 119) C 123 dX7_takes_119 (by decide) ?_
    exact kX7_takes_123 C hr hG _ _ _ _ _ _ _ hw
def wX7_takes (N : Nat) (σ : jRS) (x1 : Int32) (x2 : Int32) (post : jRS → Prop) : Prop := ∀ x3_107 : Int32, x3_107 = (512 * x1) + x2 → vp_in x3_107 1024 ∧ ∀ x4_109 : Int32, x4_109 = σ.1 18 x3_107.toNatClampNeg → vp_in x3_107 1024 ∧ ∀ x5_111 : Int32, x5_111 = σ.1 19 x3_107.toNatClampNeg → vp_in x3_107 1024 ∧ ∀ x6_113 : Int32, x6_113 = σ.1 20 x3_107.toNatClampNeg → vp_in x3_107 1024 ∧ ∀ x7_115 : Int32, x7_115 = σ.1 21 x3_107.toNatClampNeg → wX7_takesOff N σ x1 x2 (fun s_117 => ∀ v_118 : Int32, v_118 = (s_117.1 0 15) + 1 → ∀ s_119 : jRS, s_119 = rP s_117 0 15 v_118 → vp_in x1 2 ∧ ∀ v_121 : Int32, v_121 = (s_119.1 25 x1.toNatClampNeg) + 1 → vp_in x1 2 ∧ ∀ s_123 : jRS, s_123 = rP s_119 25 x1.toNatClampNeg v_121 → ∀ v_124 : Int32, v_124 = s_123.1 0 0 → vp_in x1 2 ∧ ∀ s_126 : jRS, s_126 = rP s_123 26 x1.toNatClampNeg v_124 → vp_in x1 2 ∧ vp_in x1 2 ∧ (((s_126.1 25 x1.toNatClampNeg) ≤ (s_126.1 27 x1.toNatClampNeg)) → (vp_in x1 2 ∧ wX7_takes_106 N s_126 x1 x4_109 x5_111 x6_113 x7_115 (s_126.1 27 x1.toNatClampNeg) x1 post)) ∧ ((¬ (s_126.1 25 x1.toNatClampNeg) ≤ (s_126.1 27 x1.toNatClampNeg)) → (wX7_takes_106 N s_126 x1 x4_109 x5_111 x6_113 x7_115 0 x1 post)))
set_option maxHeartbeats 4000000 in
set_option maxRecDepth 100000 in
theorem mX7_takes {l : Launch} {D : va_G} {cI cJ cZ cO : ClassId} {a : Nat → Nat} {N : Nat} {σ : jRS} {x1 x2 : Int32} {post : jRS → Prop} (hw : wX7_takes N σ x1 x2 post) : jMv l D (jT cI cJ cZ cO) jG0 yX7_takes wsX7_takes rmX7_takes [.ref (a 0), .int x1, .int x2] (rcells a cI cJ cZ σ) post (rcells a cI cJ cZ) 0 0 := by
  refine j_ofv (cc := cX7_takes) (maxL := 12) (ret := none) (by decide) rfl (Nat.le_of_ble_eq_true rfl) ?_
  intro p e s m args below meth c A C hr hnm hG
  refine j_sub (lv' := [(0, .ref (a 0)), (1, .int x1), (2, .int x2)]) [0, 1, 2] rfl ?_
  unfold wX7_takes at hw
  refine j_sipush (pc := 0) (v := 512) C dX7_takes_0 (by decide) ?_
  refine j_iload_n (pc := 3) C dX7_takes_3 1 rfl rfl ?_
  refine j_imul (pc := 4) C dX7_takes_4 ?_
  refine j_iload_n (pc := 5) C dX7_takes_5 2 rfl rfl ?_
  refine j_iadd (pc := 6) C dX7_takes_6 ?_
  refine j_topi (fun x3_107 ex3_107 => ?_)
  have hw := hw x3_107 ex3_107
  refine j_istore_n (pc := 7) (lv' := [(0, .ref (a 0)), (1, .int x1), (2, .int x2), (3, .int x3_107)]) C [1, 2, 3, 0] dX7_takes_7 rfl (by decide) rfl ?_
  refine j_aload_n (pc := 8) C dX7_takes_8 0 rfl rfl ?_
  refine j_get (ref := RX7) (pc := 9) C hiX7_takes 0 (r_at0 a cI cJ cZ σ) rfl 18 (by decide) lkX7_takes_38 (r_fl18 a σ) dX7_takes_9 ?_
  refine j_iload_n (pc := 12) C dX7_takes_12 3 rfl rfl ?_
  obtain ⟨h_108, hw⟩ := hw
  refine j_iald (pc := 13) C 6 0 (r_at18 a cI cJ cZ σ) rfl h_108 dX7_takes_13 ?_
  refine j_topi (fun x4_109 ex4_109 => ?_)
  have hw := hw x4_109 ex4_109
  refine j_istore (pc := 14) (lv' := [(0, .ref (a 0)), (1, .int x1), (2, .int x2), (3, .int x3_107), (4, .int x4_109)]) C [1, 2, 3, 4, 0] dX7_takes_14 (by decide) rfl ?_
  refine j_aload_n (pc := 16) C dX7_takes_16 0 rfl rfl ?_
  refine j_get (ref := RX7) (pc := 17) C hiX7_takes 0 (r_at0 a cI cJ cZ σ) rfl 19 (by decide) lkX7_takes_41 (r_fl19 a σ) dX7_takes_17 ?_
  refine j_iload_n (pc := 20) C dX7_takes_20 3 rfl rfl ?_
  obtain ⟨h_110, hw⟩ := hw
  refine j_iald (pc := 21) C 7 0 (r_at19 a cI cJ cZ σ) rfl h_110 dX7_takes_21 ?_
  refine j_topi (fun x5_111 ex5_111 => ?_)
  have hw := hw x5_111 ex5_111
  refine j_istore (pc := 22) (lv' := [(0, .ref (a 0)), (1, .int x1), (2, .int x2), (3, .int x3_107), (4, .int x4_109), (5, .int x5_111)]) C [1, 2, 3, 4, 5, 0] dX7_takes_22 (by decide) rfl ?_
  refine j_aload_n (pc := 24) C dX7_takes_24 0 rfl rfl ?_
  refine j_get (ref := RX7) (pc := 25) C hiX7_takes 0 (r_at0 a cI cJ cZ σ) rfl 20 (by decide) lkX7_takes_44 (r_fl20 a σ) dX7_takes_25 ?_
  refine j_iload_n (pc := 28) C dX7_takes_28 3 rfl rfl ?_
  obtain ⟨h_112, hw⟩ := hw
  refine j_iald (pc := 29) C 8 0 (r_at20 a cI cJ cZ σ) rfl h_112 dX7_takes_29 ?_
  refine j_topi (fun x6_113 ex6_113 => ?_)
  have hw := hw x6_113 ex6_113
  refine j_istore (pc := 30) (lv' := [(0, .ref (a 0)), (1, .int x1), (2, .int x2), (3, .int x3_107), (4, .int x4_109), (5, .int x5_111), (6, .int x6_113)]) C [1, 2, 3, 4, 5, 6, 0] dX7_takes_30 (by decide) rfl ?_
  refine j_aload_n (pc := 32) C dX7_takes_32 0 rfl rfl ?_
  refine j_get (ref := RX7) (pc := 33) C hiX7_takes 0 (r_at0 a cI cJ cZ σ) rfl 21 (by decide) lkX7_takes_47 (r_fl21 a σ) dX7_takes_33 ?_
  refine j_iload_n (pc := 36) C dX7_takes_36 3 rfl rfl ?_
  obtain ⟨h_114, hw⟩ := hw
  refine j_zald (pc := 37) C 9 2 (r_at21 a cI cJ cZ σ) rfl h_114 dX7_takes_37 ?_
  refine j_topi (fun x7_115 ex7_115 => ?_)
  have hw := hw x7_115 ex7_115
  refine j_istore (pc := 38) (lv' := [(0, .ref (a 0)), (1, .int x1), (2, .int x2), (3, .int x3_107), (4, .int x4_109), (5, .int x5_111), (6, .int x6_113), (7, .int x7_115)]) C [1, 2, 3, 4, 5, 6, 7, 0] dX7_takes_38 (by decide) rfl ?_
  refine j_aload_n (pc := 40) C dX7_takes_40 0 rfl rfl ?_
  refine j_iload_n (pc := 41) C dX7_takes_41 1 rfl rfl ?_
  refine j_iload_n (pc := 42) C dX7_takes_42 2 rfl rfl ?_
  refine j_callv0 (pc := 43) C jG0_ok trivial 2 (mX7_takesOff hw) gX7_takes_X7_takesOff rfl rfl rfl (by decide +kernel) ⟨by decide, by decide⟩ 0 (r_at0 a cI cJ cZ σ) rfl rfl rfl (Nat.le_of_ble_eq_true rfl) dX7_takes_43 ⟨Nat.le_refl _, Nat.le_refl _⟩ (fun s_117 hw => ?_)
  refine j_aload_n (pc := 46) C dX7_takes_46 0 rfl rfl ?_
  refine j_dup (pc := 47) C dX7_takes_47 rfl ?_
  refine j_get (ref := RX7) (pc := 48) C hiX7_takes 0 (r_at0 a cI cJ cZ s_117) rfl 15 (by decide) lkX7_takes_233 (r_fl15 a s_117) dX7_takes_48 ?_
  refine j_iconst (pc := 51) (v := 1) C dX7_takes_51 (by decide) ?_
  refine j_iadd (pc := 52) C dX7_takes_52 ?_
  refine j_topi (fun v_118 ev_118 => ?_)
  have hw := hw v_118 ev_118
  refine j_put (pc := 53) C hiX7_takes tyX7 tyX7_ok nmX7 0 (r_at0 a cI cJ cZ s_117) rfl 15 (by decide) lkX7_takes_233 rfl rfl rfl (Nat.le_of_ble_eq_true rfl) dX7_takes_53 (j_ws (r_s0_15 a cI cJ cZ s_117 v_118) ?_)
  refine j_nmS (F := rcells a cI cJ cZ) (fun s_119 es_119 => ?_)
  have hw := hw s_119 es_119
  refine j_aload_n (pc := 56) C dX7_takes_56 0 rfl rfl ?_
  refine j_get (ref := RX7) (pc := 57) C hiX7_takes 0 (r_at0 a cI cJ cZ s_119) rfl 25 (by decide) lkX7_takes_60 (r_fl25 a s_119) dX7_takes_57 ?_
  refine j_iload_n (pc := 60) C dX7_takes_60 1 rfl rfl ?_
  refine j_dup2 (pc := 61) C dX7_takes_61 rfl rfl ?_
  obtain ⟨h_120, hw⟩ := hw
  refine j_iald (pc := 62) C 13 0 (r_at25 a cI cJ cZ s_119) rfl h_120 dX7_takes_62 ?_
  refine j_iconst (pc := 63) (v := 1) C dX7_takes_63 (by decide) ?_
  refine j_iadd (pc := 64) C dX7_takes_64 ?_
  refine j_topi (fun v_121 ev_121 => ?_)
  have hw := hw v_121 ev_121
  obtain ⟨h_122, hw⟩ := hw
  refine j_iast (pc := 65) C 13 0 (r_at25 a cI cJ cZ s_119) rfl h_122 dX7_takes_65 (j_ws (r_s25 a cI cJ cZ s_119 x1.toNatClampNeg v_121) ?_)
  refine j_nmS (F := rcells a cI cJ cZ) (fun s_123 es_123 => ?_)
  have hw := hw s_123 es_123
  refine j_aload_n (pc := 66) C dX7_takes_66 0 rfl rfl ?_
  refine j_get (ref := RX7) (pc := 67) C hiX7_takes 0 (r_at0 a cI cJ cZ s_123) rfl 26 (by decide) lkX7_takes_63 (r_fl26 a s_123) dX7_takes_67 ?_
  refine j_iload_n (pc := 70) C dX7_takes_70 1 rfl rfl ?_
  refine j_aload_n (pc := 71) C dX7_takes_71 0 rfl rfl ?_
  refine j_get (ref := RX7) (pc := 72) C hiX7_takes 0 (r_at0 a cI cJ cZ s_123) rfl 0 (by decide) lkX7_takes_146 (r_fl0 a s_123) dX7_takes_72 ?_
  refine j_topi (fun v_124 ev_124 => ?_)
  have hw := hw v_124 ev_124
  obtain ⟨h_125, hw⟩ := hw
  refine j_iast (pc := 75) C 14 0 (r_at26 a cI cJ cZ s_123) rfl h_125 dX7_takes_75 (j_ws (r_s26 a cI cJ cZ s_123 x1.toNatClampNeg v_124) ?_)
  refine j_nmS (F := rcells a cI cJ cZ) (fun s_126 es_126 => ?_)
  have hw := hw s_126 es_126
  refine j_aload_n (pc := 76) C dX7_takes_76 0 rfl rfl ?_
  refine j_get (ref := RX7) (pc := 77) C hiX7_takes 0 (r_at0 a cI cJ cZ s_126) rfl 27 (by decide) lkX7_takes_66 (r_fl27 a s_126) dX7_takes_77 ?_
  refine j_iload_n (pc := 80) C dX7_takes_80 1 rfl rfl ?_
  refine j_aload_n (pc := 81) C dX7_takes_81 0 rfl rfl ?_
  refine j_get (ref := RX7) (pc := 82) C hiX7_takes 0 (r_at0 a cI cJ cZ s_126) rfl 25 (by decide) lkX7_takes_60 (r_fl25 a s_126) dX7_takes_82 ?_
  refine j_iload_n (pc := 85) C dX7_takes_85 1 rfl rfl ?_
  obtain ⟨h_127, hw⟩ := hw
  refine j_iald (pc := 86) C 13 0 (r_at25 a cI cJ cZ s_126) rfl h_127 dX7_takes_86 ?_
  refine j_aload_n (pc := 87) C dX7_takes_87 0 rfl rfl ?_
  refine j_get (ref := RX7) (pc := 88) C hiX7_takes 0 (r_at0 a cI cJ cZ s_126) rfl 27 (by decide) lkX7_takes_66 (r_fl27 a s_126) dX7_takes_88 ?_
  refine j_iload_n (pc := 91) C dX7_takes_91 1 rfl rfl ?_
  obtain ⟨h_128, hw⟩ := hw
  refine j_iald (pc := 92) C 15 0 (r_at27 a cI cJ cZ s_126) rfl h_128 dX7_takes_92 ?_
  refine j_icmp_le (pc := 93) C 100 dX7_takes_93 (by decide) (fun z_129 => ?_) (fun z_129 => ?_)
  · have hw := hw.1 z_129
    refine j_aload_n (pc := 100) C dX7_takes_100 0 rfl rfl ?_
    refine j_get (ref := RX7) (pc := 101) C hiX7_takes 0 (r_at0 a cI cJ cZ s_126) rfl 27 (by decide) lkX7_takes_66 (r_fl27 a s_126) dX7_takes_101 ?_
    refine j_iload_n (pc := 104) C dX7_takes_104 1 rfl rfl ?_
    obtain ⟨h_130, hw⟩ := hw
    refine j_iald (pc := 105) C 15 0 (r_at27 a cI cJ cZ s_126) rfl h_130 dX7_takes_105 ?_
    refine j_sub [0, 1, 4, 5, 6, 7] rfl ?_
    exact kX7_takes_106 C hr hG _ _ _ _ _ _ _ _ hw
  · have hw := hw.2 z_129
    refine j_iconst (pc := 96) (v := 0) C dX7_takes_96 (by decide) ?_
    refine j_goto (pc := 97) C 106 dX7_takes_97 (by decide) ?_
    refine j_sub [0, 1, 4, 5, 6, 7] rfl ?_
    exact kX7_takes_106 C hr hG _ _ _ _ _ _ _ _ hw

def rmX7_takesAll : Room := { frames := 4, cells := 0, slots := 0, locals := 99 }
theorem hiX7_takesAll : ∀ w ∈ u_ws RX7 TX7 50, w ∈ wsX7_takesAll := fun w h => List.mem_cons_of_mem _ (List.mem_append_right _ h)
theorem lkX7_takesAll_32 : Cond.fieldLink yX7_takesAll.cls 32 (TX7 16).1 (TX7 16).2.1 (TX7 16).2.2.1 ∈ wsX7_takesAll := by decide +kernel
theorem lkX7_takesAll_51 : Cond.fieldLink yX7_takesAll.cls 51 (TX7 22).1 (TX7 22).2.1 (TX7 22).2.2.1 ∈ wsX7_takesAll := by decide +kernel
theorem lkX7_takesAll_146 : Cond.fieldLink yX7_takesAll.cls 146 (TX7 0).1 (TX7 0).2.1 (TX7 0).2.2.1 ∈ wsX7_takesAll := by decide +kernel
def wX7_takesAll_2 (N : Nat) : Nat → jRS → Int32 → Int32 → (jRS → Prop) → Prop
  | 0, _, _, _, _ => False
  | n + 1, σ, x1, x2, post => vp_in x1 2 ∧ (((σ.1 16 x1.toNatClampNeg) ≤ x2) → (post σ)) ∧ ((¬ (σ.1 16 x1.toNatClampNeg) ≤ x2) → (vp_in ((512 * x1) + x2) 1024 ∧ ((¬ (σ.1 22 ((512 * x1) + x2).toNatClampNeg) = (σ.1 0 0)) → (∀ x2_12 : Int32, x2_12 = x2 + 1 → wX7_takesAll_2 N n σ x1 x2_12 post)) ∧ (((σ.1 22 ((512 * x1) + x2).toNatClampNeg) = (σ.1 0 0)) → (wX7_takes N σ x1 x2 (fun s_14 => wX7_takesAll_2 N n s_14 x1 x2 post)))))
set_option maxHeartbeats 4000000 in
set_option maxRecDepth 100000 in
theorem kX7_takesAll_2 {p : Program} {l : Launch} {e : Env} {s : State} {m : MethodId} {args : Array Value} {below : List Frame} {meth : Method} {c : Code} {D : va_G} {cI cJ cZ cO : ClassId} {a : Nat → Nat} {A : Nat → Prop} {N : Nat} {post : jRS → Prop} (C : jC p s m args meth c cX7_takesAll 3 yX7_takesAll.cls wsX7_takesAll D (jT cI cJ cZ cO) A) (hr : meth.sig.returnType = none) (hG : jG0 A s) : ∀ (n : Nat) (σ : jRS) (x1 : Int32) (x2 : Int32), wX7_takesAll_2 N n σ x1 x2 post → jJ p l e rmX7_takesAll s m args below meth c 0 0 (MQ below (va_Qv post (jE D (jT cI cJ cZ cO) A (rcells a cI cJ cZ)) A) args s 0 0 A) D A 3 (rcells a cI cJ cZ σ) [(0, .ref (a 0)), (1, .int x1), (2, .int x2)] 2 [] := by
  intro n
  induction n with
  | zero =>
    intro σ x1 x2 hw
    exact False.elim hw
  | succ n ih =>
    intro σ x1 x2 hw
    unfold wX7_takesAll_2 at hw
    refine j_iload_n (pc := 2) C dX7_takesAll_2 2 rfl rfl ?_
    refine j_aload_n (pc := 3) C dX7_takesAll_3 0 rfl rfl ?_
    refine j_get (ref := RX7) (pc := 4) C hiX7_takesAll 0 (r_at0 a cI cJ cZ σ) rfl 16 (by decide) lkX7_takesAll_32 (r_fl16 a σ) dX7_takesAll_4 ?_
    refine j_iload_n (pc := 7) C dX7_takesAll_7 1 rfl rfl ?_
    obtain ⟨h_8, hw⟩ := hw
    refine j_iald (pc := 8) C 4 0 (r_at16 a cI cJ cZ σ) rfl h_8 dX7_takesAll_8 ?_
    refine j_icmp_ge (pc := 9) C 46 dX7_takesAll_9 (by decide) (fun z_9 => ?_) (fun z_9 => ?_)
    · have hw := hw.1 z_9
      exact j_vret (pc := 46) C hr σ rfl hw dX7_takesAll_46
    · have hw := hw.2 z_9
      refine j_aload_n (pc := 12) C dX7_takesAll_12 0 rfl rfl ?_
      refine j_get (ref := RX7) (pc := 13) C hiX7_takesAll 0 (r_at0 a cI cJ cZ σ) rfl 22 (by decide) lkX7_takesAll_51 (r_fl22 a σ) dX7_takesAll_13 ?_
      refine j_sipush (pc := 16) (v := 512) C dX7_takesAll_16 (by decide) ?_
      refine j_iload_n (pc := 19) C dX7_takesAll_19 1 rfl rfl ?_
      refine j_imul (pc := 20) C dX7_takesAll_20 ?_
      refine j_iload_n (pc := 21) C dX7_takesAll_21 2 rfl rfl ?_
      refine j_iadd (pc := 22) C dX7_takesAll_22 ?_
      obtain ⟨h_10, hw⟩ := hw
      refine j_iald (pc := 23) C 10 0 (r_at22 a cI cJ cZ σ) rfl h_10 dX7_takesAll_23 ?_
      refine j_aload_n (pc := 24) C dX7_takesAll_24 0 rfl rfl ?_
      refine j_get (ref := RX7) (pc := 25) C hiX7_takesAll 0 (r_at0 a cI cJ cZ σ) rfl 0 (by decide) lkX7_takesAll_146 (r_fl0 a σ) dX7_takesAll_25 ?_
      refine j_icmp_ne (pc := 28) C 40 dX7_takesAll_28 (by decide) (fun z_11 => ?_) (fun z_11 => ?_)
      · have hw := hw.1 z_11
        obtain ⟨x2_12, ex2_12⟩ : ∃ y : Int32, y = x2 + 1 := ⟨_, rfl⟩
        have hw := hw x2_12 ex2_12
        refine j_iinc (pc := 40) (v := x2_12) (lv' := [(0, .ref (a 0)), (1, .int x1), (2, .int x2_12)]) C [1, 2, 0] 2 dX7_takesAll_40 rfl (by rw [ex2_12]; rfl) (by decide) rfl ?_
        refine j_goto (pc := 43) C 2 dX7_takesAll_43 (by decide) ?_
        exact ih _ _ _ hw
      · have hw := hw.2 z_11
        refine j_aload_n (pc := 31) C dX7_takesAll_31 0 rfl rfl ?_
        refine j_iload_n (pc := 32) C dX7_takesAll_32 1 rfl rfl ?_
        refine j_iload_n (pc := 33) C dX7_takesAll_33 2 rfl rfl ?_
        refine j_callv0 (pc := 34) C jG0_ok trivial 2 (mX7_takes hw) gX7_takesAll_X7_takes rfl rfl rfl (by decide +kernel) ⟨by decide, by decide⟩ 0 (r_at0 a cI cJ cZ σ) rfl rfl rfl (Nat.le_of_ble_eq_true rfl) dX7_takesAll_34 ⟨Nat.le_refl _, Nat.le_refl _⟩ (fun s_14 hw => ?_)
        refine j_goto (pc := 37) C 2 dX7_takesAll_37 (by decide) ?_
        exact ih _ _ _ hw
def wX7_takesAll (N : Nat) (σ : jRS) (x1 : Int32) (post : jRS → Prop) : Prop := wX7_takesAll_2 N N σ x1 0 post
set_option maxHeartbeats 4000000 in
set_option maxRecDepth 100000 in
theorem mX7_takesAll {l : Launch} {D : va_G} {cI cJ cZ cO : ClassId} {a : Nat → Nat} {N : Nat} {σ : jRS} {x1 : Int32} {post : jRS → Prop} (hw : wX7_takesAll N σ x1 post) : jMv l D (jT cI cJ cZ cO) jG0 yX7_takesAll wsX7_takesAll rmX7_takesAll [.ref (a 0), .int x1] (rcells a cI cJ cZ σ) post (rcells a cI cJ cZ) 0 0 := by
  refine j_ofv (cc := cX7_takesAll) (maxL := 3) (ret := none) (by decide) rfl (Nat.le_of_ble_eq_true rfl) ?_
  intro p e s m args below meth c A C hr hnm hG
  refine j_sub (lv' := [(0, .ref (a 0)), (1, .int x1)]) [0, 1] rfl ?_
  unfold wX7_takesAll at hw
  refine j_iconst (pc := 0) (v := 0) C dX7_takesAll_0 (by decide) ?_
  refine j_istore_n (pc := 1) (lv' := [(0, .ref (a 0)), (1, .int x1), (2, .int 0)]) C [1, 2, 0] dX7_takesAll_1 rfl (by decide) rfl ?_
  exact kX7_takesAll_2 C hr hG N _ _ _ hw

def rmX7_ticks : Room := { frames := 5, cells := 0, slots := 0, locals := 121 }
theorem hiX7_ticks : ∀ w ∈ u_ws RX7 TX7 50, w ∈ wsX7_ticks := fun w h => List.mem_cons_of_mem _ (List.mem_append_right _ h)
theorem lkX7_ticks_19 : Cond.fieldLink yX7_ticks.cls 19 (TX7 5).1 (TX7 5).2.1 (TX7 5).2.2.1 ∈ wsX7_ticks := by decide +kernel
theorem lkX7_ticks_149 : Cond.fieldLink yX7_ticks.cls 149 (TX7 7).1 (TX7 7).2.1 (TX7 7).2.2.1 ∈ wsX7_ticks := by decide +kernel
theorem lkX7_ticks_146 : Cond.fieldLink yX7_ticks.cls 146 (TX7 0).1 (TX7 0).2.1 (TX7 0).2.2.1 ∈ wsX7_ticks := by decide +kernel
theorem lkX7_ticks_140 : Cond.fieldLink yX7_ticks.cls 140 (TX7 4).1 (TX7 4).2.1 (TX7 4).2.2.1 ∈ wsX7_ticks := by decide +kernel
theorem lkX7_ticks_255 : Cond.fieldLink yX7_ticks.cls 255 (TX7 12).1 (TX7 12).2.1 (TX7 12).2.2.1 ∈ wsX7_ticks := by decide +kernel
theorem lkX7_ticks_261 : Cond.fieldLink yX7_ticks.cls 261 (TX7 14).1 (TX7 14).2.1 (TX7 14).2.2.1 ∈ wsX7_ticks := by decide +kernel
def wX7_ticks_103 (N : Nat) (σ : jRS) (y0 : Int32) (y1 : Int32) (post : jRS → Prop) : Prop := ∀ v_26 : Int32, v_26 = y1 + y0 → ∀ s_27 : jRS, s_27 = rP σ 0 14 v_26 → ∀ v_28 : Int32, v_28 = (s_27.1 0 0) + 1 → ∀ s_29 : jRS, s_29 = rP s_27 0 0 v_28 → post s_29
set_option maxHeartbeats 4000000 in
set_option maxRecDepth 100000 in
theorem kX7_ticks_103 {p : Program} {l : Launch} {e : Env} {s : State} {m : MethodId} {args : Array Value} {below : List Frame} {meth : Method} {c : Code} {D : va_G} {cI cJ cZ cO : ClassId} {a : Nat → Nat} {A : Nat → Prop} {N : Nat} {post : jRS → Prop} (C : jC p s m args meth c cX7_ticks 1 yX7_ticks.cls wsX7_ticks D (jT cI cJ cZ cO) A) (hr : meth.sig.returnType = none) (hG : jG0 A s) (σ : jRS) (y0 : Int32) (y1 : Int32) (hw : wX7_ticks_103 N σ y0 y1 post) : jJ p l e rmX7_ticks s m args below meth c 0 0 (MQ below (va_Qv post (jE D (jT cI cJ cZ cO) A (rcells a cI cJ cZ)) A) args s 0 0 A) D A 1 (rcells a cI cJ cZ σ) [(0, .ref (a 0))] 103 [.int y0, .int y1, .ref (a 0)] := by
  unfold wX7_ticks_103 at hw
  refine j_iadd (pc := 103) C dX7_ticks_103 ?_
  refine j_topi (fun v_26 ev_26 => ?_)
  have hw := hw v_26 ev_26
  refine j_put (pc := 104) C hiX7_ticks tyX7 tyX7_ok nmX7 0 (r_at0 a cI cJ cZ σ) rfl 14 (by decide) lkX7_ticks_261 rfl rfl rfl (Nat.le_of_ble_eq_true rfl) dX7_ticks_104 (j_ws (r_s0_14 a cI cJ cZ σ v_26) ?_)
  refine j_nmS (F := rcells a cI cJ cZ) (fun s_27 es_27 => ?_)
  have hw := hw s_27 es_27
  refine j_aload_n (pc := 107) C dX7_ticks_107 0 rfl rfl ?_
  refine j_dup (pc := 108) C dX7_ticks_108 rfl ?_
  refine j_get (ref := RX7) (pc := 109) C hiX7_ticks 0 (r_at0 a cI cJ cZ s_27) rfl 0 (by decide) lkX7_ticks_146 (r_fl0 a s_27) dX7_ticks_109 ?_
  refine j_iconst (pc := 112) (v := 1) C dX7_ticks_112 (by decide) ?_
  refine j_iadd (pc := 113) C dX7_ticks_113 ?_
  refine j_topi (fun v_28 ev_28 => ?_)
  have hw := hw v_28 ev_28
  refine j_put (pc := 114) C hiX7_ticks tyX7 tyX7_ok nmX7 0 (r_at0 a cI cJ cZ s_27) rfl 0 (by decide) lkX7_ticks_146 rfl rfl rfl (Nat.le_of_ble_eq_true rfl) dX7_ticks_114 (j_ws (r_s0_0 a cI cJ cZ s_27 v_28) ?_)
  refine j_nmS (F := rcells a cI cJ cZ) (fun s_29 es_29 => ?_)
  have hw := hw s_29 es_29
  exact j_vret (pc := 117) C hr s_29 rfl hw dX7_ticks_117
def wX7_ticks_75 (N : Nat) (σ : jRS)  (post : jRS → Prop) : Prop := wX7_sendsAll N σ 0 (fun s_31 => wX7_sendsAll N s_31 1 (fun s_33 => (((s_33.1 0 5) = 3) → (wX7_ticks_103 N s_33 0 (s_33.1 0 14) post)) ∧ ((¬ (s_33.1 0 5) = 3) → (wX7_ticks_103 N s_33 1 (s_33.1 0 14) post))))
set_option maxHeartbeats 4000000 in
set_option maxRecDepth 100000 in
theorem kX7_ticks_75 {p : Program} {l : Launch} {e : Env} {s : State} {m : MethodId} {args : Array Value} {below : List Frame} {meth : Method} {c : Code} {D : va_G} {cI cJ cZ cO : ClassId} {a : Nat → Nat} {A : Nat → Prop} {N : Nat} {post : jRS → Prop} (C : jC p s m args meth c cX7_ticks 1 yX7_ticks.cls wsX7_ticks D (jT cI cJ cZ cO) A) (hr : meth.sig.returnType = none) (hG : jG0 A s) (σ : jRS)  (hw : wX7_ticks_75 N σ post) : jJ p l e rmX7_ticks s m args below meth c 0 0 (MQ below (va_Qv post (jE D (jT cI cJ cZ cO) A (rcells a cI cJ cZ)) A) args s 0 0 A) D A 1 (rcells a cI cJ cZ σ) [(0, .ref (a 0))] 75 [] := by
  unfold wX7_ticks_75 at hw
  refine j_aload_n (pc := 75) C dX7_ticks_75 0 rfl rfl ?_
  refine j_iconst (pc := 76) (v := 0) C dX7_ticks_76 (by decide) ?_
  refine j_callv0 (pc := 77) C jG0_ok trivial 1 (mX7_sendsAll hw) gX7_ticks_X7_sendsAll rfl rfl rfl (by decide +kernel) ⟨by decide, by decide⟩ 0 (r_at0 a cI cJ cZ σ) rfl rfl rfl (Nat.le_of_ble_eq_true rfl) dX7_ticks_77 ⟨Nat.le_refl _, Nat.le_refl _⟩ (fun s_31 hw => ?_)
  refine j_aload_n (pc := 80) C dX7_ticks_80 0 rfl rfl ?_
  refine j_iconst (pc := 81) (v := 1) C dX7_ticks_81 (by decide) ?_
  refine j_callv0 (pc := 82) C jG0_ok trivial 1 (mX7_sendsAll hw) gX7_ticks_X7_sendsAll rfl rfl rfl (by decide +kernel) ⟨by decide, by decide⟩ 0 (r_at0 a cI cJ cZ s_31) rfl rfl rfl (Nat.le_of_ble_eq_true rfl) dX7_ticks_82 ⟨Nat.le_refl _, Nat.le_refl _⟩ (fun s_33 hw => ?_)
  refine j_aload_n (pc := 85) C dX7_ticks_85 0 rfl rfl ?_
  refine j_dup (pc := 86) C dX7_ticks_86 rfl ?_
  refine j_get (ref := RX7) (pc := 87) C hiX7_ticks 0 (r_at0 a cI cJ cZ s_33) rfl 14 (by decide) lkX7_ticks_261 (r_fl14 a s_33) dX7_ticks_87 ?_
  refine j_aload_n (pc := 90) C dX7_ticks_90 0 rfl rfl ?_
  refine j_get (ref := RX7) (pc := 91) C hiX7_ticks 0 (r_at0 a cI cJ cZ s_33) rfl 5 (by decide) lkX7_ticks_19 (r_fl5 a s_33) dX7_ticks_91 ?_
  refine j_iconst (pc := 94) (v := 3) C dX7_ticks_94 (by decide) ?_
  refine j_icmp_eq (pc := 95) C 102 dX7_ticks_95 (by decide) (fun z_34 => ?_) (fun z_34 => ?_)
  · have hw := hw.1 z_34
    refine j_iconst (pc := 102) (v := 0) C dX7_ticks_102 (by decide) ?_
    exact kX7_ticks_103 C hr hG _ _ _ hw
  · have hw := hw.2 z_34
    refine j_iconst (pc := 98) (v := 1) C dX7_ticks_98 (by decide) ?_
    refine j_goto (pc := 99) C 103 dX7_ticks_99 (by decide) ?_
    exact kX7_ticks_103 C hr hG _ _ _ hw
def wX7_ticks_71 (N : Nat) (σ : jRS) (y0 : Int32) (y1 : Int32) (post : jRS → Prop) : Prop := ∀ v_35 : Int32, v_35 = y1 + y0 → ∀ s_36 : jRS, s_36 = rP σ 0 12 v_35 → wX7_ticks_75 N s_36 post
set_option maxHeartbeats 4000000 in
set_option maxRecDepth 100000 in
theorem kX7_ticks_71 {p : Program} {l : Launch} {e : Env} {s : State} {m : MethodId} {args : Array Value} {below : List Frame} {meth : Method} {c : Code} {D : va_G} {cI cJ cZ cO : ClassId} {a : Nat → Nat} {A : Nat → Prop} {N : Nat} {post : jRS → Prop} (C : jC p s m args meth c cX7_ticks 1 yX7_ticks.cls wsX7_ticks D (jT cI cJ cZ cO) A) (hr : meth.sig.returnType = none) (hG : jG0 A s) (σ : jRS) (y0 : Int32) (y1 : Int32) (hw : wX7_ticks_71 N σ y0 y1 post) : jJ p l e rmX7_ticks s m args below meth c 0 0 (MQ below (va_Qv post (jE D (jT cI cJ cZ cO) A (rcells a cI cJ cZ)) A) args s 0 0 A) D A 1 (rcells a cI cJ cZ σ) [(0, .ref (a 0))] 71 [.int y0, .int y1, .ref (a 0)] := by
  unfold wX7_ticks_71 at hw
  refine j_iadd (pc := 71) C dX7_ticks_71 ?_
  refine j_topi (fun v_35 ev_35 => ?_)
  have hw := hw v_35 ev_35
  refine j_put (pc := 72) C hiX7_ticks tyX7 tyX7_ok nmX7 0 (r_at0 a cI cJ cZ σ) rfl 12 (by decide) lkX7_ticks_255 rfl rfl rfl (Nat.le_of_ble_eq_true rfl) dX7_ticks_72 (j_ws (r_s0_12 a cI cJ cZ σ v_35) ?_)
  refine j_nmS (F := rcells a cI cJ cZ) (fun s_36 es_36 => ?_)
  have hw := hw s_36 es_36
  exact kX7_ticks_75 C hr hG _ hw
def wX7_ticks_33 (N : Nat) (σ : jRS)  (post : jRS → Prop) : Prop := (((σ.1 0 4) ≤ 0) → (wX7_ticks_75 N σ post)) ∧ ((¬ (σ.1 0 4) ≤ 0) → ((¬ σ.1 0 4 = 0) ∧ ((¬ ((σ.1 0 0) - (σ.1 0 0) / (σ.1 0 4) * (σ.1 0 4)) = 0) → (wX7_ticks_75 N σ post)) ∧ ((((σ.1 0 0) - (σ.1 0 0) / (σ.1 0 4) * (σ.1 0 4)) = 0) → (wX7_comes N σ 2 0 (fun r_40 s_41 => ((r_40 = 0) → (wX7_ticks_71 N s_41 1 (σ.1 0 12) post)) ∧ ((¬ r_40 = 0) → (wX7_ticks_71 N s_41 0 (σ.1 0 12) post)))))))
set_option maxHeartbeats 4000000 in
set_option maxRecDepth 100000 in
theorem kX7_ticks_33 {p : Program} {l : Launch} {e : Env} {s : State} {m : MethodId} {args : Array Value} {below : List Frame} {meth : Method} {c : Code} {D : va_G} {cI cJ cZ cO : ClassId} {a : Nat → Nat} {A : Nat → Prop} {N : Nat} {post : jRS → Prop} (C : jC p s m args meth c cX7_ticks 1 yX7_ticks.cls wsX7_ticks D (jT cI cJ cZ cO) A) (hr : meth.sig.returnType = none) (hG : jG0 A s) (σ : jRS)  (hw : wX7_ticks_33 N σ post) : jJ p l e rmX7_ticks s m args below meth c 0 0 (MQ below (va_Qv post (jE D (jT cI cJ cZ cO) A (rcells a cI cJ cZ)) A) args s 0 0 A) D A 1 (rcells a cI cJ cZ σ) [(0, .ref (a 0))] 33 [] := by
  unfold wX7_ticks_33 at hw
  refine j_aload_n (pc := 33) C dX7_ticks_33 0 rfl rfl ?_
  refine j_get (ref := RX7) (pc := 34) C hiX7_ticks 0 (r_at0 a cI cJ cZ σ) rfl 4 (by decide) lkX7_ticks_140 (r_fl4 a σ) dX7_ticks_34 ?_
  refine j_if_le (pc := 37) C 75 dX7_ticks_37 (by decide) (fun z_37 => ?_) (fun z_37 => ?_)
  · have hw := hw.1 z_37
    exact kX7_ticks_75 C hr hG _ hw
  · have hw := hw.2 z_37
    refine j_aload_n (pc := 40) C dX7_ticks_40 0 rfl rfl ?_
    refine j_get (ref := RX7) (pc := 41) C hiX7_ticks 0 (r_at0 a cI cJ cZ σ) rfl 0 (by decide) lkX7_ticks_146 (r_fl0 a σ) dX7_ticks_41 ?_
    refine j_aload_n (pc := 44) C dX7_ticks_44 0 rfl rfl ?_
    refine j_get (ref := RX7) (pc := 45) C hiX7_ticks 0 (r_at0 a cI cJ cZ σ) rfl 4 (by decide) lkX7_ticks_140 (r_fl4 a σ) dX7_ticks_45 ?_
    obtain ⟨h_38, hw⟩ := hw
    refine j_irem (pc := 48) C dX7_ticks_48 h_38 ?_
    refine j_if_ne (pc := 49) C 75 dX7_ticks_49 (by decide) (fun z_39 => ?_) (fun z_39 => ?_)
    · have hw := hw.1 z_39
      exact kX7_ticks_75 C hr hG _ hw
    · have hw := hw.2 z_39
      refine j_aload_n (pc := 52) C dX7_ticks_52 0 rfl rfl ?_
      refine j_dup (pc := 53) C dX7_ticks_53 rfl ?_
      refine j_get (ref := RX7) (pc := 54) C hiX7_ticks 0 (r_at0 a cI cJ cZ σ) rfl 12 (by decide) lkX7_ticks_255 (r_fl12 a σ) dX7_ticks_54 ?_
      refine j_aload_n (pc := 57) C dX7_ticks_57 0 rfl rfl ?_
      refine j_iconst (pc := 58) (v := 2) C dX7_ticks_58 (by decide) ?_
      refine j_iconst (pc := 59) (v := 0) C dX7_ticks_59 (by decide) ?_
      refine j_calli0 (pc := 60) C jG0_ok trivial 2 (mX7_comes hw) gX7_ticks_X7_comes rfl rfl rfl (by decide +kernel) ⟨by decide, by decide⟩ 0 (r_at0 a cI cJ cZ σ) rfl rfl rfl (Nat.le_of_ble_eq_true rfl) dX7_ticks_60 ⟨Nat.le_refl _, Nat.le_refl _⟩ (fun r_40 s_41 hw => ?_)
      refine j_if_eq (pc := 63) C 70 dX7_ticks_63 (by decide) (fun z_42 => ?_) (fun z_42 => ?_)
      · have hw := hw.1 z_42
        refine j_iconst (pc := 70) (v := 1) C dX7_ticks_70 (by decide) ?_
        exact kX7_ticks_71 C hr hG _ _ _ hw
      · have hw := hw.2 z_42
        refine j_iconst (pc := 66) (v := 0) C dX7_ticks_66 (by decide) ?_
        refine j_goto (pc := 67) C 71 dX7_ticks_67 (by decide) ?_
        exact kX7_ticks_71 C hr hG _ _ _ hw
def wX7_ticks (N : Nat) (σ : jRS)  (post : jRS → Prop) : Prop := wX7_takesAll N σ 0 (fun s_44 => wX7_takesAll N s_44 1 (fun s_46 => (((s_46.1 0 5) = 3) → (wX7_ticks_33 N s_46 post)) ∧ ((¬ (s_46.1 0 5) = 3) → (((¬ (s_46.1 0 7) = (s_46.1 0 0)) → (wX7_ticks_33 N s_46 post)) ∧ (((s_46.1 0 7) = (s_46.1 0 0)) → (wX7_leaves N s_46 (fun s_50 => wX7_ticks_33 N s_50 post)))))))
set_option maxHeartbeats 4000000 in
set_option maxRecDepth 100000 in
theorem mX7_ticks {l : Launch} {D : va_G} {cI cJ cZ cO : ClassId} {a : Nat → Nat} {N : Nat} {σ : jRS}  {post : jRS → Prop} (hw : wX7_ticks N σ post) : jMv l D (jT cI cJ cZ cO) jG0 yX7_ticks wsX7_ticks rmX7_ticks [.ref (a 0)] (rcells a cI cJ cZ σ) post (rcells a cI cJ cZ) 0 0 := by
  refine j_ofv (cc := cX7_ticks) (maxL := 1) (ret := none) (by decide) rfl (Nat.le_of_ble_eq_true rfl) ?_
  intro p e s m args below meth c A C hr hnm hG
  refine j_sub (lv' := [(0, .ref (a 0))]) [0] rfl ?_
  unfold wX7_ticks at hw
  refine j_aload_n (pc := 0) C dX7_ticks_0 0 rfl rfl ?_
  refine j_iconst (pc := 1) (v := 0) C dX7_ticks_1 (by decide) ?_
  refine j_callv0 (pc := 2) C jG0_ok trivial 1 (mX7_takesAll hw) gX7_ticks_X7_takesAll rfl rfl rfl (by decide +kernel) ⟨by decide, by decide⟩ 0 (r_at0 a cI cJ cZ σ) rfl rfl rfl (Nat.le_of_ble_eq_true rfl) dX7_ticks_2 ⟨Nat.le_refl _, Nat.le_refl _⟩ (fun s_44 hw => ?_)
  refine j_aload_n (pc := 5) C dX7_ticks_5 0 rfl rfl ?_
  refine j_iconst (pc := 6) (v := 1) C dX7_ticks_6 (by decide) ?_
  refine j_callv0 (pc := 7) C jG0_ok trivial 1 (mX7_takesAll hw) gX7_ticks_X7_takesAll rfl rfl rfl (by decide +kernel) ⟨by decide, by decide⟩ 0 (r_at0 a cI cJ cZ s_44) rfl rfl rfl (Nat.le_of_ble_eq_true rfl) dX7_ticks_7 ⟨Nat.le_refl _, Nat.le_refl _⟩ (fun s_46 hw => ?_)
  refine j_aload_n (pc := 10) C dX7_ticks_10 0 rfl rfl ?_
  refine j_get (ref := RX7) (pc := 11) C hiX7_ticks 0 (r_at0 a cI cJ cZ s_46) rfl 5 (by decide) lkX7_ticks_19 (r_fl5 a s_46) dX7_ticks_11 ?_
  refine j_iconst (pc := 14) (v := 3) C dX7_ticks_14 (by decide) ?_
  refine j_icmp_eq (pc := 15) C 33 dX7_ticks_15 (by decide) (fun z_47 => ?_) (fun z_47 => ?_)
  · have hw := hw.1 z_47
    exact kX7_ticks_33 C hr hG _ hw
  · have hw := hw.2 z_47
    refine j_aload_n (pc := 18) C dX7_ticks_18 0 rfl rfl ?_
    refine j_get (ref := RX7) (pc := 19) C hiX7_ticks 0 (r_at0 a cI cJ cZ s_46) rfl 7 (by decide) lkX7_ticks_149 (r_fl7 a s_46) dX7_ticks_19 ?_
    refine j_aload_n (pc := 22) C dX7_ticks_22 0 rfl rfl ?_
    refine j_get (ref := RX7) (pc := 23) C hiX7_ticks 0 (r_at0 a cI cJ cZ s_46) rfl 0 (by decide) lkX7_ticks_146 (r_fl0 a s_46) dX7_ticks_23 ?_
    refine j_icmp_ne (pc := 26) C 33 dX7_ticks_26 (by decide) (fun z_48 => ?_) (fun z_48 => ?_)
    · have hw := hw.1 z_48
      exact kX7_ticks_33 C hr hG _ hw
    · have hw := hw.2 z_48
      refine j_aload_n (pc := 29) C dX7_ticks_29 0 rfl rfl ?_
      refine j_callv0 (pc := 30) C jG0_ok trivial 0 (mX7_leaves hw) gX7_ticks_X7_leaves rfl rfl rfl (by decide +kernel) ⟨by decide, by decide⟩ 0 (r_at0 a cI cJ cZ s_46) rfl rfl rfl (Nat.le_of_ble_eq_true rfl) dX7_ticks_30 ⟨Nat.le_refl _, Nat.le_refl _⟩ (fun s_50 hw => ?_)
      exact kX7_ticks_33 C hr hG _ hw

def rmX7_pass : Room := { frames := 6, cells := 0, slots := 0, locals := 141 }
theorem hiX7_pass : ∀ w ∈ u_ws RX7 TX7 50, w ∈ wsX7_pass := fun w h => List.mem_cons_of_mem _ (List.mem_append_right _ h)
theorem lkX7_pass_233 : Cond.fieldLink yX7_pass.cls 233 (TX7 15).1 (TX7 15).2.1 (TX7 15).2.2.1 ∈ wsX7_pass := by decide +kernel
def wX7_pass_21 (N : Nat) : Nat → jRS → Int32 → Int32 → Int32 → (Int32 → jRS → Prop) → Prop
  | 0, _, _, _, _, _ => False
  | n + 1, σ, x1, x2, x3, post => ((x1 ≤ x3) → (post ((σ.1 0 15) - x2) σ)) ∧ ((¬ x1 ≤ x3) → (wX7_ticks N σ (fun s_10 => ∀ x3_11 : Int32, x3_11 = x3 + 1 → wX7_pass_21 N n s_10 x1 x2 x3_11 post)))
set_option maxHeartbeats 4000000 in
set_option maxRecDepth 100000 in
theorem kX7_pass_21 {p : Program} {l : Launch} {e : Env} {s : State} {m : MethodId} {args : Array Value} {below : List Frame} {meth : Method} {c : Code} {D : va_G} {cI cJ cZ cO : ClassId} {a : Nat → Nat} {A : Nat → Prop} {N : Nat} {post : Int32 → jRS → Prop} (C : jC p s m args meth c cX7_pass 4 yX7_pass.cls wsX7_pass D (jT cI cJ cZ cO) A) (hr : meth.sig.returnType = (some .int)) (hG : jG0 A s) : ∀ (n : Nat) (σ : jRS) (x1 : Int32) (x2 : Int32) (x3 : Int32), wX7_pass_21 N n σ x1 x2 x3 post → jJ p l e rmX7_pass s m args below meth c 0 0 (MQ below (va_Qi post (jE D (jT cI cJ cZ cO) A (rcells a cI cJ cZ)) A) args s 0 0 A) D A 4 (rcells a cI cJ cZ σ) [(0, .ref (a 0)), (1, .int x1), (2, .int x2), (3, .int x3)] 21 [] := by
  intro n
  induction n with
  | zero =>
    intro σ x1 x2 x3 hw
    exact False.elim hw
  | succ n ih =>
    intro σ x1 x2 x3 hw
    unfold wX7_pass_21 at hw
    refine j_iload_n (pc := 21) C dX7_pass_21 3 rfl rfl ?_
    refine j_iload_n (pc := 22) C dX7_pass_22 1 rfl rfl ?_
    refine j_icmp_ge (pc := 23) C 36 dX7_pass_23 (by decide) (fun z_8 => ?_) (fun z_8 => ?_)
    · have hw := hw.1 z_8
      refine j_aload_n (pc := 36) C dX7_pass_36 0 rfl rfl ?_
      refine j_get (ref := RX7) (pc := 37) C hiX7_pass 0 (r_at0 a cI cJ cZ σ) rfl 15 (by decide) lkX7_pass_233 (r_fl15 a σ) dX7_pass_37 ?_
      refine j_iload_n (pc := 40) C dX7_pass_40 2 rfl rfl ?_
      refine j_isub (pc := 41) C dX7_pass_41 ?_
      exact j_iret (pc := 42) C hr σ rfl hw dX7_pass_42
    · have hw := hw.2 z_8
      refine j_aload_n (pc := 26) C dX7_pass_26 0 rfl rfl ?_
      refine j_callv0 (pc := 27) C jG0_ok trivial 0 (mX7_ticks hw) gX7_pass_X7_ticks rfl rfl rfl (by decide +kernel) ⟨by decide, by decide⟩ 0 (r_at0 a cI cJ cZ σ) rfl rfl rfl (Nat.le_of_ble_eq_true rfl) dX7_pass_27 ⟨Nat.le_refl _, Nat.le_refl _⟩ (fun s_10 hw => ?_)
      obtain ⟨x3_11, ex3_11⟩ : ∃ y : Int32, y = x3 + 1 := ⟨_, rfl⟩
      have hw := hw x3_11 ex3_11
      refine j_iinc (pc := 30) (v := x3_11) (lv' := [(0, .ref (a 0)), (1, .int x1), (2, .int x2), (3, .int x3_11)]) C [1, 2, 3, 0] 3 dX7_pass_30 rfl (by rw [ex3_11]; rfl) (by decide) rfl ?_
      refine j_goto (pc := 33) C 21 dX7_pass_33 (by decide) ?_
      exact ih _ _ _ _ hw
def wX7_pass (N : Nat) (σ : jRS) (x1 : Int32) (post : Int32 → jRS → Prop) : Prop := ∀ r_12 : Int32, r_12 = jwithin x1 1 2000 → ((¬ r_12 = 0) → (∀ x2_14 : Int32, x2_14 = σ.1 0 15 → wX7_pass_21 N N σ x1 x2_14 0 post)) ∧ ((r_12 = 0) → (post ((-2)) σ))
set_option maxHeartbeats 4000000 in
set_option maxRecDepth 100000 in
theorem mX7_pass {l : Launch} {D : va_G} {cI cJ cZ cO : ClassId} {a : Nat → Nat} {N : Nat} {σ : jRS} {x1 : Int32} {post : Int32 → jRS → Prop} (hw : wX7_pass N σ x1 post) : jMi l D (jT cI cJ cZ cO) jG0 yX7_pass wsX7_pass rmX7_pass [.ref (a 0), .int x1] (rcells a cI cJ cZ σ) post (rcells a cI cJ cZ) 0 0 := by
  refine j_ofi (cc := cX7_pass) (maxL := 4) (ret := (some .int)) (by decide) rfl (Nat.le_of_ble_eq_true rfl) ?_
  intro p e s m args below meth c A C hr hnm hG
  refine j_sub (lv' := [(0, .ref (a 0)), (1, .int x1)]) [0, 1] rfl ?_
  unfold wX7_pass at hw
  refine j_iload_n (pc := 0) C dX7_pass_0 1 rfl rfl ?_
  refine j_iconst (pc := 1) (v := 1) C dX7_pass_1 (by decide) ?_
  refine j_sipush (pc := 2) (v := 2000) C dX7_pass_2 (by decide) ?_
  refine j_scalli (pc := 5) C 3 (mX7_within x1 1 2000) gX7_pass_X7_within rfl rfl rfl (by decide +kernel) ⟨by decide, by decide⟩ rfl rfl (Nat.le_of_ble_eq_true rfl) dX7_pass_5 ⟨Nat.le_refl _, Nat.le_refl _⟩ (fun r_12 er_12 => ?_)
  have hw := hw r_12 er_12
  refine j_if_ne (pc := 8) C 14 dX7_pass_8 (by decide) (fun z_13 => ?_) (fun z_13 => ?_)
  · have hw := hw.1 z_13
    refine j_aload_n (pc := 14) C dX7_pass_14 0 rfl rfl ?_
    refine j_get (ref := RX7) (pc := 15) C hiX7_pass 0 (r_at0 a cI cJ cZ σ) rfl 15 (by decide) lkX7_pass_233 (r_fl15 a σ) dX7_pass_15 ?_
    refine j_topi (fun x2_14 ex2_14 => ?_)
    have hw := hw x2_14 ex2_14
    refine j_istore_n (pc := 18) (lv' := [(0, .ref (a 0)), (1, .int x1), (2, .int x2_14)]) C [1, 2, 0] dX7_pass_18 rfl (by decide) rfl ?_
    refine j_iconst (pc := 19) (v := 0) C dX7_pass_19 (by decide) ?_
    refine j_istore_n (pc := 20) (lv' := [(0, .ref (a 0)), (1, .int x1), (2, .int x2_14), (3, .int 0)]) C [1, 2, 3, 0] dX7_pass_20 rfl (by decide) rfl ?_
    exact kX7_pass_21 C hr hG N _ _ _ _ hw
  · have hw := hw.2 z_13
    refine j_bipush (pc := 11) (v := (-2)) C dX7_pass_11 (by decide) ?_
    exact j_iret (pc := 13) C hr σ rfl hw dX7_pass_13

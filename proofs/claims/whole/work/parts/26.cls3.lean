def rmX3_blank (B : Nat) : Room := { frames := 2, cells := B, slots := 8 * B, locals := 41 }
theorem hiX3_blank_X3 : ∀ w ∈ u_ws RX3 TX3 2, w ∈ wsX3_blank := by decide +kernel
theorem hiX3_blank_X2 : ∀ w ∈ u_ws RX2 TX2 8, w ∈ wsX3_blank := by decide +kernel
theorem lkX3_blank_17 : Cond.fieldLink yX3_blank.cls 17 (TX3 1).1 (TX3 1).2.1 (TX3 1).2.2.1 ∈ wsX3_blank := by decide +kernel
theorem lkX3_blank_11 : Cond.fieldLink yX3_blank.cls 11 (TX3 0).1 (TX3 0).2.1 (TX3 0).2.2.1 ∈ wsX3_blank := by decide +kernel
def wX3_blank_50 (N : Nat) (B fo : Nat) (a : jSS) (b : jGS) (nU : Nat)  (post : Option Nat → jSS → jGS → Prop) : Prop := vp_in (a.1 1 1) 262 ∧ ((a.2.2 (a.1 1 1).toNatClampNeg = none) → (post none a b)) ∧ (∀ q_20 : Nat, a.2.2 (a.1 1 1).toNatClampNeg = some q_20 → (post (some q_20) a b))
set_option maxHeartbeats 4000000 in
set_option maxRecDepth 100000 in
theorem kX3_blank_50 {p : Program} {l : Launch} {e : Env} {s : State} {m : MethodId} {args : Array Value} {below : List Frame} {meth : Method} {c : Code} {D : va_G} {cI cJ cZ cO : ClassId} {f : Nat → Nat} {h : Nat → Nat} {Y : va_W} {A : Nat → Prop} {N : Nat} {B : Nat} {post : Option Nat → jSS → jGS → Prop} (C : jC p s m args meth c cX3_blank 2 yX3_blank.cls wsX3_blank D (jT cI cJ cZ cO) A) (hr : meth.sig.returnType = (some (.object "ModelSender$Letter"))) (hG : gz A s) (a : jSS) (b : jGS) (nU : Nat)  (hB : nU ≤ B) (hw : wX3_blank_50 N B (f 0) a b nU post) : jJ p l e (rmX3_blank B) s m args below meth c nU (8 * nU) (MQ below (va_Qq (fun r (u : jSS × jGS) => post r u.1 u.2) (jE D (jT cI cJ cZ cO) A (bF f h cI cO Y)) A) args s B (8 * B) A) D A 2 (acells f cI cO (bY h cO Y b) a) [(0, .ref (f 1))] 50 [] := by
  unfold wX3_blank_50 at hw
  refine j_aload_n (pc := 50) C dX3_blank_50 0 rfl rfl ?_
  refine j_get (ref := RX3) (pc := 51) C hiX3_blank_X3 1 (c_at1 f cI cO (bY h cO Y b) a) rfl 0 (by decide) lkX3_blank_11 (c_fl1_0 f a) dX3_blank_51 ?_
  refine j_aload_n (pc := 54) C dX3_blank_54 0 rfl rfl ?_
  refine j_get (ref := RX3) (pc := 55) C hiX3_blank_X3 1 (c_at1 f cI cO (bY h cO Y b) a) rfl 1 (by decide) lkX3_blank_17 (c_fl1_1 f a) dX3_blank_55 ?_
  obtain ⟨h_18, hw⟩ := hw
  refine j_aald (pc := 58) C 9 3 (c_at9 f cI cO (bY h cO Y b) a) rfl h_18 dX3_blank_58 ?_
  refine j_opt (fun z_19 => ?_) (fun q_20 z_19 => ?_)
  · have hw := hw.1 z_19
    refine j_widen (k := B) (n := 8 * B) hB (Nat.mul_le_mul_left 8 hB) ?_
    exact j_aretN (pc := 59) C hr (a, b) rfl hw dX3_blank_59
  · have hw := hw.2 q_20 z_19
    refine j_widen (k := B) (n := 8 * B) hB (Nat.mul_le_mul_left 8 hB) ?_
    exact j_aret (pc := 59) C hr (a, b) rfl hw dX3_blank_59
def wX3_blank (N : Nat) (B fo : Nat) (a : jSS) (b : jGS) (nU : Nat)  (post : Option Nat → jSS → jGS → Prop) : Prop := (((a.1 1 1) < 0) → (post none a b)) ∧ ((¬ (a.1 1 1) < 0) → ((((a.1 1 1) < 262) → (vp_in (a.1 1 1) 262 ∧ ((a.2.2 (a.1 1 1).toNatClampNeg = none) → (nU + 1 ≤ B ∧ ∀ q_27 : Nat, q_27 ∉ gLP b → ∀ b_29 : jGS, b_29 = gNew b q_27 → q_27 ∈ gLP b_29 → wX2_init N fo a b_29 q_27 (fun b_31a b_31 => q_27 ∈ gLP b_31 ∧ vp_in (a.1 1 1) 262 ∧ ∀ a_34 : jSS, a_34 = aL b_31a (a.1 1 1).toNatClampNeg (some q_27) → wX3_blank_50 N B fo a_34 b_31 (nU + 1) post))) ∧ (∀ q_25 : Nat, a.2.2 (a.1 1 1).toNatClampNeg = some q_25 → (wX3_blank_50 N B fo a b nU post)))) ∧ ((¬ (a.1 1 1) < 262) → (post none a b))))
set_option maxHeartbeats 4000000 in
set_option maxRecDepth 100000 in
theorem mX3_blank {l : Launch} {D : va_G} {cI cJ cZ cO : ClassId} {f : Nat → Nat} {h : Nat → Nat} {Y : va_W} {N : Nat} {B : Nat} {a : jSS} {b : jGS}  {post : Option Nat → jSS → jGS → Prop} (hw : wX3_blank N B (f 0) a b 0 post) : jMq l D (jT cI cJ cZ cO) gz yX3_blank wsX3_blank (rmX3_blank B) [.ref (f 1), .ref (f 0)] (acells f cI cO (bY h cO Y b) a) (fun r (u : jSS × jGS) => post r u.1 u.2) (bF f h cI cO Y) B (8 * B) := by
  refine j_ofq (cc := cX3_blank) (maxL := 2) (ret := (some (.object "ModelSender$Letter"))) (by decide) rfl (Nat.le_of_ble_eq_true rfl) ?_
  intro p e s m args below meth c A C hr hnm hG
  have hB : 0 ≤ B := Nat.zero_le B
  refine j_sub (lv' := [(0, .ref (f 1)), (1, .ref (f 0))]) [0, 1] rfl ?_
  unfold wX3_blank at hw
  refine j_aload_n (pc := 0) C dX3_blank_0 0 rfl rfl ?_
  refine j_get (ref := RX3) (pc := 1) C hiX3_blank_X3 1 (c_at1 f cI cO (bY h cO Y b) a) rfl 1 (by decide) lkX3_blank_17 (c_fl1_1 f a) dX3_blank_1 ?_
  refine j_if_lt (pc := 4) C 19 dX3_blank_4 (by decide) (fun z_21 => ?_) (fun z_21 => ?_)
  · have hw := hw.1 z_21
    refine j_aconst_null (pc := 19) C dX3_blank_19 ?_
    refine j_widen (k := B) (n := 8 * B) hB (Nat.mul_le_mul_left 8 hB) ?_
    exact j_aretN (pc := 20) C hr (a, b) rfl hw dX3_blank_20
  · have hw := hw.2 z_21
    refine j_aload_n (pc := 7) C dX3_blank_7 0 rfl rfl ?_
    refine j_get (ref := RX3) (pc := 8) C hiX3_blank_X3 1 (c_at1 f cI cO (bY h cO Y b) a) rfl 1 (by decide) lkX3_blank_17 (c_fl1_1 f a) dX3_blank_8 ?_
    refine j_aload_n (pc := 11) C dX3_blank_11 0 rfl rfl ?_
    refine j_get (ref := RX3) (pc := 12) C hiX3_blank_X3 1 (c_at1 f cI cO (bY h cO Y b) a) rfl 0 (by decide) lkX3_blank_11 (c_fl1_0 f a) dX3_blank_12 ?_
    refine j_alen (pc := 15) (v := 262) C 9 3 (c_at9 f cI cO (bY h cO Y b) a) rfl rfl dX3_blank_15 ?_
    refine j_icmp_lt (pc := 16) C 21 dX3_blank_16 (by decide) (fun z_22 => ?_) (fun z_22 => ?_)
    · have hw := hw.1 z_22
      refine j_aload_n (pc := 21) C dX3_blank_21 0 rfl rfl ?_
      refine j_get (ref := RX3) (pc := 22) C hiX3_blank_X3 1 (c_at1 f cI cO (bY h cO Y b) a) rfl 0 (by decide) lkX3_blank_11 (c_fl1_0 f a) dX3_blank_22 ?_
      refine j_aload_n (pc := 25) C dX3_blank_25 0 rfl rfl ?_
      refine j_get (ref := RX3) (pc := 26) C hiX3_blank_X3 1 (c_at1 f cI cO (bY h cO Y b) a) rfl 1 (by decide) lkX3_blank_17 (c_fl1_1 f a) dX3_blank_26 ?_
      obtain ⟨h_23, hw⟩ := hw
      refine j_aald (pc := 29) C 9 3 (c_at9 f cI cO (bY h cO Y b) a) rfl h_23 dX3_blank_29 ?_
      refine j_opt (fun z_24 => ?_) (fun q_25 z_24 => ?_)
      · have hw := hw.1 z_24
        refine j_ifnonnullN (pc := 30) C dX3_blank_30 ?_
        refine j_aload_n (pc := 33) C dX3_blank_33 0 rfl rfl ?_
        refine j_get (ref := RX3) (pc := 34) C hiX3_blank_X3 1 (c_at1 f cI cO (bY h cO Y b) a) rfl 0 (by decide) lkX3_blank_11 (c_fl1_0 f a) dX3_blank_34 ?_
        refine j_aload_n (pc := 37) C dX3_blank_37 0 rfl rfl ?_
        refine j_get (ref := RX3) (pc := 38) C hiX3_blank_X3 1 (c_at1 f cI cO (bY h cO Y b) a) rfl 1 (by decide) lkX3_blank_17 (c_fl1_1 f a) dX3_blank_38 ?_
        obtain ⟨h_26, hw⟩ := hw
        refine j_newL (pc := 41) C hiX3_blank_X2 (by decide +kernel) (by decide +kernel) (by decide +kernel) h_26 (by show 8 * 0 + 8 ≤ 8 * B; omega) dX3_blank_41 (fun q_27 hq_27 => ?_)
        refine j_eqc (k := 0 + 1) (n := 8 * (0 + 1)) rfl (by omega) ?_
        have hB : 0 + 1 ≤ B := h_26
        have hw := hw q_27 hq_27
        refine j_nmB (fun b_29 eb_29 => ?_)
        have hw := hw b_29 eb_29
        refine j_dup (pc := 44) C dX3_blank_44 rfl ?_
        refine j_aload_n (pc := 45) C dX3_blank_45 1 rfl rfl ?_
        have hq9 : q_27 ∈ gLP b_29 := by rw [eb_29]; exact List.mem_append_right _ (List.mem_singleton.mpr rfl)
        refine j_callI (pc := 46) C gz_ok hG 1 (mX2_init (f := f) (q0 := q_27) (hw hq9)) gX3_blank_X2_init rfl rfl rfl (by decide +kernel) (by decide +kernel) (by decide +kernel) rfl (by decide +kernel) ⟨Nat.le_of_ble_eq_true rfl, Nat.le_of_ble_eq_true rfl⟩ rfl rfl (Nat.le_of_ble_eq_true rfl) dX3_blank_46 ⟨hB, Nat.mul_le_mul_left 8 hB⟩ (fun b_31a b_31 hw => ?_)
        obtain ⟨h_32, hw⟩ := hw
        obtain ⟨h_33, hw⟩ := hw
        refine j_aast (pc := 49) C 9 3 (c_at9 f cI cO (bY h cO Y b_31) b_31a) rfl (c_poolv f h cI cO Y b_31a b_31 h_32) h_33 dX3_blank_49 (j_ws (c_s9 f cI cO (bY h cO Y b_31) b_31a (a.1 1 1).toNatClampNeg (some q_27)) ?_)
        refine j_nmA (fun a_34 ea_34 => ?_)
        have hw := hw a_34 ea_34
        refine j_sub [0] rfl ?_
        exact kX3_blank_50 C hr hG _ _ _ hB hw
      · have hw := hw.2 q_25 z_24
        refine j_ifnonnull (pc := 30) C 50 dX3_blank_30 (by decide) ?_
        refine j_sub [0] rfl ?_
        exact kX3_blank_50 C hr hG _ _ _ hB hw
    · have hw := hw.2 z_22
      refine j_aconst_null (pc := 19) C dX3_blank_19 ?_
      refine j_widen (k := B) (n := 8 * B) hB (Nat.mul_le_mul_left 8 hB) ?_
      exact j_aretN (pc := 20) C hr (a, b) rfl hw dX3_blank_20

def rmX5_sendOne (B : Nat) : Room := { frames := 3, cells := B, slots := 8 * B, locals := 62 }
theorem hiX5_sendOne_X5 : ∀ w ∈ u_ws RX5 TX5 16, w ∈ wsX5_sendOne := by decide +kernel
theorem hiX5_sendOne_X3 : ∀ w ∈ u_ws RX3 TX3 2, w ∈ wsX5_sendOne := by decide +kernel
theorem hiX5_sendOne_X2 : ∀ w ∈ u_ws RX2 TX2 8, w ∈ wsX5_sendOne := by decide +kernel
theorem lkX5_sendOne_12 : Cond.fieldLink yX5_sendOne.cls 12 (TX5 0).1 (TX5 0).2.1 (TX5 0).2.2.1 ∈ wsX5_sendOne := by decide +kernel
theorem lkX5_sendOne_67 : Cond.fieldLink yX5_sendOne.cls 67 (TX5 3).1 (TX5 3).2.1 (TX5 3).2.2.1 ∈ wsX5_sendOne := by decide +kernel
theorem lkX5_sendOne_81 : Cond.fieldLink yX5_sendOne.cls 81 (TX3 1).1 (TX3 1).2.1 (TX3 1).2.2.1 ∈ wsX5_sendOne := by decide +kernel
theorem lkX5_sendOne_98 : Cond.fieldLink yX5_sendOne.cls 98 (TX5 8).1 (TX5 8).2.1 (TX5 8).2.2.1 ∈ wsX5_sendOne := by decide +kernel
theorem lkX5_sendOne_101 : Cond.fieldLink yX5_sendOne.cls 101 (TX5 4).1 (TX5 4).2.1 (TX5 4).2.2.1 ∈ wsX5_sendOne := by decide +kernel
theorem lkX5_sendOne_104 : Cond.fieldLink yX5_sendOne.cls 104 (TX2 1).1 (TX2 1).2.1 (TX2 1).2.2.1 ∈ wsX5_sendOne := by decide +kernel
theorem lkX5_sendOne_109 : Cond.fieldLink yX5_sendOne.cls 109 (TX2 2).1 (TX2 2).2.1 (TX2 2).2.2.1 ∈ wsX5_sendOne := by decide +kernel
theorem lkX5_sendOne_78 : Cond.fieldLink yX5_sendOne.cls 78 (TX5 7).1 (TX5 7).2.1 (TX5 7).2.2.1 ∈ wsX5_sendOne := by decide +kernel
theorem lkX5_sendOne_110 : Cond.fieldLink yX5_sendOne.cls 110 (TX2 3).1 (TX2 3).2.1 (TX2 3).2.2.1 ∈ wsX5_sendOne := by decide +kernel
theorem lkX5_sendOne_111 : Cond.fieldLink yX5_sendOne.cls 111 (TX2 4).1 (TX2 4).2.1 (TX2 4).2.2.1 ∈ wsX5_sendOne := by decide +kernel
theorem lkX5_sendOne_87 : Cond.fieldLink yX5_sendOne.cls 87 (TX5 9).1 (TX5 9).2.1 (TX5 9).2.2.1 ∈ wsX5_sendOne := by decide +kernel
theorem lkX5_sendOne_112 : Cond.fieldLink yX5_sendOne.cls 112 (TX2 5).1 (TX2 5).2.1 (TX2 5).2.2.1 ∈ wsX5_sendOne := by decide +kernel
theorem lkX5_sendOne_116 : Cond.fieldLink yX5_sendOne.cls 116 (TX2 6).1 (TX2 6).2.1 (TX2 6).2.2.1 ∈ wsX5_sendOne := by decide +kernel
theorem lkX5_sendOne_128 : Cond.fieldLink yX5_sendOne.cls 128 (TX5 6).1 (TX5 6).2.1 (TX5 6).2.2.1 ∈ wsX5_sendOne := by decide +kernel
def wX5_sendOne_133 (N : Nat) (B fo : Nat) (a : jSS) (b : jGS) (nU : Nat) (x2 : Int32) (x4 : Int32) (post : Int32 → jSS → jGS → Prop) : Prop := wX5_putOffNext N a x2 (fun a_42 => (x4 = 0 ∨ x4 = 1) ∧ post x4 a_42 b)
set_option maxHeartbeats 4000000 in
set_option maxRecDepth 100000 in
theorem kX5_sendOne_133 {p : Program} {l : Launch} {e : Env} {s : State} {m : MethodId} {args : Array Value} {below : List Frame} {meth : Method} {c : Code} {D : va_G} {cI cJ cZ cO : ClassId} {f : Nat → Nat} {h : Nat → Nat} {Y : va_W} {A : Nat → Prop} {N : Nat} {B : Nat} {post : Int32 → jSS → jGS → Prop} (C : jC p s m args meth c cX5_sendOne 5 yX5_sendOne.cls wsX5_sendOne D (jT cI cJ cZ cO) A) (hr : meth.sig.returnType = (some .boolean)) (hG : gz A s) (a : jSS) (b : jGS) (nU : Nat) (x2 : Int32) (x4 : Int32) (hB : nU ≤ B) (hw : wX5_sendOne_133 N B (f 0) a b nU x2 x4 post) : jJ p l e (rmX5_sendOne B) s m args below meth c nU (8 * nU) (MQ below (va_Qi (fun r (u : jSS × jGS) => post r u.1 u.2) (jE D (jT cI cJ cZ cO) A (bF f h cI cO Y)) A) args s B (8 * B) A) D A 5 (acells f cI cO (bY h cO Y b) a) [(0, .ref (f 0)), (2, .int x2), (4, .int x4)] 133 [] := by
  unfold wX5_sendOne_133 at hw
  refine j_aload_n (pc := 133) C dX5_sendOne_133 0 rfl rfl ?_
  refine j_iload_n (pc := 134) C dX5_sendOne_134 1 rfl rfl ?_
  refine j_callv0 (pc := 135) C gz_ok hG 1 (mX5_putOffNext hw) gX5_sendOne_X5_putOffNext rfl rfl rfl (by decide +kernel) ⟨Nat.le_of_ble_eq_true rfl, Nat.le_of_ble_eq_true rfl⟩ 0 (c_at0 f cI cO (bY h cO Y b) a) rfl rfl rfl (Nat.le_of_ble_eq_true rfl) dX5_sendOne_135 ⟨hB, Nat.mul_le_mul_left 8 hB⟩ (fun a_42 hw => ?_)
  refine j_iload (pc := 138) C dX5_sendOne_138 2 rfl ?_
  refine j_widen (k := B) (n := 8 * B) hB (Nat.mul_le_mul_left 8 hB) ?_
  exact j_zret (pc := 140) C hr hw.1 (a_42, b) rfl hw.2 dX5_sendOne_140
def wX5_sendOne_82 (N : Nat) (B fo : Nat) (a : jSS) (b : jGS) (nU : Nat) (x2 : Int32) (x3 : Nat) (y0 : Int32) (y1 : Nat) (post : Int32 → jSS → jGS → Prop) : Prop := (y0 = 0 ∨ y0 = 1) ∧ y1 ∈ gLP b ∧ ∀ b_45 : jGS, b_45 = gFP b y1 5 y0 → x3 ∈ gLP b_45 ∧ ∀ b_47 : jGS, b_47 = gFP b_45 x3 6 0 → ∀ v_48 : Int32, v_48 = (a.1 0 4) + 1 → ∀ a_49 : jSS, a_49 = aP a 0 4 v_48 → wX1_admit N a_49 b_47 x3 x2 (fun r_50 a_51 b_52 => ((r_50 = 0) → (∀ v_54 : Int32, v_54 = (a_51.1 0 6) + 1 → ∀ a_55 : jSS, a_55 = aP a_51 0 6 v_54 → wX5_sendOne_133 N B fo a_55 b_52 nU x2 r_50 post)) ∧ ((¬ r_50 = 0) → (wX3_add N a_51 (fun a_57 => wX5_sendOne_133 N B fo a_57 b_52 nU x2 r_50 post))))
set_option maxHeartbeats 4000000 in
set_option maxRecDepth 100000 in
theorem kX5_sendOne_82 {p : Program} {l : Launch} {e : Env} {s : State} {m : MethodId} {args : Array Value} {below : List Frame} {meth : Method} {c : Code} {D : va_G} {cI cJ cZ cO : ClassId} {f : Nat → Nat} {h : Nat → Nat} {Y : va_W} {A : Nat → Prop} {N : Nat} {B : Nat} {post : Int32 → jSS → jGS → Prop} (C : jC p s m args meth c cX5_sendOne 5 yX5_sendOne.cls wsX5_sendOne D (jT cI cJ cZ cO) A) (hr : meth.sig.returnType = (some .boolean)) (hG : gz A s) (a : jSS) (b : jGS) (nU : Nat) (x2 : Int32) (x3 : Nat) (y0 : Int32) (y1 : Nat) (hB : nU ≤ B) (hw : wX5_sendOne_82 N B (f 0) a b nU x2 x3 y0 y1 post) : jJ p l e (rmX5_sendOne B) s m args below meth c nU (8 * nU) (MQ below (va_Qi (fun r (u : jSS × jGS) => post r u.1 u.2) (jE D (jT cI cJ cZ cO) A (bF f h cI cO Y)) A) args s B (8 * B) A) D A 5 (acells f cI cO (bY h cO Y b) a) [(0, .ref (f 0)), (1, .ref (h 0)), (2, .int x2), (3, .ref x3)] 82 [.int y0, .ref y1] := by
  unfold wX5_sendOne_82 at hw
  obtain ⟨h_43, hw⟩ := hw
  obtain ⟨h_44, hw⟩ := hw
  refine j_putL (pc := 82) C h_44 hiX5_sendOne_X2 5 (by decide) lkX5_sendOne_112 rfl (j_nb h_43).1 (j_nb h_43).2 (c_lset5 b y1 y0) rfl rfl dX5_sendOne_82 ?_
  refine j_nmB (fun b_45 eb_45 => ?_)
  have hw := hw b_45 eb_45
  refine j_aload_n (pc := 85) C dX5_sendOne_85 3 rfl rfl ?_
  refine j_iconst (pc := 86) (v := 0) C dX5_sendOne_86 (by decide) ?_
  obtain ⟨h_46, hw⟩ := hw
  refine j_putL (pc := 87) C h_46 hiX5_sendOne_X2 6 (by decide) lkX5_sendOne_116 rfl rfl rfl (c_lset6 b_45 x3 0) rfl rfl dX5_sendOne_87 ?_
  refine j_nmB (fun b_47 eb_47 => ?_)
  have hw := hw b_47 eb_47
  refine j_aload_n (pc := 90) C dX5_sendOne_90 0 rfl rfl ?_
  refine j_dup (pc := 91) C dX5_sendOne_91 rfl ?_
  refine j_get (ref := RX5) (pc := 92) C hiX5_sendOne_X5 0 (c_at0 f cI cO (bY h cO Y b_47) a) rfl 4 (by decide) lkX5_sendOne_101 (c_fl0_4 f a) dX5_sendOne_92 ?_
  refine j_iconst (pc := 95) (v := 1) C dX5_sendOne_95 (by decide) ?_
  refine j_iadd (pc := 96) C dX5_sendOne_96 ?_
  refine j_topi (fun v_48 ev_48 => ?_)
  have hw := hw v_48 ev_48
  refine j_put (pc := 97) C hiX5_sendOne_X5 tyX5 tyX5_ok nmX5 0 (c_at0 f cI cO (bY h cO Y b_47) a) rfl 4 (by decide) lkX5_sendOne_101 rfl rfl rfl (Nat.le_of_ble_eq_true rfl) dX5_sendOne_97 (j_ws (c_s0_4 f cI cO (bY h cO Y b_47) a v_48) ?_)
  refine j_nmA (fun a_49 ea_49 => ?_)
  have hw := hw a_49 ea_49
  refine j_aload_n (pc := 100) C dX5_sendOne_100 1 rfl rfl ?_
  refine j_aload_n (pc := 101) C dX5_sendOne_101 3 rfl rfl ?_
  refine j_iload_n (pc := 102) C dX5_sendOne_102 2 rfl rfl ?_
  refine j_calliB (pc := 103) C gz_ok hG 2 (mX1_admit hw) gX5_sendOne_X1_admit rfl rfl rfl (by decide +kernel) ⟨Nat.le_of_ble_eq_true rfl, Nat.le_of_ble_eq_true rfl⟩ 10 (c_at10 f h cI cO Y a_49 b_47) rfl rfl rfl (Nat.le_of_ble_eq_true rfl) dX5_sendOne_103 ⟨hB, Nat.mul_le_mul_left 8 hB⟩ (fun r_50 a_51 b_52 hw => ?_)
  refine j_istore (pc := 106) (lv' := [(0, .ref (f 0)), (1, .ref (h 0)), (2, .int x2), (3, .ref x3), (4, .int r_50)]) C [1, 2, 3, 4, 0] dX5_sendOne_106 (by decide) rfl ?_
  refine j_iload (pc := 108) C dX5_sendOne_108 4 rfl ?_
  refine j_if_eq (pc := 110) C 123 dX5_sendOne_110 (by decide) (fun z_53 => ?_) (fun z_53 => ?_)
  · have hw := hw.1 z_53
    refine j_aload_n (pc := 123) C dX5_sendOne_123 0 rfl rfl ?_
    refine j_dup (pc := 124) C dX5_sendOne_124 rfl ?_
    refine j_get (ref := RX5) (pc := 125) C hiX5_sendOne_X5 0 (c_at0 f cI cO (bY h cO Y b_52) a_51) rfl 6 (by decide) lkX5_sendOne_128 (c_fl0_6 f a_51) dX5_sendOne_125 ?_
    refine j_iconst (pc := 128) (v := 1) C dX5_sendOne_128 (by decide) ?_
    refine j_iadd (pc := 129) C dX5_sendOne_129 ?_
    refine j_topi (fun v_54 ev_54 => ?_)
    have hw := hw v_54 ev_54
    refine j_put (pc := 130) C hiX5_sendOne_X5 tyX5 tyX5_ok nmX5 0 (c_at0 f cI cO (bY h cO Y b_52) a_51) rfl 6 (by decide) lkX5_sendOne_128 rfl rfl rfl (Nat.le_of_ble_eq_true rfl) dX5_sendOne_130 (j_ws (c_s0_6 f cI cO (bY h cO Y b_52) a_51 v_54) ?_)
    refine j_nmA (fun a_55 ea_55 => ?_)
    have hw := hw a_55 ea_55
    refine j_sub [0, 2, 4] rfl ?_
    exact kX5_sendOne_133 C hr hG _ _ _ _ _ hB hw
  · have hw := hw.2 z_53
    refine j_aload_n (pc := 113) C dX5_sendOne_113 0 rfl rfl ?_
    refine j_get (ref := RX5) (pc := 114) C hiX5_sendOne_X5 0 (c_at0 f cI cO (bY h cO Y b_52) a_51) rfl 0 (by decide) lkX5_sendOne_12 (c_fl0_0 f a_51) dX5_sendOne_114 ?_
    refine j_callv0 (pc := 117) C gz_ok hG 0 (mX3_add hw) gX5_sendOne_X3_add rfl rfl rfl (by decide +kernel) ⟨Nat.le_of_ble_eq_true rfl, Nat.le_of_ble_eq_true rfl⟩ 1 (c_at1 f cI cO (bY h cO Y b_52) a_51) rfl rfl rfl (Nat.le_of_ble_eq_true rfl) dX5_sendOne_117 ⟨hB, Nat.mul_le_mul_left 8 hB⟩ (fun a_57 hw => ?_)
    refine j_goto (pc := 120) C 133 dX5_sendOne_120 (by decide) ?_
    refine j_sub [0, 2, 4] rfl ?_
    exact kX5_sendOne_133 C hr hG _ _ _ _ _ hB hw
def wX5_sendOne_40 (N : Nat) (B fo : Nat) (a : jSS) (b : jGS) (nU : Nat) (x2 : Int32) (x3 : Nat) (post : Int32 → jSS → jGS → Prop) : Prop := ∀ v_58 : Int32, v_58 = a.1 0 4 → x3 ∈ gLP b ∧ ∀ b_60 : jGS, b_60 = gFP b x3 1 v_58 → x3 ∈ gLP b_60 ∧ ∀ b_62 : jGS, b_62 = gFP b_60 x3 2 x2 → ∀ v_63 : Int32, v_63 = a.1 0 7 → x3 ∈ gLP b_62 ∧ ∀ b_65 : jGS, b_65 = gFP b_62 x3 3 v_63 → ∀ v_66 : Int32, v_66 = a.1 0 8 → x3 ∈ gLP b_65 ∧ ∀ b_68 : jGS, b_68 = gFP b_65 x3 4 v_66 → (((a.1 0 9) ≤ 0) → (wX5_sendOne_82 N B fo a b_68 nU x2 x3 0 x3 post)) ∧ ((¬ (a.1 0 9) ≤ 0) → (wX5_sendOne_82 N B fo a b_68 nU x2 x3 1 x3 post))
set_option maxHeartbeats 4000000 in
set_option maxRecDepth 100000 in
theorem kX5_sendOne_40 {p : Program} {l : Launch} {e : Env} {s : State} {m : MethodId} {args : Array Value} {below : List Frame} {meth : Method} {c : Code} {D : va_G} {cI cJ cZ cO : ClassId} {f : Nat → Nat} {h : Nat → Nat} {Y : va_W} {A : Nat → Prop} {N : Nat} {B : Nat} {post : Int32 → jSS → jGS → Prop} (C : jC p s m args meth c cX5_sendOne 5 yX5_sendOne.cls wsX5_sendOne D (jT cI cJ cZ cO) A) (hr : meth.sig.returnType = (some .boolean)) (hG : gz A s) (a : jSS) (b : jGS) (nU : Nat) (x2 : Int32) (x3 : Nat) (hB : nU ≤ B) (hw : wX5_sendOne_40 N B (f 0) a b nU x2 x3 post) : jJ p l e (rmX5_sendOne B) s m args below meth c nU (8 * nU) (MQ below (va_Qi (fun r (u : jSS × jGS) => post r u.1 u.2) (jE D (jT cI cJ cZ cO) A (bF f h cI cO Y)) A) args s B (8 * B) A) D A 5 (acells f cI cO (bY h cO Y b) a) [(0, .ref (f 0)), (1, .ref (h 0)), (2, .int x2), (3, .ref x3)] 40 [] := by
  unfold wX5_sendOne_40 at hw
  refine j_aload_n (pc := 40) C dX5_sendOne_40 3 rfl rfl ?_
  refine j_aload_n (pc := 41) C dX5_sendOne_41 0 rfl rfl ?_
  refine j_get (ref := RX5) (pc := 42) C hiX5_sendOne_X5 0 (c_at0 f cI cO (bY h cO Y b) a) rfl 4 (by decide) lkX5_sendOne_101 (c_fl0_4 f a) dX5_sendOne_42 ?_
  refine j_topi (fun v_58 ev_58 => ?_)
  have hw := hw v_58 ev_58
  obtain ⟨h_59, hw⟩ := hw
  refine j_putL (pc := 45) C h_59 hiX5_sendOne_X2 1 (by decide) lkX5_sendOne_104 rfl rfl rfl (c_lset1 b x3 v_58) rfl rfl dX5_sendOne_45 ?_
  refine j_nmB (fun b_60 eb_60 => ?_)
  have hw := hw b_60 eb_60
  refine j_aload_n (pc := 48) C dX5_sendOne_48 3 rfl rfl ?_
  refine j_iload_n (pc := 49) C dX5_sendOne_49 2 rfl rfl ?_
  obtain ⟨h_61, hw⟩ := hw
  refine j_putL (pc := 50) C h_61 hiX5_sendOne_X2 2 (by decide) lkX5_sendOne_109 rfl rfl rfl (c_lset2 b_60 x3 x2) rfl rfl dX5_sendOne_50 ?_
  refine j_nmB (fun b_62 eb_62 => ?_)
  have hw := hw b_62 eb_62
  refine j_aload_n (pc := 53) C dX5_sendOne_53 3 rfl rfl ?_
  refine j_aload_n (pc := 54) C dX5_sendOne_54 0 rfl rfl ?_
  refine j_get (ref := RX5) (pc := 55) C hiX5_sendOne_X5 0 (c_at0 f cI cO (bY h cO Y b_62) a) rfl 7 (by decide) lkX5_sendOne_78 (c_fl0_7 f a) dX5_sendOne_55 ?_
  refine j_topi (fun v_63 ev_63 => ?_)
  have hw := hw v_63 ev_63
  obtain ⟨h_64, hw⟩ := hw
  refine j_putL (pc := 58) C h_64 hiX5_sendOne_X2 3 (by decide) lkX5_sendOne_110 rfl rfl rfl (c_lset3 b_62 x3 v_63) rfl rfl dX5_sendOne_58 ?_
  refine j_nmB (fun b_65 eb_65 => ?_)
  have hw := hw b_65 eb_65
  refine j_aload_n (pc := 61) C dX5_sendOne_61 3 rfl rfl ?_
  refine j_aload_n (pc := 62) C dX5_sendOne_62 0 rfl rfl ?_
  refine j_get (ref := RX5) (pc := 63) C hiX5_sendOne_X5 0 (c_at0 f cI cO (bY h cO Y b_65) a) rfl 8 (by decide) lkX5_sendOne_98 (c_fl0_8 f a) dX5_sendOne_63 ?_
  refine j_topi (fun v_66 ev_66 => ?_)
  have hw := hw v_66 ev_66
  obtain ⟨h_67, hw⟩ := hw
  refine j_putL (pc := 66) C h_67 hiX5_sendOne_X2 4 (by decide) lkX5_sendOne_111 rfl rfl rfl (c_lset4 b_65 x3 v_66) rfl rfl dX5_sendOne_66 ?_
  refine j_nmB (fun b_68 eb_68 => ?_)
  have hw := hw b_68 eb_68
  refine j_aload_n (pc := 69) C dX5_sendOne_69 3 rfl rfl ?_
  refine j_aload_n (pc := 70) C dX5_sendOne_70 0 rfl rfl ?_
  refine j_get (ref := RX5) (pc := 71) C hiX5_sendOne_X5 0 (c_at0 f cI cO (bY h cO Y b_68) a) rfl 9 (by decide) lkX5_sendOne_87 (c_fl0_9 f a) dX5_sendOne_71 ?_
  refine j_if_le (pc := 74) C 81 dX5_sendOne_74 (by decide) (fun z_69 => ?_) (fun z_69 => ?_)
  · have hw := hw.1 z_69
    refine j_iconst (pc := 81) (v := 0) C dX5_sendOne_81 (by decide) ?_
    exact kX5_sendOne_82 C hr hG _ _ _ _ _ _ _ hB hw
  · have hw := hw.2 z_69
    refine j_iconst (pc := 77) (v := 1) C dX5_sendOne_77 (by decide) ?_
    refine j_goto (pc := 78) C 82 dX5_sendOne_78 (by decide) ?_
    exact kX5_sendOne_82 C hr hG _ _ _ _ _ _ _ hB hw
def wX5_sendOne (N : Nat) (B fo : Nat) (a : jSS) (b : jGS) (nU : Nat) (x2 : Int32) (post : Int32 → jSS → jGS → Prop) : Prop := ∃ k_73 : Nat, nU + k_73 ≤ B ∧ wX3_blank N k_73 fo a b 0 (fun r_70 a_71 b_72 => ((r_70 = none) → (post 0 a_71 b_72)) ∧ (∀ q_76 : Nat, r_70 = some q_76 → (∀ v_77 : Int32, v_77 = (a_71.1 0 3) - 1 → ∀ a_78 : jSS, a_78 = aP a_71 0 3 v_77 → ((¬ (a_78.1 1 1) = 0) → (wX5_sendOne_40 N B fo a_78 b_72 (nU + k_73) x2 q_76 post)) ∧ (((a_78.1 1 1) = 0) → (∀ a_80 : jSS, a_80 = aP a_78 0 8 x2 → wX5_sendOne_40 N B fo a_80 b_72 (nU + k_73) x2 q_76 post)))))
set_option maxHeartbeats 4000000 in
set_option maxRecDepth 100000 in
theorem mX5_sendOne {l : Launch} {D : va_G} {cI cJ cZ cO : ClassId} {f : Nat → Nat} {h : Nat → Nat} {Y : va_W} {N : Nat} {B : Nat} {a : jSS} {b : jGS} {x2 : Int32} {post : Int32 → jSS → jGS → Prop} (hw : wX5_sendOne N B (f 0) a b 0 x2 post) : jMi l D (jT cI cJ cZ cO) gz yX5_sendOne wsX5_sendOne (rmX5_sendOne B) [.ref (f 0), .ref (h 0), .int x2] (acells f cI cO (bY h cO Y b) a) (fun r (u : jSS × jGS) => post r u.1 u.2) (bF f h cI cO Y) B (8 * B) := by
  refine j_ofi (cc := cX5_sendOne) (maxL := 5) (ret := (some .boolean)) (by decide) rfl (Nat.le_of_ble_eq_true rfl) ?_
  intro p e s m args below meth c A C hr hnm hG
  have hB : 0 ≤ B := Nat.zero_le B
  refine j_sub (lv' := [(0, .ref (f 0)), (1, .ref (h 0)), (2, .int x2)]) [0, 1, 2] rfl ?_
  unfold wX5_sendOne at hw
  refine j_aload_n (pc := 0) C dX5_sendOne_0 0 rfl rfl ?_
  refine j_get (ref := RX5) (pc := 1) C hiX5_sendOne_X5 0 (c_at0 f cI cO (bY h cO Y b) a) rfl 0 (by decide) lkX5_sendOne_12 (c_fl0_0 f a) dX5_sendOne_1 ?_
  refine j_aload_n (pc := 4) C dX5_sendOne_4 0 rfl rfl ?_
  obtain ⟨k_73, h_74, hw⟩ := hw
  refine j_callqC (pc := 5) C gz_ok hG 1 (mX3_blank hw) gX5_sendOne_X3_blank rfl rfl rfl (by decide +kernel) ⟨Nat.le_of_ble_eq_true rfl, Nat.le_of_ble_eq_true rfl⟩ 1 (c_at1 f cI cO (bY h cO Y b) a) rfl rfl rfl (Nat.le_of_ble_eq_true rfl) dX5_sendOne_5 ⟨h_74, by show 8 * 0 + 8 * k_73 ≤ 8 * B; omega⟩ (fun r_70 a_71 b_72 hw => ?_)
  refine j_eqc (k := 0 + k_73) (n := 8 * (0 + k_73)) rfl (by omega) ?_
  have hB : 0 + k_73 ≤ B := h_74
  refine j_opt (fun z_75 => ?_) (fun q_76 z_75 => ?_)
  · have hw := hw.1 z_75
    refine j_astore_nN (pc := 8) (lv' := [(0, .ref (f 0)), (1, .ref (h 0)), (2, .int x2), (3, .null)]) C [1, 2, 3, 0] dX5_sendOne_8 rfl (by decide) rfl ?_
    refine j_aload_nN (pc := 9) C dX5_sendOne_9 3 rfl rfl ?_
    refine j_ifnonnullN (pc := 10) C dX5_sendOne_10 ?_
    refine j_iconst (pc := 13) (v := 0) C dX5_sendOne_13 (by decide) ?_
    refine j_widen (k := B) (n := 8 * B) hB (Nat.mul_le_mul_left 8 hB) ?_
    exact j_zret (pc := 14) C hr (by decide) (a_71, b_72) rfl hw dX5_sendOne_14
  · have hw := hw.2 q_76 z_75
    refine j_astore_n (pc := 8) (lv' := [(0, .ref (f 0)), (1, .ref (h 0)), (2, .int x2), (3, .ref q_76)]) C [1, 2, 3, 0] dX5_sendOne_8 rfl (by decide) rfl ?_
    refine j_aload_n (pc := 9) C dX5_sendOne_9 3 rfl rfl ?_
    refine j_ifnonnull (pc := 10) C 15 dX5_sendOne_10 (by decide) ?_
    refine j_aload_n (pc := 15) C dX5_sendOne_15 0 rfl rfl ?_
    refine j_dup (pc := 16) C dX5_sendOne_16 rfl ?_
    refine j_get (ref := RX5) (pc := 17) C hiX5_sendOne_X5 0 (c_at0 f cI cO (bY h cO Y b_72) a_71) rfl 3 (by decide) lkX5_sendOne_67 (c_fl0_3 f a_71) dX5_sendOne_17 ?_
    refine j_iconst (pc := 20) (v := 1) C dX5_sendOne_20 (by decide) ?_
    refine j_isub (pc := 21) C dX5_sendOne_21 ?_
    refine j_topi (fun v_77 ev_77 => ?_)
    have hw := hw v_77 ev_77
    refine j_put (pc := 22) C hiX5_sendOne_X5 tyX5 tyX5_ok nmX5 0 (c_at0 f cI cO (bY h cO Y b_72) a_71) rfl 3 (by decide) lkX5_sendOne_67 rfl rfl rfl (Nat.le_of_ble_eq_true rfl) dX5_sendOne_22 (j_ws (c_s0_3 f cI cO (bY h cO Y b_72) a_71 v_77) ?_)
    refine j_nmA (fun a_78 ea_78 => ?_)
    have hw := hw a_78 ea_78
    refine j_aload_n (pc := 25) C dX5_sendOne_25 0 rfl rfl ?_
    refine j_get (ref := RX5) (pc := 26) C hiX5_sendOne_X5 0 (c_at0 f cI cO (bY h cO Y b_72) a_78) rfl 0 (by decide) lkX5_sendOne_12 (c_fl0_0 f a_78) dX5_sendOne_26 ?_
    refine j_get (ref := RX3) (pc := 29) C hiX5_sendOne_X3 1 (c_at1 f cI cO (bY h cO Y b_72) a_78) rfl 1 (by decide) lkX5_sendOne_81 (c_fl1_1 f a_78) dX5_sendOne_29 ?_
    refine j_if_ne (pc := 32) C 40 dX5_sendOne_32 (by decide) (fun z_79 => ?_) (fun z_79 => ?_)
    · have hw := hw.1 z_79
      exact kX5_sendOne_40 C hr hG _ _ _ _ _ hB hw
    · have hw := hw.2 z_79
      refine j_aload_n (pc := 35) C dX5_sendOne_35 0 rfl rfl ?_
      refine j_iload_n (pc := 36) C dX5_sendOne_36 2 rfl rfl ?_
      refine j_put (pc := 37) C hiX5_sendOne_X5 tyX5 tyX5_ok nmX5 0 (c_at0 f cI cO (bY h cO Y b_72) a_78) rfl 8 (by decide) lkX5_sendOne_98 rfl rfl rfl (Nat.le_of_ble_eq_true rfl) dX5_sendOne_37 (j_ws (c_s0_8 f cI cO (bY h cO Y b_72) a_78 x2) ?_)
      refine j_nmA (fun a_80 ea_80 => ?_)
      have hw := hw a_80 ea_80
      exact kX5_sendOne_40 C hr hG _ _ _ _ _ hB hw

def rmX5_sendAll (B : Nat) : Room := { frames := 4, cells := B, slots := 8 * B, locals := 86 }
theorem hiX5_sendAll_X5 : ∀ w ∈ u_ws RX5 TX5 16, w ∈ wsX5_sendAll := by decide +kernel
theorem hiX5_sendAll_X3 : ∀ w ∈ u_ws RX3 TX3 2, w ∈ wsX5_sendAll := by decide +kernel
theorem lkX5_sendAll_67 : Cond.fieldLink yX5_sendAll.cls 67 (TX5 3).1 (TX5 3).2.1 (TX5 3).2.2.1 ∈ wsX5_sendAll := by decide +kernel
theorem lkX5_sendAll_78 : Cond.fieldLink yX5_sendAll.cls 78 (TX5 7).1 (TX5 7).2.1 (TX5 7).2.2.1 ∈ wsX5_sendAll := by decide +kernel
theorem lkX5_sendAll_12 : Cond.fieldLink yX5_sendAll.cls 12 (TX5 0).1 (TX5 0).2.1 (TX5 0).2.2.1 ∈ wsX5_sendAll := by decide +kernel
theorem lkX5_sendAll_81 : Cond.fieldLink yX5_sendAll.cls 81 (TX3 1).1 (TX3 1).2.1 (TX3 1).2.2.1 ∈ wsX5_sendAll := by decide +kernel
theorem lkX5_sendAll_87 : Cond.fieldLink yX5_sendAll.cls 87 (TX5 9).1 (TX5 9).2.1 (TX5 9).2.2.1 ∈ wsX5_sendAll := by decide +kernel
def wX5_sendAll_53 (N : Nat) (B fo : Nat) (a : jSS) (b : jGS) (nU : Nat) (x2 : Int32) (x3 : Int64) (post : jSS → jGS → Prop) : Prop := ((¬ (a.1 0 3) = 0) → (post a b)) ∧ (((a.1 0 3) = 0) → (wX5_isFree N a x3 x2 (fun r_22 a_23 => ((r_22 = 0) → (post a_23 b)) ∧ ((¬ r_22 = 0) → (∀ m_25 : Int32, m_25 = jmax 1 ((a_23.1 0 7) + (a_23.1 1 1)) → ∀ a_26 : jSS, a_26 = aP a_23 0 9 m_25 → post a_26 b)))))
set_option maxHeartbeats 4000000 in
set_option maxRecDepth 100000 in
theorem kX5_sendAll_53 {p : Program} {l : Launch} {e : Env} {s : State} {m : MethodId} {args : Array Value} {below : List Frame} {meth : Method} {c : Code} {D : va_G} {cI cJ cZ cO : ClassId} {f : Nat → Nat} {h : Nat → Nat} {Y : va_W} {A : Nat → Prop} {N : Nat} {B : Nat} {post : jSS → jGS → Prop} (C : jC p s m args meth c cX5_sendAll 7 yX5_sendAll.cls wsX5_sendAll D (jT cI cJ cZ cO) A) (hr : meth.sig.returnType = none) (hG : gz A s) (a : jSS) (b : jGS) (nU : Nat) (x2 : Int32) (x3 : Int64) (hB : nU ≤ B) (hw : wX5_sendAll_53 N B (f 0) a b nU x2 x3 post) : jJ p l e (rmX5_sendAll B) s m args below meth c nU (8 * nU) (MQ below (va_Qv (fun (u : jSS × jGS) => post u.1 u.2) (jE D (jT cI cJ cZ cO) A (bF f h cI cO Y)) A) args s B (8 * B) A) D A 7 (acells f cI cO (bY h cO Y b) a) [(0, .ref (f 0)), (2, .int x2), (3, .long x3)] 53 [] := by
  unfold wX5_sendAll_53 at hw
  refine j_aload_n (pc := 53) C dX5_sendAll_53 0 rfl rfl ?_
  refine j_get (ref := RX5) (pc := 54) C hiX5_sendAll_X5 0 (c_at0 f cI cO (bY h cO Y b) a) rfl 3 (by decide) lkX5_sendAll_67 (c_fl0_3 f a) dX5_sendAll_54 ?_
  refine j_if_ne (pc := 57) C 89 dX5_sendAll_57 (by decide) (fun z_21 => ?_) (fun z_21 => ?_)
  · have hw := hw.1 z_21
    refine j_widen (k := B) (n := 8 * B) hB (Nat.mul_le_mul_left 8 hB) ?_
    exact j_vret (pc := 89) C hr (a, b) rfl hw dX5_sendAll_89
  · have hw := hw.2 z_21
    refine j_aload_n (pc := 60) C dX5_sendAll_60 0 rfl rfl ?_
    refine j_lload_n (pc := 61) C dX5_sendAll_61 2 rfl rfl ?_
    refine j_iload_n (pc := 62) C dX5_sendAll_62 1 rfl rfl ?_
    refine j_calli0 (pc := 63) C gz_ok hG 2 (mX5_isFree hw) gX5_sendAll_X5_isFree rfl rfl rfl (by decide +kernel) ⟨Nat.le_of_ble_eq_true rfl, Nat.le_of_ble_eq_true rfl⟩ 0 (c_at0 f cI cO (bY h cO Y b) a) rfl rfl rfl (Nat.le_of_ble_eq_true rfl) dX5_sendAll_63 ⟨hB, Nat.mul_le_mul_left 8 hB⟩ (fun r_22 a_23 hw => ?_)
    refine j_if_eq (pc := 66) C 89 dX5_sendAll_66 (by decide) (fun z_24 => ?_) (fun z_24 => ?_)
    · have hw := hw.1 z_24
      refine j_widen (k := B) (n := 8 * B) hB (Nat.mul_le_mul_left 8 hB) ?_
      exact j_vret (pc := 89) C hr (a_23, b) rfl hw dX5_sendAll_89
    · have hw := hw.2 z_24
      refine j_aload_n (pc := 69) C dX5_sendAll_69 0 rfl rfl ?_
      refine j_iconst (pc := 70) (v := 1) C dX5_sendAll_70 (by decide) ?_
      refine j_aload_n (pc := 71) C dX5_sendAll_71 0 rfl rfl ?_
      refine j_get (ref := RX5) (pc := 72) C hiX5_sendAll_X5 0 (c_at0 f cI cO (bY h cO Y b) a_23) rfl 7 (by decide) lkX5_sendAll_78 (c_fl0_7 f a_23) dX5_sendAll_72 ?_
      refine j_aload_n (pc := 75) C dX5_sendAll_75 0 rfl rfl ?_
      refine j_get (ref := RX5) (pc := 76) C hiX5_sendAll_X5 0 (c_at0 f cI cO (bY h cO Y b) a_23) rfl 0 (by decide) lkX5_sendAll_12 (c_fl0_0 f a_23) dX5_sendAll_76 ?_
      refine j_get (ref := RX3) (pc := 79) C hiX5_sendAll_X3 1 (c_at1 f cI cO (bY h cO Y b) a_23) rfl 1 (by decide) lkX5_sendAll_81 (c_fl1_1 f a_23) dX5_sendAll_79 ?_
      refine j_iadd (pc := 82) C dX5_sendAll_82 ?_
      refine j_mmax (pc := 83) C ⟨by decide +kernel, by decide +kernel, by decide +kernel, by decide +kernel⟩ ⟨Nat.le_of_ble_eq_true rfl, Nat.le_of_ble_eq_true rfl⟩ ⟨hB, Nat.mul_le_mul_left 8 hB⟩ dX5_sendAll_83 ?_
      refine j_topi (fun m_25 em_25 => ?_)
      have hw := hw m_25 em_25
      refine j_put (pc := 86) C hiX5_sendAll_X5 tyX5 tyX5_ok nmX5 0 (c_at0 f cI cO (bY h cO Y b) a_23) rfl 9 (by decide) lkX5_sendAll_87 rfl rfl rfl (Nat.le_of_ble_eq_true rfl) dX5_sendAll_86 (j_ws (c_s0_9 f cI cO (bY h cO Y b) a_23 m_25) ?_)
      refine j_nmA (fun a_26 ea_26 => ?_)
      have hw := hw a_26 ea_26
      refine j_widen (k := B) (n := 8 * B) hB (Nat.mul_le_mul_left 8 hB) ?_
      exact j_vret (pc := 89) C hr (a_26, b) rfl hw dX5_sendAll_89
def wX5_sendAll_11 (N : Nat) (B fo : Nat) : Nat → jSS → jGS → Nat → Int32 → Int64 → Int32 → Int32 → (jSS → jGS → Prop) → Prop
  | 0, _, _, _, _, _, _, _, _ => False
  | n + 1, a, b, nU, x2, x3, x5, x6, post => ((8 ≤ x6) → (wX5_sendAll_53 N B fo a b nU x2 x3 post)) ∧ ((¬ 8 ≤ x6) → (((x5 = 0) → (wX5_sendAll_53 N B fo a b nU x2 x3 post)) ∧ ((¬ x5 = 0) → ((((a.1 0 3) ≤ 0) → (wX5_sendAll_53 N B fo a b nU x2 x3 post)) ∧ ((¬ (a.1 0 3) ≤ 0) → (wX5_isFree N a x3 x2 (fun r_30 a_31 => ((r_30 = 0) → (wX5_sendAll_53 N B fo a_31 b nU x2 x3 post)) ∧ ((¬ r_30 = 0) → (∃ k_36 : Nat, nU + k_36 ≤ B ∧ wX5_sendOne N k_36 fo a_31 b 0 x2 (fun r_33 a_34 b_35 => ∀ x6_38 : Int32, x6_38 = x6 + 1 → wX5_sendAll_11 N B fo n a_34 b_35 (nU + k_36) x2 x3 r_33 x6_38 post))))))))))
set_option maxHeartbeats 4000000 in
set_option maxRecDepth 100000 in
theorem kX5_sendAll_11 {p : Program} {l : Launch} {e : Env} {s : State} {m : MethodId} {args : Array Value} {below : List Frame} {meth : Method} {c : Code} {D : va_G} {cI cJ cZ cO : ClassId} {f : Nat → Nat} {h : Nat → Nat} {Y : va_W} {A : Nat → Prop} {N : Nat} {B : Nat} {post : jSS → jGS → Prop} (C : jC p s m args meth c cX5_sendAll 7 yX5_sendAll.cls wsX5_sendAll D (jT cI cJ cZ cO) A) (hr : meth.sig.returnType = none) (hG : gz A s) : ∀ (n : Nat) (a : jSS) (b : jGS) (nU : Nat) (x2 : Int32) (x3 : Int64) (x5 : Int32) (x6 : Int32)  (hB : nU ≤ B), wX5_sendAll_11 N B (f 0) n a b nU x2 x3 x5 x6 post → jJ p l e (rmX5_sendAll B) s m args below meth c nU (8 * nU) (MQ below (va_Qv (fun (u : jSS × jGS) => post u.1 u.2) (jE D (jT cI cJ cZ cO) A (bF f h cI cO Y)) A) args s B (8 * B) A) D A 7 (acells f cI cO (bY h cO Y b) a) [(0, .ref (f 0)), (1, .ref (h 0)), (2, .int x2), (3, .long x3), (5, .int x5), (6, .int x6)] 11 [] := by
  intro n
  induction n with
  | zero =>
    intro a b nU x2 x3 x5 x6 hB hw
    exact False.elim hw
  | succ n ih =>
    intro a b nU x2 x3 x5 x6 hB hw
    unfold wX5_sendAll_11 at hw
    refine j_iload (pc := 11) C dX5_sendAll_11 5 rfl ?_
    refine j_bipush (pc := 13) (v := 8) C dX5_sendAll_13 (by decide) ?_
    refine j_icmp_ge (pc := 15) C 53 dX5_sendAll_15 (by decide) (fun z_27 => ?_) (fun z_27 => ?_)
    · have hw := hw.1 z_27
      refine j_sub [0, 2, 3] rfl ?_
      exact kX5_sendAll_53 C hr hG _ _ _ _ _ hB hw
    · have hw := hw.2 z_27
      refine j_iload (pc := 18) C dX5_sendAll_18 4 rfl ?_
      refine j_if_eq (pc := 20) C 53 dX5_sendAll_20 (by decide) (fun z_28 => ?_) (fun z_28 => ?_)
      · have hw := hw.1 z_28
        refine j_sub [0, 2, 3] rfl ?_
        exact kX5_sendAll_53 C hr hG _ _ _ _ _ hB hw
      · have hw := hw.2 z_28
        refine j_aload_n (pc := 23) C dX5_sendAll_23 0 rfl rfl ?_
        refine j_get (ref := RX5) (pc := 24) C hiX5_sendAll_X5 0 (c_at0 f cI cO (bY h cO Y b) a) rfl 3 (by decide) lkX5_sendAll_67 (c_fl0_3 f a) dX5_sendAll_24 ?_
        refine j_if_le (pc := 27) C 53 dX5_sendAll_27 (by decide) (fun z_29 => ?_) (fun z_29 => ?_)
        · have hw := hw.1 z_29
          refine j_sub [0, 2, 3] rfl ?_
          exact kX5_sendAll_53 C hr hG _ _ _ _ _ hB hw
        · have hw := hw.2 z_29
          refine j_aload_n (pc := 30) C dX5_sendAll_30 0 rfl rfl ?_
          refine j_lload_n (pc := 31) C dX5_sendAll_31 3 rfl rfl ?_
          refine j_iload_n (pc := 32) C dX5_sendAll_32 2 rfl rfl ?_
          refine j_calli0 (pc := 33) C gz_ok hG 2 (mX5_isFree hw) gX5_sendAll_X5_isFree rfl rfl rfl (by decide +kernel) ⟨Nat.le_of_ble_eq_true rfl, Nat.le_of_ble_eq_true rfl⟩ 0 (c_at0 f cI cO (bY h cO Y b) a) rfl rfl rfl (Nat.le_of_ble_eq_true rfl) dX5_sendAll_33 ⟨hB, Nat.mul_le_mul_left 8 hB⟩ (fun r_30 a_31 hw => ?_)
          refine j_if_eq (pc := 36) C 53 dX5_sendAll_36 (by decide) (fun z_32 => ?_) (fun z_32 => ?_)
          · have hw := hw.1 z_32
            refine j_sub [0, 2, 3] rfl ?_
            exact kX5_sendAll_53 C hr hG _ _ _ _ _ hB hw
          · have hw := hw.2 z_32
            refine j_aload_n (pc := 39) C dX5_sendAll_39 0 rfl rfl ?_
            refine j_aload_n (pc := 40) C dX5_sendAll_40 1 rfl rfl ?_
            refine j_iload_n (pc := 41) C dX5_sendAll_41 2 rfl rfl ?_
            obtain ⟨k_36, h_37, hw⟩ := hw
            refine j_calliC (pc := 42) C gz_ok hG 2 (mX5_sendOne hw) gX5_sendAll_X5_sendOne rfl rfl rfl (by decide +kernel) ⟨Nat.le_of_ble_eq_true rfl, Nat.le_of_ble_eq_true rfl⟩ 0 (c_at0 f cI cO (bY h cO Y b) a_31) rfl rfl rfl (Nat.le_of_ble_eq_true rfl) dX5_sendAll_42 ⟨h_37, by show 8 * nU + 8 * k_36 ≤ 8 * B; omega⟩ (fun r_33 a_34 b_35 hw => ?_)
            refine j_eqc (k := nU + k_36) (n := 8 * (nU + k_36)) rfl (by omega) ?_
            have hB : nU + k_36 ≤ B := h_37
            refine j_istore (pc := 45) (lv' := [(0, .ref (f 0)), (1, .ref (h 0)), (2, .int x2), (3, .long x3), (5, .int r_33), (6, .int x6)]) C [1, 2, 3, 4, 0, 5] dX5_sendAll_45 (by decide) rfl ?_
            obtain ⟨x6_38, ex6_38⟩ : ∃ y : Int32, y = x6 + 1 := ⟨_, rfl⟩
            have hw := hw x6_38 ex6_38
            refine j_iinc (pc := 47) (v := x6_38) (lv' := [(0, .ref (f 0)), (1, .ref (h 0)), (2, .int x2), (3, .long x3), (5, .int r_33), (6, .int x6_38)]) C [1, 2, 3, 4, 5, 0] 5 dX5_sendAll_47 rfl (by rw [ex6_38]; rfl) (by decide) rfl ?_
            refine j_goto (pc := 50) C 11 dX5_sendAll_50 (by decide) ?_
            exact ih _ _ _ _ _ _ _ hB hw
def wX5_sendAll (N : Nat) (B fo : Nat) (a : jSS) (b : jGS) (nU : Nat) (x2 : Int32) (post : jSS → jGS → Prop) : Prop := wX5_window N a (fun r_39 a_40 => wX5_sendAll_11 N B fo N a_40 b nU x2 r_39 1 0 post)
set_option maxHeartbeats 4000000 in
set_option maxRecDepth 100000 in
theorem mX5_sendAll {l : Launch} {D : va_G} {cI cJ cZ cO : ClassId} {f : Nat → Nat} {h : Nat → Nat} {Y : va_W} {N : Nat} {B : Nat} {a : jSS} {b : jGS} {x2 : Int32} {post : jSS → jGS → Prop} (hw : wX5_sendAll N B (f 0) a b 0 x2 post) : jMv l D (jT cI cJ cZ cO) gz yX5_sendAll wsX5_sendAll (rmX5_sendAll B) [.ref (f 0), .ref (h 0), .int x2] (acells f cI cO (bY h cO Y b) a) (fun (u : jSS × jGS) => post u.1 u.2) (bF f h cI cO Y) B (8 * B) := by
  refine j_ofv (cc := cX5_sendAll) (maxL := 7) (ret := none) (by decide) rfl (Nat.le_of_ble_eq_true rfl) ?_
  intro p e s m args below meth c A C hr hnm hG
  have hB : 0 ≤ B := Nat.zero_le B
  refine j_sub (lv' := [(0, .ref (f 0)), (1, .ref (h 0)), (2, .int x2)]) [0, 1, 2] rfl ?_
  unfold wX5_sendAll at hw
  refine j_aload_n (pc := 0) C dX5_sendAll_0 0 rfl rfl ?_
  refine j_calll0 (pc := 1) C gz_ok hG 0 (mX5_window hw) gX5_sendAll_X5_window rfl rfl rfl (by decide +kernel) ⟨Nat.le_of_ble_eq_true rfl, Nat.le_of_ble_eq_true rfl⟩ 0 (c_at0 f cI cO (bY h cO Y b) a) rfl rfl rfl (Nat.le_of_ble_eq_true rfl) dX5_sendAll_1 ⟨hB, Nat.mul_le_mul_left 8 hB⟩ (fun r_39 a_40 hw => ?_)
  refine j_lstore_n (pc := 4) (lv' := [(0, .ref (f 0)), (1, .ref (h 0)), (2, .int x2), (3, .long r_39)]) C [1, 2, 3, 0] dX5_sendAll_4 rfl (by decide) rfl ?_
  refine j_iconst (pc := 5) (v := 1) C dX5_sendAll_5 (by decide) ?_
  refine j_istore (pc := 6) (lv' := [(0, .ref (f 0)), (1, .ref (h 0)), (2, .int x2), (3, .long r_39), (5, .int 1)]) C [1, 2, 3, 4, 0] dX5_sendAll_6 (by decide) rfl ?_
  refine j_iconst (pc := 8) (v := 0) C dX5_sendAll_8 (by decide) ?_
  refine j_istore (pc := 9) (lv' := [(0, .ref (f 0)), (1, .ref (h 0)), (2, .int x2), (3, .long r_39), (5, .int 1), (6, .int 0)]) C [1, 2, 3, 4, 5, 0] dX5_sendAll_9 (by decide) rfl ?_
  exact kX5_sendAll_11 C hr hG N _ _ _ _ _ _ _ hB hw

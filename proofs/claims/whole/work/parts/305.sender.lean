def rmX6_senderOf : Room := { frames := 0, cells := 0, slots := 0, locals := 0 }
theorem hiX6_senderOf_X6 : ∀ w ∈ u_ws RX6 TX6 6, w ∈ wsX6_senderOf := by decide +kernel
theorem lkX6_senderOf_25 : Cond.fieldLink yX6_senderOf.cls 25 (TX6 2).1 (TX6 2).2.1 (TX6 2).2.2.1 ∈ wsX6_senderOf := by decide +kernel
theorem lkX6_senderOf_21 : Cond.fieldLink yX6_senderOf.cls 21 (TX6 1).1 (TX6 1).2.1 (TX6 1).2.2.1 ∈ wsX6_senderOf := by decide +kernel
def wX6_senderOf (N : Nat) (fo0 fo1 gu : Nat) (x : jXS) (a0 a1 : jSS) (b : jGS) (x1 : Int32) (post : Option Nat → jXS → jSS → jSS → jGS → Prop) : Prop := ((¬ x1 = 0) → (((¬ x1 = 1) → (post none x a0 a1 b)) ∧ ((x1 = 1) → (post (some fo1) x a0 a1 b)))) ∧ ((x1 = 0) → (post (some fo0) x a0 a1 b))
set_option maxHeartbeats 4000000 in
set_option maxRecDepth 100000 in
theorem qX6_senderOf {l : Launch} {D : va_G} {cI cJ cZ cO : ClassId} {f0 f1 h : Nat → Nat} {ax : Nat} {N : Nat} {x : jXS} {a0 a1 : jSS} {b : jGS} {x1 : Int32} {post : Option Nat → jXS → jSS → jSS → jGS → Prop} (hw : wX6_senderOf N (f0 0) (f1 0) (h 2) x a0 a1 b x1 post) : jMq l D (jT cI cJ cZ cO) gz yX6_senderOf wsX6_senderOf rmX6_senderOf [.ref ax, .int x1] (acells f0 cI cO (bY h cO (scells f1 cI cO a1 ++ xcell h f0 f1 ax x) b) a0) (fun r (u : jMS) => post r u.1 u.2.1 u.2.2.1 u.2.2.2) (mF f0 f1 h ax cI cO) 0 0 := by
  refine j_ofq (cc := cX6_senderOf) (maxL := 2) (ret := (some (.object "ModelSender$Sender"))) (by decide) rfl (Nat.le_of_ble_eq_true rfl) ?_
  intro p e s m args below meth c A C hr hnm hG
  refine j_sub (lv' := [(0, .ref ax), (1, .int x1)]) [0, 1] rfl ?_
  unfold wX6_senderOf at hw
  refine j_iload_n (pc := 0) C dX6_senderOf_0 1 rfl rfl ?_
  refine j_if_ne (pc := 1) C 9 dX6_senderOf_1 (by decide) (fun z_3 => ?_) (fun z_3 => ?_)
  · have hw := hw.1 z_3
    refine j_iload_n (pc := 9) C dX6_senderOf_9 1 rfl rfl ?_
    refine j_iconst (pc := 10) (v := 1) C dX6_senderOf_10 (by decide) ?_
    refine j_icmp_ne (pc := 11) C 21 dX6_senderOf_11 (by decide) (fun z_4 => ?_) (fun z_4 => ?_)
    · have hw := hw.1 z_4
      refine j_aconst_null (pc := 21) C dX6_senderOf_21 ?_
      exact j_aretN (pc := 22) C hr (x, a0, a1, b) rfl hw dX6_senderOf_22
    · have hw := hw.2 z_4
      refine j_aload_n (pc := 14) C dX6_senderOf_14 0 rfl rfl ?_
      refine j_get (ref := RX6) (pc := 15) C hiX6_senderOf_X6 22 (e_at f0 f1 h f0 f1 ax cI cO a0 a1 x b) rfl 2 (by decide) lkX6_senderOf_25 (e_fl2 h f0 f1 x) dX6_senderOf_15 ?_
      refine j_goto (pc := 18) C 22 dX6_senderOf_18 (by decide) ?_
      exact j_aret (pc := 22) C hr (x, a0, a1, b) rfl hw dX6_senderOf_22
  · have hw := hw.2 z_3
    refine j_aload_n (pc := 4) C dX6_senderOf_4 0 rfl rfl ?_
    refine j_get (ref := RX6) (pc := 5) C hiX6_senderOf_X6 22 (e_at f0 f1 h f0 f1 ax cI cO a0 a1 x b) rfl 1 (by decide) lkX6_senderOf_21 (e_fl1 h f0 f1 x) dX6_senderOf_5 ?_
    exact j_aret (pc := 8) C hr (x, a0, a1, b) rfl hw dX6_senderOf_8
theorem mX6_senderOf {l : Launch} {D : va_G} {cI cJ cZ cO : ClassId} {f0 f1 h : Nat → Nat} {ax : Nat} {x : jXS} {a0 a1 : jSS} {b : jGS} {s0 : Int32} : jMq l D (jT cI cJ cZ cO) gz yX6_senderOf wsX6_senderOf rmX6_senderOf [.ref ax, .int s0] (acells f0 cI cO (bY h cO (scells f1 cI cO a1 ++ xcell h f0 f1 ax x) b) a0) (fun (r : Option Nat) (u : jMS) => u = (x, a0, a1, b) ∧ ((s0 = 0 ∧ r = some (f0 0)) ∨ (¬ s0 = 0 ∧ s0 = 1 ∧ r = some (f1 0)) ∨ (¬ s0 = 0 ∧ ¬ s0 = 1 ∧ r = none))) (mF f0 f1 h ax cI cO) 0 0 :=
  qX6_senderOf (N := 0) (post := fun r zx z0 z1 zb => (zx, z0, z1, zb) = (x, a0, a1, b) ∧ ((s0 = 0 ∧ r = some (f0 0)) ∨ (¬ s0 = 0 ∧ s0 = 1 ∧ r = some (f1 0)) ∨ (¬ s0 = 0 ∧ ¬ s0 = 1 ∧ r = none))) (by
    unfold wX6_senderOf
    by_cases h0 : s0 = 0
    · simp [h0]
    · by_cases h1 : s0 = 1
      · simp [h1]
      · simp [h0, h1])
section JR9
variable {p : Program} {l : Launch} {e : Env} {R : Room} {s : State} {m : MethodId} {args : Array Value} {below : List Frame} {meth : Method} {c : Code} {cells slots : Nat} {Q : State → Prop} {D : va_G} {A : Nat → Prop} {nL : Nat} {cc : ByteArray} {own : String} {Ts : List Cond} {tys : List (ClassId × FieldType)} {ws : va_W} {lv : List (Nat × Value)} {pc : Nat} {st : List Value}
variable {f0 f1 h : Nat → Nat} {ax : Nat} {cI cJ cZ cO : ClassId} {x : jXS} {a0 a1 : jSS} {b : jGS}
theorem j_senderOf (C : jC p s m args meth c cc nL own Ts D (jT cI cJ cZ cO) A) {s0 : Int32} (hGs : jG gz) (hg : gz A s) {idx : Nat} {T : u_T} {N ci : Nat} {fs : List Value} (hM : jMq l D (jT cI cJ cZ cO) gz yX6_senderOf wsX6_senderOf rmX6_senderOf [.ref ax, .int s0] (acells f0 cI cO (bY h cO (scells f1 cI cO a1 ++ xcell h f0 f1 ax x) b) a0) (fun (r : Option Nat) (u : jMS) => u = (x, a0, a1, b) ∧ ((s0 = 0 ∧ r = some (f0 0)) ∨ (¬ s0 = 0 ∧ s0 = 1 ∧ r = some (f1 0)) ∨ (¬ s0 = 0 ∧ ¬ s0 = 1 ∧ r = none))) (mF f0 f1 h ax cI cO) 0 0) (hT : GoodIn Ts (wsV own idx RX6 yX6_senderOf wsX6_senderOf))
    (hd : yX6_senderOf.cls = RX6 ∧ yX6_senderOf.cls ≠ "java/lang/invoke/MethodHandle" ∧ yX6_senderOf.cls ≠ "java/lang/invoke/VarHandle" ∧ (parseMethodDescriptor yX6_senderOf.desc).map (fun d => d.parameters.length) = some 1) (hR : rmX6_senderOf.frames + 1 ≤ R.frames ∧ 8 + (2 + 11) + rmX6_senderOf.locals ≤ R.locals)
    (q0 : Nat) (he : (acells f0 cI cO (bY h cO (scells f1 cI cO a1 ++ xcell h f0 f1 ax x) b) a0)[q0]? = some (ax, .inr (ci, fs))) (hc : vwCl[ci]? = some (RX6, T, N)) (hroom : (st.map fun v => v.category).sum ≤ 8) (hdg : decode cc pc = .ok (.invokevirtual idx, 3)) (hf : cells ≤ R.cells ∧ slots ≤ R.slots)
    (h0 : s0 = 0 → jJ p l e R s m args below meth c cells slots Q D A nL (acells f0 cI cO (bY h cO (scells f1 cI cO a1 ++ xcell h f0 f1 ax x) b) a0) lv (pc + 3) (.ref (f0 0) :: st)) (h1 : ¬ s0 = 0 → s0 = 1 → jJ p l e R s m args below meth c cells slots Q D A nL (acells f0 cI cO (bY h cO (scells f1 cI cO a1 ++ xcell h f0 f1 ax x) b) a0) lv (pc + 3) (.ref (f1 0) :: st)) (h2 : ¬ s0 = 0 → ¬ s0 = 1 → jJ p l e R s m args below meth c cells slots Q D A nL (acells f0 cI cO (bY h cO (scells f1 cI cO a1 ++ xcell h f0 f1 ax x) b) a0) lv (pc + 3) (.null :: st)) : jJ p l e R s m args below meth c cells slots Q D A nL (acells f0 cI cO (bY h cO (scells f1 cI cO a1 ++ xcell h f0 f1 ax x) b) a0) lv pc (.int s0 :: .ref ax :: st) := by
  refine j_callq0 (st0 := .int s0 :: .ref ax :: st) C hGs hg 1 hM hT rfl rfl rfl hd hR q0 he hc rfl rfl hroom hdg hf (fun r u hu => ?_)
  obtain ⟨hu, hr⟩ := hu
  subst hu
  rcases hr with ⟨z, hr⟩ | ⟨z, zz, hr⟩ | ⟨z, zz, hr⟩
  · subst hr; exact h0 z
  · subst hr; exact h1 z zz
  · subst hr; exact h2 z zz
end JR9

section JR7
variable {p : Program} {l : Launch} {e : Env} {R : Room} {s : State} {m : MethodId} {args : Array Value} {below : List Frame} {meth : Method} {c : Code} {cells slots : Nat} {Q : State → Prop} {D : va_G} {A : Nat → Prop} {nL : Nat} {cc : ByteArray} {own : String} {Ts : List Cond} {tys : List (ClassId × FieldType)} {ws : va_W} {lv : List (Nat × Value)} {pc : Nat} {st : List Value}
variable {f h : Nat → Nat} {cI cJ cZ cO : ClassId} {Y : va_W} {a : jSS} {b : jGS}
theorem j_objInit (C : jC p s m args meth c cc nL own Ts D tys A) {idx q : Nat} (hl : Cond.methodLink own idx objectInit ∈ Ts) (hi : Cond.instanceMethod objectInit ∈ Ts) (hc : Cond.code objectInit ⟨#[0xb1]⟩ 1 none ∈ Ts) (hdg : decode cc pc = .ok (.invokespecial idx, 3)) (hR : 1 ≤ R.frames ∧ (st.map fun v => v.category).sum + 12 ≤ R.locals) (h0 : jJ p l e R s m args below meth c cells slots Q D A nL ws lv (pc + 3) st) : jJ p l e R s m args below meth c cells slots Q D A nL ws lv pc (.ref q :: st) :=
  fun H locs ls hP hD hS hlv => W.objInit C.1.1 C.1.2.1 C.1.2.2.2.1 (C.1.2.2.2.2 _ hl) (C.1.2.2.2.2 _ hi) (C.1.2.2.2.2 _ hc) rfl (by show ls.size = c.maxLocals; rw [C.1.2.2.1]; exact hlv.1) rfl hdg hR.1 (by show 2 * 0 + _ + 12 ≤ _; rw [Nat.mul_zero, Nat.zero_add]; exact hR.2) (h0 H locs ls hP hD hS hlv)
theorem j_putLF (C : jC p s m args meth c cc nL own Ts D (jT cI cJ cZ cO) A) {q index x : Nat} (hq : q ∈ gLP b) (hin : ∀ w ∈ u_ws RX2 TX2 8, w ∈ Ts) (hw : Cond.fieldLink own index (TX2 0).1 (TX2 0).2.1 (TX2 0).2.2.1 ∈ Ts) (hnm : meth.name = "<init>") (hdecl : (TX2 0).1 = own) (hdg : decode cc pc = .ok (.putfield index, 3)) (h0 : jJ p l e R s m args below meth c cells slots Q D A nL (acells f cI cO (bY h cO Y (gOP b q (some x))) a) lv (pc + 3) st) : jJ p l e R s m args below meth c cells slots Q D A nL (acells f cI cO (bY h cO Y b) a) lv pc (.ref x :: .ref q :: st) := by
  obtain ⟨z, hz⟩ := c_pool f h cI cO Y a b hq
  intro H locs ls hP hD hS hl
  refine va_putF C.1.1 C.1.2.1 C.1.2.2.2.2 hin tyX2 tyX2_ok nmX2 C.1.2.2.2.1 C.2.1 hP hD hS z hz rfl 0 (by decide) (C.1.2.2.2.2 _ hw) (fun _ z => z) rfl hnm hdecl (tyX2_ok 0 (by decide)) rfl rfl (Nat.le_of_ble_eq_true rfl) hdg (fun H1 locs1 hP1 hD1 hS1 => ?_)
  have e := c_put hD hq hz (c_lsetO b q x) rfl rfl
  rw [e] at hP1 hD1
  exact h0 H1 locs1 ls hP1 hD1 hS1 hl
end JR7
/-! a new letter gets its owner -/
def rmX2_init : Room := { frames := 1, cells := 0, slots := 0, locals := 20 }
theorem hiX2_init_X2 : ∀ w ∈ u_ws RX2 TX2 8, w ∈ wsX2_init := by decide +kernel
def wX2_init (N : Nat) (fo : Nat) (a : jSS) (b : jGS) (q0 : Nat) (post : jSS → jGS → Prop) : Prop := q0 ∈ gLP b ∧ post a (gOP b q0 (some fo))
set_option maxHeartbeats 4000000 in
set_option maxRecDepth 100000 in
theorem mX2_init {l : Launch} {D : va_G} {cI cJ cZ cO : ClassId} {f h : Nat → Nat} {Y : va_W} {N : Nat} {a : jSS} {b : jGS} {q0 : Nat} {post : jSS → jGS → Prop} (hw : wX2_init N (f 0) a b q0 post) : jMv l D (jT cI cJ cZ cO) gz yX2_init wsX2_init rmX2_init [.ref q0, .ref (f 0)] (acells f cI cO (bY h cO Y b) a) (fun u : jSS × jGS => post u.1 u.2) (bF f h cI cO Y) 0 0 := by
  refine j_ofv (cc := cX2_init) (maxL := 2) (ret := none) (by decide) rfl (Nat.le_of_ble_eq_true rfl) ?_
  intro p e s m args below meth c A C hr hnm hG
  refine j_sub (lv' := [(0, .ref q0), (1, .ref (f 0))]) [0, 1] rfl ?_
  obtain ⟨hq, hw⟩ := hw
  refine j_aload_n (pc := 0) C dX2_init_0 0 rfl rfl ?_
  refine j_objInit (pc := 1) C (by decide +kernel) (by decide +kernel) (by decide +kernel) dX2_init_1 ⟨Nat.le_of_ble_eq_true rfl, Nat.le_of_ble_eq_true rfl⟩ ?_
  refine j_aload_n (pc := 4) C dX2_init_4 0 rfl rfl ?_
  refine j_aload_n (pc := 5) C dX2_init_5 1 rfl rfl ?_
  refine j_putLF (pc := 6) C hq hiX2_init_X2 (by decide +kernel) hnm rfl dX2_init_6 ?_
  exact j_vret (pc := 9) C hr (a, gOP b q0 (some (f 0))) rfl hw dX2_init_9

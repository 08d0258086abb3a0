/-! a method of the JDK whose class has native rows, but not this one -/
theorem met_ofWF {l : Launch} {y : MethodName} {ws ws' : List Cond} {rm : Room} {Pc : Array Value → State → Prop} {Qc : Array Value → State → Outcome → State → Prop} {mc ms : Nat} {free : Addr → Prop} {cc : ByteArray} {maxL : Nat} {ret : Option FieldType}
    (hy : plainFor y = true) (hw : ws = Cond.code y cc maxL ret :: ws')
    (body : ∀ p e s m args below meth c s₁, BodyLoose p l y (headSpec ws rm) cc maxL ret e s m args below meth c s₁ → c.maxLocals = maxL → Pc args s →
      W p l e (headSpec ws rm).room s m args below meth c s.heap [] 0 0 (MQ below Qc args s mc ms free) (entryFrame m args maxL)) : Met l y ws rm Pc Qc mc ms free := by
  refine MetFree.of_bodySF (code := cc) (maxLocals := maxL) (ret := ret) hy ?_ ?_
  · intro args s m h hn
    obtain ⟨meth, c, h1, h2, h3, h4, h5, h6, -, -⟩ := Cond.code_spec hn (atoms_spec (ws := ws) h _ (by rw [hw]; exact List.mem_cons_self))
    exact ⟨meth, c, h1, h2, h3, h4, h5, h6⟩
  · intro p e s m args below meth c s₁ B hml hP _
    have hh0 : s₁.heap = s.heap := by rw [B.state]; rfl
    obtain ⟨t, a1, o, b1, b2, b3⟩ := body p e s m args below meth c s₁ B hml hP s₁ hh0 (Stand.of_body B)
    exact ⟨t, o, a1, b1, b2, ⟨b3.1, b3.2⟩⟩
theorem j_ofiF {S : Type} {l : Launch} {D : va_G} {tys : List (ClassId × FieldType)} {G : (Nat → Prop) → State → Prop} {y : MethodName} {wy wy' : List Cond} {rm : Room} {cc : ByteArray} {maxL : Nat} {ret : Option FieldType} {av : List Value} {ws : va_W} {post : Int32 → S → Prop} {F : S → va_W} {mc ms : Nat} (hy : plainFor y = true) (hw : wy = Cond.code y cc maxL ret :: wy') (hlen : (lg_sl av).length ≤ maxL)
    (body : ∀ (p : Program) (e : Env) (s : State) (m : MethodId) (args : Array Value) (below : List Frame) (meth : Method) (c : Code) (A : Nat → Prop), jC p s m args meth c cc maxL y.cls wy D tys A → meth.sig.returnType = ret → meth.name = y.name → G A s → jJ p l e rm s m args below meth c 0 0 (MQ below (va_Qi post (jE D tys A F) A) args s mc ms A) D A maxL ws (lv_args 0 av) 0 []) : jMi l D tys G y wy rm av ws post F mc ms := by
  intro sz
  refine met_ofWF (cc := cc) (maxL := maxL) (ret := ret) hy hw ?_
  intro p e s m args below meth c s₁ B hml hv
  obtain ⟨rfl, rfl, hP, hK, hD0, hG⟩ := hv
  have h := body p e s m av.toArray below meth c (va_A ws s.heap.size) ⟨⟨B.exec, B.bytes, hml, findClass_of_methodNamed B.named, atoms_spec (ws := wy) B.pre⟩, hK, fun q h => Or.inr h, B.notSynchronized⟩ B.returns (name_of_methodNamed B.named B.method).1 hG
  rw [lg_entry_eq]
  exact h s.heap [] _ hP hD0.self va_S.rf (lv_entry av hlen)
/-! ===== static methods of ints alone ===== -/
def jwithin (v lo hi : Int32) : Int32 := if v < lo then 0 else if hi < v then 0 else 1
def jisSender (v : Int32) : Int32 := jwithin v 0 1
def jfloorMod (x y : Int32) : Int32 := if 0 ≤ (x ^^^ y) then x - x / y * y else if x - x / y * y = 0 then x - x / y * y else x - x / y * y + y
theorem jwithin_or (v lo hi : Int32) : jwithin v lo hi = 0 ∨ jwithin v lo hi = 1 := by
  unfold jwithin
  by_cases h1 : v < lo
  · simp [h1]
  · by_cases h2 : hi < v
    · simp [h1, h2]
    · simp [h1, h2]
def rmX7_within : Room := { frames := 0, cells := 0, slots := 0, locals := 0 }
def wX7_within (x0 : Int32) (x1 : Int32) (x2 : Int32) (post : Int32 → Unit → Prop) : Prop := ((x0 < x1) → (post 0 ())) ∧ ((¬ x0 < x1) → (((x2 < x0) → (post 0 ())) ∧ ((¬ x2 < x0) → (post 1 ()))))
set_option maxHeartbeats 4000000 in
set_option maxRecDepth 100000 in
theorem qX7_within {l : Launch} {D : va_G} {tys : List (ClassId × FieldType)} {x0 x1 x2 : Int32} {post : Int32 → Unit → Prop} (hw : wX7_within x0 x1 x2 post) : jMi l D tys jG0 yX7_within wsX7_within rmX7_within [.int x0, .int x1, .int x2] [] post (fun _ : Unit => []) 0 0 := by
  refine j_ofi (cc := cX7_within) (maxL := 3) (ret := (some .boolean)) (by decide) rfl (Nat.le_of_ble_eq_true rfl) ?_
  intro p e s m args below meth c A C hr hnm hG
  refine j_sub (lv' := [(0, .int x0), (1, .int x1), (2, .int x2)]) [0, 1, 2] rfl ?_
  unfold wX7_within at hw
  refine j_iload_n (pc := 0) C dX7_within_0 0 rfl rfl ?_
  refine j_iload_n (pc := 1) C dX7_within_1 1 rfl rfl ?_
  refine j_icmp_lt (pc := 2) C 14 dX7_within_2 (by decide) (fun z_1 => ?_) (fun z_1 => ?_)
  · have hw := hw.1 z_1
    refine j_iconst (pc := 14) (v := 0) C dX7_within_14 (by decide) ?_
    exact j_zret (pc := 15) C hr (by decide) () rfl hw dX7_within_15
  · have hw := hw.2 z_1
    refine j_iload_n (pc := 5) C dX7_within_5 0 rfl rfl ?_
    refine j_iload_n (pc := 6) C dX7_within_6 2 rfl rfl ?_
    refine j_icmp_gt (pc := 7) C 14 dX7_within_7 (by decide) (fun z_2 => ?_) (fun z_2 => ?_)
    · have hw := hw.1 z_2
      refine j_iconst (pc := 14) (v := 0) C dX7_within_14 (by decide) ?_
      exact j_zret (pc := 15) C hr (by decide) () rfl hw dX7_within_15
    · have hw := hw.2 z_2
      refine j_iconst (pc := 10) (v := 1) C dX7_within_10 (by decide) ?_
      refine j_goto (pc := 11) C 15 dX7_within_11 (by decide) ?_
      exact j_zret (pc := 15) C hr (by decide) () rfl hw dX7_within_15
theorem mX7_within {l : Launch} {D : va_G} {tys : List (ClassId × FieldType)} (x0 x1 x2 : Int32) : jMi l D tys jG0 yX7_within wsX7_within rmX7_within [.int x0, .int x1, .int x2] [] (fun r _ => r = jwithin x0 x1 x2) (fun _ : Unit => []) 0 0 :=
  qX7_within ⟨fun h => by simp [jwithin, h], fun h => ⟨fun h2 => by simp [jwithin, h, h2], fun h2 => by simp [jwithin, h, h2]⟩⟩
def rmX7_isSender : Room := { frames := 1, cells := 0, slots := 0, locals := 22 }
def wX7_isSender (x0 : Int32) (post : Int32 → Unit → Prop) : Prop := ∀ r_1 : Int32, r_1 = jwithin x0 0 1 → (r_1 = 0 ∨ r_1 = 1) ∧ post r_1 ()
set_option maxHeartbeats 4000000 in
set_option maxRecDepth 100000 in
theorem qX7_isSender {l : Launch} {D : va_G} {tys : List (ClassId × FieldType)} {x0 : Int32} {post : Int32 → Unit → Prop} (hw : wX7_isSender x0 post) : jMi l D tys jG0 yX7_isSender wsX7_isSender rmX7_isSender [.int x0] [] post (fun _ : Unit => []) 0 0 := by
  refine j_ofi (cc := cX7_isSender) (maxL := 1) (ret := (some .boolean)) (by decide) rfl (Nat.le_of_ble_eq_true rfl) ?_
  intro p e s m args below meth c A C hr hnm hG
  refine j_sub (lv' := [(0, .int x0)]) [0] rfl ?_
  unfold wX7_isSender at hw
  refine j_iload_n (pc := 0) C dX7_isSender_0 0 rfl rfl ?_
  refine j_iconst (pc := 1) (v := 0) C dX7_isSender_1 (by decide) ?_
  refine j_iconst (pc := 2) (v := 1) C dX7_isSender_2 (by decide) ?_
  refine j_scalli (pc := 3) C 3 (mX7_within x0 0 1) gX7_isSender_X7_within rfl rfl rfl (by decide +kernel) ⟨by decide, by decide⟩ rfl rfl (Nat.le_of_ble_eq_true rfl) dX7_isSender_3 ⟨Nat.le_refl _, Nat.le_refl _⟩ (fun r_1 er_1 => ?_)
  have hw := hw r_1 er_1
  exact j_zret (pc := 6) C hr hw.1 () rfl hw.2 dX7_isSender_6
theorem mX7_isSender {l : Launch} {D : va_G} {tys : List (ClassId × FieldType)} (x0 : Int32) : jMi l D tys jG0 yX7_isSender wsX7_isSender rmX7_isSender [.int x0] [] (fun r _ => r = jisSender x0) (fun _ : Unit => []) 0 0 :=
  qX7_isSender (fun r hr => ⟨by rw [hr]; exact jwithin_or _ _ _, hr⟩)
def rmX6_within : Room := { frames := 0, cells := 0, slots := 0, locals := 0 }
def wX6_within (x0 : Int32) (x1 : Int32) (x2 : Int32) (post : Int32 → Unit → Prop) : Prop := ((x0 < x1) → (post 0 ())) ∧ ((¬ x0 < x1) → (((x2 < x0) → (post 0 ())) ∧ ((¬ x2 < x0) → (post 1 ()))))
set_option maxHeartbeats 4000000 in
set_option maxRecDepth 100000 in
theorem qX6_within {l : Launch} {D : va_G} {tys : List (ClassId × FieldType)} {x0 x1 x2 : Int32} {post : Int32 → Unit → Prop} (hw : wX6_within x0 x1 x2 post) : jMi l D tys jG0 yX6_within wsX6_within rmX6_within [.int x0, .int x1, .int x2] [] post (fun _ : Unit => []) 0 0 := by
  refine j_ofi (cc := cX6_within) (maxL := 3) (ret := (some .boolean)) (by decide) rfl (Nat.le_of_ble_eq_true rfl) ?_
  intro p e s m args below meth c A C hr hnm hG
  refine j_sub (lv' := [(0, .int x0), (1, .int x1), (2, .int x2)]) [0, 1, 2] rfl ?_
  unfold wX6_within at hw
  refine j_iload_n (pc := 0) C dX6_within_0 0 rfl rfl ?_
  refine j_iload_n (pc := 1) C dX6_within_1 1 rfl rfl ?_
  refine j_icmp_lt (pc := 2) C 14 dX6_within_2 (by decide) (fun z_1 => ?_) (fun z_1 => ?_)
  · have hw := hw.1 z_1
    refine j_iconst (pc := 14) (v := 0) C dX6_within_14 (by decide) ?_
    exact j_zret (pc := 15) C hr (by decide) () rfl hw dX6_within_15
  · have hw := hw.2 z_1
    refine j_iload_n (pc := 5) C dX6_within_5 0 rfl rfl ?_
    refine j_iload_n (pc := 6) C dX6_within_6 2 rfl rfl ?_
    refine j_icmp_gt (pc := 7) C 14 dX6_within_7 (by decide) (fun z_2 => ?_) (fun z_2 => ?_)
    · have hw := hw.1 z_2
      refine j_iconst (pc := 14) (v := 0) C dX6_within_14 (by decide) ?_
      exact j_zret (pc := 15) C hr (by decide) () rfl hw dX6_within_15
    · have hw := hw.2 z_2
      refine j_iconst (pc := 10) (v := 1) C dX6_within_10 (by decide) ?_
      refine j_goto (pc := 11) C 15 dX6_within_11 (by decide) ?_
      exact j_zret (pc := 15) C hr (by decide) () rfl hw dX6_within_15
theorem mX6_within {l : Launch} {D : va_G} {tys : List (ClassId × FieldType)} (x0 x1 x2 : Int32) : jMi l D tys jG0 yX6_within wsX6_within rmX6_within [.int x0, .int x1, .int x2] [] (fun r _ => r = jwithin x0 x1 x2) (fun _ : Unit => []) 0 0 :=
  qX6_within ⟨fun h => by simp [jwithin, h], fun h => ⟨fun h2 => by simp [jwithin, h, h2], fun h2 => by simp [jwithin, h, h2]⟩⟩
def rmJ9_floorMod_7cf53 : Room := { frames := 0, cells := 0, slots := 0, locals := 0 }
def wJ9_floorMod_7cf53 (x0 : Int32) (x1 : Int32) (post : Int32 → Unit → Prop) : Prop := (¬ x1 = 0) ∧ ∀ x2_2 : Int32, x2_2 = x0 - x0 / x1 * x1 → ((0 ≤ (x0 ^^^ x1)) → (post x2_2 ())) ∧ ((¬ 0 ≤ (x0 ^^^ x1)) → (((x2_2 = 0) → (post x2_2 ())) ∧ ((¬ x2_2 = 0) → (post (x2_2 + x1) ()))))
set_option maxHeartbeats 4000000 in
set_option maxRecDepth 100000 in
theorem qJ9_floorMod_7cf53 {l : Launch} {D : va_G} {tys : List (ClassId × FieldType)} {x0 x1 : Int32} {post : Int32 → Unit → Prop} (hw : wJ9_floorMod_7cf53 x0 x1 post) : jMi l D tys jG0 yJ9_floorMod_7cf53 wsJ9_floorMod_7cf53 rmJ9_floorMod_7cf53 [.int x0, .int x1] [] post (fun _ : Unit => []) 0 0 := by
  refine j_ofiF (cc := cJ9_floorMod_7cf53) (maxL := 3) (ret := (some .int)) (by decide +kernel) rfl (Nat.le_of_ble_eq_true rfl) ?_
  intro p e s m args below meth c A C hr hnm hG
  refine j_sub (lv' := [(0, .int x0), (1, .int x1)]) [0, 1] rfl ?_
  unfold wJ9_floorMod_7cf53 at hw
  refine j_iload_n (pc := 0) C dJ9_floorMod_7cf53_0 0 rfl rfl ?_
  refine j_iload_n (pc := 1) C dJ9_floorMod_7cf53_1 1 rfl rfl ?_
  obtain ⟨h_1, hw⟩ := hw
  refine j_irem (pc := 2) C dJ9_floorMod_7cf53_2 h_1 ?_
  refine j_topi (fun x2_2 ex2_2 => ?_)
  have hw := hw x2_2 ex2_2
  refine j_istore_n (pc := 3) (lv' := [(0, .int x0), (1, .int x1), (2, .int x2_2)]) C [1, 2, 0] dJ9_floorMod_7cf53_3 rfl (by decide) rfl ?_
  refine j_iload_n (pc := 4) C dJ9_floorMod_7cf53_4 0 rfl rfl ?_
  refine j_iload_n (pc := 5) C dJ9_floorMod_7cf53_5 1 rfl rfl ?_
  refine j_ixor (pc := 6) C dJ9_floorMod_7cf53_6 ?_
  refine j_if_ge (pc := 7) C 18 dJ9_floorMod_7cf53_7 (by decide) (fun z_3 => ?_) (fun z_3 => ?_)
  · have hw := hw.1 z_3
    refine j_iload_n (pc := 18) C dJ9_floorMod_7cf53_18 2 rfl rfl ?_
    exact j_iret (pc := 19) C hr () rfl hw dJ9_floorMod_7cf53_19
  · have hw := hw.2 z_3
    refine j_iload_n (pc := 10) C dJ9_floorMod_7cf53_10 2 rfl rfl ?_
    refine j_if_eq (pc := 11) C 18 dJ9_floorMod_7cf53_11 (by decide) (fun z_4 => ?_) (fun z_4 => ?_)
    · have hw := hw.1 z_4
      refine j_iload_n (pc := 18) C dJ9_floorMod_7cf53_18 2 rfl rfl ?_
      exact j_iret (pc := 19) C hr () rfl hw dJ9_floorMod_7cf53_19
    · have hw := hw.2 z_4
      refine j_iload_n (pc := 14) C dJ9_floorMod_7cf53_14 2 rfl rfl ?_
      refine j_iload_n (pc := 15) C dJ9_floorMod_7cf53_15 1 rfl rfl ?_
      refine j_iadd (pc := 16) C dJ9_floorMod_7cf53_16 ?_
      exact j_iret (pc := 17) C hr () rfl hw dJ9_floorMod_7cf53_17
theorem mJ9_floorMod_7cf53 {l : Launch} {D : va_G} {tys : List (ClassId × FieldType)} (x0 x1 : Int32) (h0 : ¬ x1 = 0) : jMi l D tys jG0 yJ9_floorMod_7cf53 wsJ9_floorMod_7cf53 rmJ9_floorMod_7cf53 [.int x0, .int x1] [] (fun r _ => r = jfloorMod x0 x1) (fun _ : Unit => []) 0 0 :=
  qJ9_floorMod_7cf53 ⟨h0, fun r hr => ⟨fun h => by simp [jfloorMod, h, hr], fun h => ⟨fun h2 => by rw [hr] at h2; simp [jfloorMod, h, h2, hr], fun h2 => by rw [hr] at h2; simp [jfloorMod, h, h2, hr]⟩⟩⟩
def rmX6_asNumber : Room := { frames := 0, cells := 0, slots := 0, locals := 0 }
def wX6_asNumber (x0 : Int32) (post : Int32 → Unit → Prop) : Prop := ((x0 = 0) → (post 0 ())) ∧ ((¬ x0 = 0) → (post 1 ()))
set_option maxHeartbeats 4000000 in
set_option maxRecDepth 100000 in
theorem qX6_asNumber {l : Launch} {D : va_G} {tys : List (ClassId × FieldType)} {x0 : Int32} {post : Int32 → Unit → Prop} (hw : wX6_asNumber x0 post) : jMi l D tys jG0 yX6_asNumber wsX6_asNumber rmX6_asNumber [.int x0] [] post (fun _ : Unit => []) 0 0 := by
  refine j_ofi (cc := cX6_asNumber) (maxL := 1) (ret := (some .int)) (by decide) rfl (Nat.le_of_ble_eq_true rfl) ?_
  intro p e s m args below meth c A C hr hnm hG
  refine j_sub (lv' := [(0, .int x0)]) [0] rfl ?_
  unfold wX6_asNumber at hw
  refine j_iload_n (pc := 0) C dX6_asNumber_0 0 rfl rfl ?_
  refine j_if_eq (pc := 1) C 8 dX6_asNumber_1 (by decide) (fun z_1 => ?_) (fun z_1 => ?_)
  · have hw := hw.1 z_1
    refine j_iconst (pc := 8) (v := 0) C dX6_asNumber_8 (by decide) ?_
    exact j_iret (pc := 9) C hr () rfl hw dX6_asNumber_9
  · have hw := hw.2 z_1
    refine j_iconst (pc := 4) (v := 1) C dX6_asNumber_4 (by decide) ?_
    refine j_goto (pc := 5) C 9 dX6_asNumber_5 (by decide) ?_
    exact j_iret (pc := 9) C hr () rfl hw dX6_asNumber_9
def jasNumber (v : Int32) : Int32 := if v = 0 then 0 else 1
theorem mX6_asNumber {l : Launch} {D : va_G} {tys : List (ClassId × FieldType)} (x0 : Int32) : jMi l D tys jG0 yX6_asNumber wsX6_asNumber rmX6_asNumber [.int x0] [] (fun r _ => r = jasNumber x0) (fun _ : Unit => []) 0 0 :=
  qX6_asNumber ⟨fun h => by simp [jasNumber, h], fun h => by simp [jasNumber, h]⟩

/-! what a method needs of the start beside its world: it holds for a callee's start too -/
def jG (G : (Nat → Prop) → State → Prop) : Prop := (∀ (A A' : Nat → Prop) (s U : State), G A s → (∀ q, A' q → A q) → s.WarmedH U.vm → (∀ q : Nat, q < s.heap.size → ¬ A q → U.heap[q]? = s.heap[q]?) → G A' U) ∧ ∀ (A : Nat → Prop) (U : State) (g : JFrame) (mk : MethodId) (a : Array Value), G A U → G A (U.calling g mk a)
def jG0 : (Nat → Prop) → State → Prop := fun _ _ => True
theorem jG0_ok : jG jG0 := ⟨fun _ _ _ _ _ _ _ _ => trivial, fun _ _ _ _ _ _ => trivial⟩
theorem j_blind {D : va_G} {tys : List (ClassId × FieldType)} {G : (Nat → Prop) → State → Prop} {ws : va_W} {sz : Nat} {av : List Value} (hGs : jG G) : FrameBlind (va_Pc av (jB D tys G ws sz)) := fun a U g mk q => by
  obtain ⟨q0, q1, qP, qK, qD, qG⟩ := q
  exact ⟨q0, q1, qP, va_K.moved (u := U) (U := U.calling g mk a) (Vm.Alike.refl U.vm) qK, qD, hGs.2 _ U g mk a qG⟩
theorem j_in {A : Nat → Prop} {ws : va_W} {H0 H : Heap} {locs : List Loc} (hD : va_D A ws) (hS : va_S A H0 H locs) (hA : ∀ q, H0.size ≤ q → A q) : ∀ q, va_A ws H.size q → A q := by
  intro q hq
  rcases hq with ⟨k, e, hk⟩ | hq
  · exact hD.2 k _ hk
  · exact hA q (Nat.le_trans hS.1 hq)
theorem j_preB {D : va_G} {tys : List (ClassId × FieldType)} {G : (Nat → Prop) → State → Prop} {A : Nat → Prop} {ws : va_W} {s : State} {H : Heap} {locs : List Loc} (hGs : jG G) (hg : G A s) (hK : va_K D vwCl tys s) (hA : ∀ q, s.heap.size ≤ q → A q) (hP : va_P D vwCl ws H) (hD : va_D A ws) (hS : va_S A s.heap H locs) (U : State) (hU : U.heap = H) (hW : s.WarmedH U.vm) : jB D tys G ws H.size U :=
  ⟨by rw [hU], by rw [hU]; exact hP, va_K.moved hW.alike hK, hD.weaken (fun _ _ _ _ => trivial), hGs.1 A _ s U hg (j_in hD hS hA) hW (fun q h1 h2 => by rw [hU]; exact hS.2.1 q h1 h2)⟩
theorem j_kept0 {D : va_G} {ws : va_W} {H H1 : Heap} (hP : va_P D vwCl ws H) (hk : ∀ q : Nat, q < H.size → ¬ va_A [] H.size q → H1[q]? = H[q]?) : va_P D vwCl ws H1 := by
  refine hP.kept (fun k x hx => ?_)
  have hlt := (hP k x hx).lt
  refine hk x.1 hlt (fun h => ?_)
  rcases h with ⟨k, e, h⟩ | h
  · simp at h
  · omega
theorem j_ofi {S : Type} {l : Launch} {D : va_G} {tys : List (ClassId × FieldType)} {G : (Nat → Prop) → State → Prop} {y : MethodName} {wy wy' : List Cond} {rm : Room} {cc : ByteArray} {maxL : Nat} {ret : Option FieldType} {av : List Value} {ws : va_W} {post : Int32 → S → Prop} {F : S → va_W} {mc ms : Nat} (hy : plainName y.cls = true) (hw : wy = Cond.code y cc maxL ret :: wy') (hlen : (lg_sl av).length ≤ maxL)
    (body : ∀ (p : Program) (e : Env) (s : State) (m : MethodId) (args : Array Value) (below : List Frame) (meth : Method) (c : Code) (A : Nat → Prop), jC p s m args meth c cc maxL y.cls wy D tys A → meth.sig.returnType = ret → meth.name = y.name → G A s → jJ p l e rm s m args below meth c 0 0 (MQ below (va_Qi post (jE D tys A F) A) args s mc ms A) D A maxL ws (lv_args 0 av) 0 []) : jMi l D tys G y wy rm av ws post F mc ms := by
  intro sz
  refine Met.ofW (cc := cc) (maxL := maxL) (ret := ret) hy hw ?_
  intro p e s m args below meth c s₁ B hml hv
  obtain ⟨rfl, rfl, hP, hK, hD0, hG⟩ := hv
  have h := body p e s m av.toArray below meth c (va_A ws s.heap.size) ⟨⟨B.exec, B.bytes, hml, findClass_of_methodNamed B.named, atoms_spec (ws := wy) B.pre⟩, hK, fun q h => Or.inr h, B.notSynchronized⟩ B.returns (name_of_methodNamed B.named B.method).1 hG
  rw [lg_entry_eq]
  exact h s.heap [] _ hP hD0.self va_S.rf (lv_entry av hlen)
theorem j_ofl {S : Type} {l : Launch} {D : va_G} {tys : List (ClassId × FieldType)} {G : (Nat → Prop) → State → Prop} {y : MethodName} {wy wy' : List Cond} {rm : Room} {cc : ByteArray} {maxL : Nat} {ret : Option FieldType} {av : List Value} {ws : va_W} {post : Int64 → S → Prop} {F : S → va_W} {mc ms : Nat} (hy : plainName y.cls = true) (hw : wy = Cond.code y cc maxL ret :: wy') (hlen : (lg_sl av).length ≤ maxL)
    (body : ∀ (p : Program) (e : Env) (s : State) (m : MethodId) (args : Array Value) (below : List Frame) (meth : Method) (c : Code) (A : Nat → Prop), jC p s m args meth c cc maxL y.cls wy D tys A → meth.sig.returnType = ret → meth.name = y.name → G A s → jJ p l e rm s m args below meth c 0 0 (MQ below (va_Ql post (jE D tys A F) A) args s mc ms A) D A maxL ws (lv_args 0 av) 0 []) : jMl l D tys G y wy rm av ws post F mc ms := by
  intro sz
  refine Met.ofW (cc := cc) (maxL := maxL) (ret := ret) hy hw ?_
  intro p e s m args below meth c s₁ B hml hv
  obtain ⟨rfl, rfl, hP, hK, hD0, hG⟩ := hv
  have h := body p e s m av.toArray below meth c (va_A ws s.heap.size) ⟨⟨B.exec, B.bytes, hml, findClass_of_methodNamed B.named, atoms_spec (ws := wy) B.pre⟩, hK, fun q h => Or.inr h, B.notSynchronized⟩ B.returns (name_of_methodNamed B.named B.method).1 hG
  rw [lg_entry_eq]
  exact h s.heap [] _ hP hD0.self va_S.rf (lv_entry av hlen)
theorem j_ofv {S : Type} {l : Launch} {D : va_G} {tys : List (ClassId × FieldType)} {G : (Nat → Prop) → State → Prop} {y : MethodName} {wy wy' : List Cond} {rm : Room} {cc : ByteArray} {maxL : Nat} {ret : Option FieldType} {av : List Value} {ws : va_W} {post : S → Prop} {F : S → va_W} {mc ms : Nat} (hy : plainName y.cls = true) (hw : wy = Cond.code y cc maxL ret :: wy') (hlen : (lg_sl av).length ≤ maxL)
    (body : ∀ (p : Program) (e : Env) (s : State) (m : MethodId) (args : Array Value) (below : List Frame) (meth : Method) (c : Code) (A : Nat → Prop), jC p s m args meth c cc maxL y.cls wy D tys A → meth.sig.returnType = ret → meth.name = y.name → G A s → jJ p l e rm s m args below meth c 0 0 (MQ below (va_Qv post (jE D tys A F) A) args s mc ms A) D A maxL ws (lv_args 0 av) 0 []) : jMv l D tys G y wy rm av ws post F mc ms := by
  intro sz
  refine Met.ofW (cc := cc) (maxL := maxL) (ret := ret) hy hw ?_
  intro p e s m args below meth c s₁ B hml hv
  obtain ⟨rfl, rfl, hP, hK, hD0, hG⟩ := hv
  have h := body p e s m av.toArray below meth c (va_A ws s.heap.size) ⟨⟨B.exec, B.bytes, hml, findClass_of_methodNamed B.named, atoms_spec (ws := wy) B.pre⟩, hK, fun q h => Or.inr h, B.notSynchronized⟩ B.returns (name_of_methodNamed B.named B.method).1 hG
  rw [lg_entry_eq]
  exact h s.heap [] _ hP hD0.self va_S.rf (lv_entry av hlen)
theorem j_ofq {S : Type} {l : Launch} {D : va_G} {tys : List (ClassId × FieldType)} {G : (Nat → Prop) → State → Prop} {y : MethodName} {wy wy' : List Cond} {rm : Room} {cc : ByteArray} {maxL : Nat} {ret : Option FieldType} {av : List Value} {ws : va_W} {post : Option Nat → S → Prop} {F : S → va_W} {mc ms : Nat} (hy : plainName y.cls = true) (hw : wy = Cond.code y cc maxL ret :: wy') (hlen : (lg_sl av).length ≤ maxL)
    (body : ∀ (p : Program) (e : Env) (s : State) (m : MethodId) (args : Array Value) (below : List Frame) (meth : Method) (c : Code) (A : Nat → Prop), jC p s m args meth c cc maxL y.cls wy D tys A → meth.sig.returnType = ret → meth.name = y.name → G A s → jJ p l e rm s m args below meth c 0 0 (MQ below (va_Qq post (jE D tys A F) A) args s mc ms A) D A maxL ws (lv_args 0 av) 0 []) : jMq l D tys G y wy rm av ws post F mc ms := by
  intro sz
  refine Met.ofW (cc := cc) (maxL := maxL) (ret := ret) hy hw ?_
  intro p e s m args below meth c s₁ B hml hv
  obtain ⟨rfl, rfl, hP, hK, hD0, hG⟩ := hv
  have h := body p e s m av.toArray below meth c (va_A ws s.heap.size) ⟨⟨B.exec, B.bytes, hml, findClass_of_methodNamed B.named, atoms_spec (ws := wy) B.pre⟩, hK, fun q h => Or.inr h, B.notSynchronized⟩ B.returns (name_of_methodNamed B.named B.method).1 hG
  rw [lg_entry_eq]
  exact h s.heap [] _ hP hD0.self va_S.rf (lv_entry av hlen)
section JR3
variable {p : Program} {l : Launch} {e : Env} {R : Room} {s : State} {m : MethodId} {args : Array Value} {below : List Frame} {meth : Method} {c : Code} {cells slots : Nat} {Q : State → Prop} {D : va_G} {A : Nat → Prop} {nL : Nat} {cc : ByteArray} {own : String} {Ts : List Cond} {tys : List (ClassId × FieldType)} {ws : va_W} {lv : List (Nat × Value)} {pc : Nat} {st : List Value}
theorem j_iret (C : jC p s m args meth c cc nL own Ts D tys A) (hr : meth.sig.returnType = some .int) {v : Int32} {S : Type} {post : Int32 → S → Prop} {F : S → va_W} (u : S) (hu : F u = ws) (hp : post v u) (hdg : decode cc pc = .ok (.ireturn, 1)) : jJ p l e R s m args below meth c cells slots (MQ below (va_Qi post (jE D tys A F) A) args s cells slots A) D A nL ws lv pc [.int v] :=
  fun H locs ls hP hD hS _ => W.iret C.1.1 C.1.2.1 hr (fun t ht hW => ⟨⟨v, u, rfl, hp, by rw [ht, hu]; exact hP, va_K.moved hW.alike C.2.1, by rw [hu]; exact hD⟩, hS.F ht⟩) hS.2.2 hdg C.2.2.2
theorem j_zret (C : jC p s m args meth c cc nL own Ts D tys A) (hr : meth.sig.returnType = some .boolean) {v : Int32} (hv : v = 0 ∨ v = 1) {S : Type} {post : Int32 → S → Prop} {F : S → va_W} (u : S) (hu : F u = ws) (hp : post v u) (hdg : decode cc pc = .ok (.ireturn, 1)) : jJ p l e R s m args below meth c cells slots (MQ below (va_Qi post (jE D tys A F) A) args s cells slots A) D A nL ws lv pc [.int v] :=
  fun H locs ls hP hD hS _ => W.zret C.1.1 C.1.2.1 hr (by rcases hv with rfl | rfl <;> rfl) (fun t ht hW => ⟨⟨v, u, rfl, hp, by rw [ht, hu]; exact hP, va_K.moved hW.alike C.2.1, by rw [hu]; exact hD⟩, hS.F ht⟩) hS.2.2 hdg C.2.2.2
theorem j_lret (C : jC p s m args meth c cc nL own Ts D tys A) (hr : meth.sig.returnType = some .long) {v : Int64} {S : Type} {post : Int64 → S → Prop} {F : S → va_W} (u : S) (hu : F u = ws) (hp : post v u) (hdg : decode cc pc = .ok (.lreturn, 1)) : jJ p l e R s m args below meth c cells slots (MQ below (va_Ql post (jE D tys A F) A) args s cells slots A) D A nL ws lv pc [.long v] :=
  fun H locs ls hP hD hS _ => W.lret C.1.1 C.1.2.1 hr (fun t ht hW => ⟨⟨v, u, rfl, hp, by rw [ht, hu]; exact hP, va_K.moved hW.alike C.2.1, by rw [hu]; exact hD⟩, hS.F ht⟩) hS.2.2 hdg C.2.2.2
theorem j_vret (C : jC p s m args meth c cc nL own Ts D tys A) (hr : meth.sig.returnType = none) {S : Type} {post : S → Prop} {F : S → va_W} (u : S) (hu : F u = ws) (hp : post u) (hdg : decode cc pc = .ok (.return_, 1)) : jJ p l e R s m args below meth c cells slots (MQ below (va_Qv post (jE D tys A F) A) args s cells slots A) D A nL ws lv pc [] :=
  fun H locs ls hP hD hS _ => W.vret C.1.1 C.1.2.1 hr (fun t ht hW => ⟨⟨u, rfl, hp, by rw [ht, hu]; exact hP, va_K.moved hW.alike C.2.1, by rw [hu]; exact hD⟩, hS.F ht⟩) hS.2.2 hdg C.2.2.2
theorem j_aret (C : jC p s m args meth c cc nL own Ts D tys A) {rt : String} (hr : meth.sig.returnType = some (.object rt)) {v : Nat} {S : Type} {post : Option Nat → S → Prop} {F : S → va_W} (u : S) (hu : F u = ws) (hp : post (some v) u) (hdg : decode cc pc = .ok (.areturn, 1)) : jJ p l e R s m args below meth c cells slots (MQ below (va_Qq post (jE D tys A F) A) args s cells slots A) D A nL ws lv pc [.ref v] :=
  fun H locs ls hP hD hS _ => W.aret C.1.1 C.1.2.1 hr (Or.inl ⟨_, rfl⟩) (Or.inr ⟨_, rfl⟩) (fun t ht hW => ⟨⟨some v, u, rfl, hp, by rw [ht, hu]; exact hP, va_K.moved hW.alike C.2.1, by rw [hu]; exact hD⟩, hS.F ht⟩) hS.2.2 hdg C.2.2.2
theorem j_aretN (C : jC p s m args meth c cc nL own Ts D tys A) {rt : String} (hr : meth.sig.returnType = some (.object rt)) {S : Type} {post : Option Nat → S → Prop} {F : S → va_W} (u : S) (hu : F u = ws) (hp : post none u) (hdg : decode cc pc = .ok (.areturn, 1)) : jJ p l e R s m args below meth c cells slots (MQ below (va_Qq post (jE D tys A F) A) args s cells slots A) D A nL ws lv pc [.null] :=
  fun H locs ls hP hD hS _ => W.aret C.1.1 C.1.2.1 hr (Or.inl ⟨_, rfl⟩) (Or.inl rfl) (fun t ht hW => ⟨⟨none, u, rfl, hp, by rw [ht, hu]; exact hP, va_K.moved hW.alike C.2.1, by rw [hu]; exact hD⟩, hS.F ht⟩) hS.2.2 hdg C.2.2.2
theorem j_widen {k n : Nat} (h1 : cells ≤ k) (h2 : slots ≤ n) (h : jJ p l e R s m args below meth c k n Q D A nL ws lv pc st) : jJ p l e R s m args below meth c cells slots Q D A nL ws lv pc st :=
  fun H locs ls hP hD hS hl => W.widen h1 h2 (h H locs ls hP hD hS hl)
theorem j_calli (C : jC p s m args meth c cc nL own Ts D tys A) {G : (Nat → Prop) → State → Prop} (hGs : jG G) (hg : G A s) {S : Type} {post : Int32 → S → Prop} {F : S → va_W} {y : MethodName} {wy wy' : List Cond} {rm : Room} {bytes : ByteArray} {maxL mc ms b : Nat} {ret : Option FieldType} {As st0 : List Value} {K : String} {T : u_T} {N ci idx : Nat} {fs : List Value} (n : Nat)
    (hM : jMi l D tys G y wy rm (.ref b :: As) ws post F mc ms) (hT : GoodIn Ts (wsV own idx K y wy)) (hw : wy = Cond.code y bytes maxL ret :: wy') (hrc : rm.cells = mc) (hrs : rm.slots = ms)
    (hd : y.cls = K ∧ y.cls ≠ "java/lang/invoke/MethodHandle" ∧ y.cls ≠ "java/lang/invoke/VarHandle" ∧ (parseMethodDescriptor y.desc).map (fun d => d.parameters.length) = some n) (hR : rm.frames + 1 ≤ R.frames ∧ 8 + (maxL + 11) + rm.locals ≤ R.locals)
    (q0 : Nat) (he : ws[q0]? = some (b, .inr (ci, fs))) (hc : vwCl[ci]? = some (K, T, N)) (hn : As.length = n) (hst : st0 = As.reverse ++ .ref b :: st) (hroom : (st.map fun v => v.category).sum ≤ 8) (hdg : decode cc pc = .ok (.invokevirtual idx, 3)) (hf : cells + mc ≤ R.cells ∧ slots + ms ≤ R.slots)
    (h : ∀ (r : Int32) (u : S), post r u → jJ p l e R s m args below meth c (cells + mc) (slots + ms) Q D A nL (F u) lv (pc + 3) (.int r :: st)) : jJ p l e R s m args below meth c cells slots Q D A nL ws lv pc st0 := by
  intro H locs ls hP hD hS hl
  subst hst
  have hFc := j_in hD hS C.2.2.1
  refine va_calli (va_runV (As := As) (rest := st) C.1 (hM H.size) (cwV n C.1.2.2.2.2 hT hw hrc hrs hd hR) ⟨j_blind hGs, va_recv C.2.1 hP hc he, fun U hU hW => ⟨rfl, j_preB hGs hg C.2.1 C.2.2.1 hP hD hS U hU hW⟩⟩ rfl hn hl.1 rfl (lv_room hroom) hdg hf) hS (fun q _ hq => hFc q hq) hFc (fun r u t H1 locs1 ht hvm hw hB hz hk hS1 => ?_)
  obtain ⟨hP1, hK1, hD1⟩ := hB
  rw [ht] at hP1
  exact h r u hw H1 locs1 ls hP1 (hD1.weaken (fun k q _ hq => hFc q.1 hq)) hS1 hl
theorem j_calll (C : jC p s m args meth c cc nL own Ts D tys A) {G : (Nat → Prop) → State → Prop} (hGs : jG G) (hg : G A s) {S : Type} {post : Int64 → S → Prop} {F : S → va_W} {y : MethodName} {wy wy' : List Cond} {rm : Room} {bytes : ByteArray} {maxL mc ms b : Nat} {ret : Option FieldType} {As st0 : List Value} {K : String} {T : u_T} {N ci idx : Nat} {fs : List Value} (n : Nat)
    (hM : jMl l D tys G y wy rm (.ref b :: As) ws post F mc ms) (hT : GoodIn Ts (wsV own idx K y wy)) (hw : wy = Cond.code y bytes maxL ret :: wy') (hrc : rm.cells = mc) (hrs : rm.slots = ms)
    (hd : y.cls = K ∧ y.cls ≠ "java/lang/invoke/MethodHandle" ∧ y.cls ≠ "java/lang/invoke/VarHandle" ∧ (parseMethodDescriptor y.desc).map (fun d => d.parameters.length) = some n) (hR : rm.frames + 1 ≤ R.frames ∧ 8 + (maxL + 11) + rm.locals ≤ R.locals)
    (q0 : Nat) (he : ws[q0]? = some (b, .inr (ci, fs))) (hc : vwCl[ci]? = some (K, T, N)) (hn : As.length = n) (hst : st0 = As.reverse ++ .ref b :: st) (hroom : (st.map fun v => v.category).sum ≤ 8) (hdg : decode cc pc = .ok (.invokevirtual idx, 3)) (hf : cells + mc ≤ R.cells ∧ slots + ms ≤ R.slots)
    (h : ∀ (r : Int64) (u : S), post r u → jJ p l e R s m args below meth c (cells + mc) (slots + ms) Q D A nL (F u) lv (pc + 3) (.long r :: st)) : jJ p l e R s m args below meth c cells slots Q D A nL ws lv pc st0 := by
  intro H locs ls hP hD hS hl
  subst hst
  have hFc := j_in hD hS C.2.2.1
  refine va_calll (va_runV (As := As) (rest := st) C.1 (hM H.size) (cwV n C.1.2.2.2.2 hT hw hrc hrs hd hR) ⟨j_blind hGs, va_recv C.2.1 hP hc he, fun U hU hW => ⟨rfl, j_preB hGs hg C.2.1 C.2.2.1 hP hD hS U hU hW⟩⟩ rfl hn hl.1 rfl (lv_room hroom) hdg hf) hS (fun q _ hq => hFc q hq) hFc (fun r u t H1 locs1 ht hvm hw hB hz hk hS1 => ?_)
  obtain ⟨hP1, hK1, hD1⟩ := hB
  rw [ht] at hP1
  exact h r u hw H1 locs1 ls hP1 (hD1.weaken (fun k q _ hq => hFc q.1 hq)) hS1 hl
theorem j_callv (C : jC p s m args meth c cc nL own Ts D tys A) {G : (Nat → Prop) → State → Prop} (hGs : jG G) (hg : G A s) {S : Type} {post : S → Prop} {F : S → va_W} {y : MethodName} {wy wy' : List Cond} {rm : Room} {bytes : ByteArray} {maxL mc ms b : Nat} {ret : Option FieldType} {As st0 : List Value} {K : String} {T : u_T} {N ci idx : Nat} {fs : List Value} (n : Nat)
    (hM : jMv l D tys G y wy rm (.ref b :: As) ws post F mc ms) (hT : GoodIn Ts (wsV own idx K y wy)) (hw : wy = Cond.code y bytes maxL ret :: wy') (hrc : rm.cells = mc) (hrs : rm.slots = ms)
    (hd : y.cls = K ∧ y.cls ≠ "java/lang/invoke/MethodHandle" ∧ y.cls ≠ "java/lang/invoke/VarHandle" ∧ (parseMethodDescriptor y.desc).map (fun d => d.parameters.length) = some n) (hR : rm.frames + 1 ≤ R.frames ∧ 8 + (maxL + 11) + rm.locals ≤ R.locals)
    (q0 : Nat) (he : ws[q0]? = some (b, .inr (ci, fs))) (hc : vwCl[ci]? = some (K, T, N)) (hn : As.length = n) (hst : st0 = As.reverse ++ .ref b :: st) (hroom : (st.map fun v => v.category).sum ≤ 8) (hdg : decode cc pc = .ok (.invokevirtual idx, 3)) (hf : cells + mc ≤ R.cells ∧ slots + ms ≤ R.slots)
    (h : ∀ (u : S), post u → jJ p l e R s m args below meth c (cells + mc) (slots + ms) Q D A nL (F u) lv (pc + 3) (st)) : jJ p l e R s m args below meth c cells slots Q D A nL ws lv pc st0 := by
  intro H locs ls hP hD hS hl
  subst hst
  have hFc := j_in hD hS C.2.2.1
  refine va_callv (va_runV (As := As) (rest := st) C.1 (hM H.size) (cwV n C.1.2.2.2.2 hT hw hrc hrs hd hR) ⟨j_blind hGs, va_recv C.2.1 hP hc he, fun U hU hW => ⟨rfl, j_preB hGs hg C.2.1 C.2.2.1 hP hD hS U hU hW⟩⟩ rfl hn hl.1 rfl (lv_room hroom) hdg hf) hS (fun q _ hq => hFc q hq) hFc (fun u t H1 locs1 ht hvm hw hB hz hk hS1 => ?_)
  obtain ⟨hP1, hK1, hD1⟩ := hB
  rw [ht] at hP1
  exact h u hw H1 locs1 ls hP1 (hD1.weaken (fun k q _ hq => hFc q.1 hq)) hS1 hl
theorem j_callq (C : jC p s m args meth c cc nL own Ts D tys A) {G : (Nat → Prop) → State → Prop} (hGs : jG G) (hg : G A s) {S : Type} {post : Option Nat → S → Prop} {F : S → va_W} {y : MethodName} {wy wy' : List Cond} {rm : Room} {bytes : ByteArray} {maxL mc ms b : Nat} {ret : Option FieldType} {As st0 : List Value} {K : String} {T : u_T} {N ci idx : Nat} {fs : List Value} (n : Nat)
    (hM : jMq l D tys G y wy rm (.ref b :: As) ws post F mc ms) (hT : GoodIn Ts (wsV own idx K y wy)) (hw : wy = Cond.code y bytes maxL ret :: wy') (hrc : rm.cells = mc) (hrs : rm.slots = ms)
    (hd : y.cls = K ∧ y.cls ≠ "java/lang/invoke/MethodHandle" ∧ y.cls ≠ "java/lang/invoke/VarHandle" ∧ (parseMethodDescriptor y.desc).map (fun d => d.parameters.length) = some n) (hR : rm.frames + 1 ≤ R.frames ∧ 8 + (maxL + 11) + rm.locals ≤ R.locals)
    (q0 : Nat) (he : ws[q0]? = some (b, .inr (ci, fs))) (hc : vwCl[ci]? = some (K, T, N)) (hn : As.length = n) (hst : st0 = As.reverse ++ .ref b :: st) (hroom : (st.map fun v => v.category).sum ≤ 8) (hdg : decode cc pc = .ok (.invokevirtual idx, 3)) (hf : cells + mc ≤ R.cells ∧ slots + ms ≤ R.slots)
    (h : ∀ (r : Option Nat) (u : S), post r u → jJ p l e R s m args below meth c (cells + mc) (slots + ms) Q D A nL (F u) lv (pc + 3) (va_rf r :: st)) : jJ p l e R s m args below meth c cells slots Q D A nL ws lv pc st0 := by
  intro H locs ls hP hD hS hl
  subst hst
  have hFc := j_in hD hS C.2.2.1
  refine va_callq (va_runV (As := As) (rest := st) C.1 (hM H.size) (cwV n C.1.2.2.2.2 hT hw hrc hrs hd hR) ⟨j_blind hGs, va_recv C.2.1 hP hc he, fun U hU hW => ⟨rfl, j_preB hGs hg C.2.1 C.2.2.1 hP hD hS U hU hW⟩⟩ rfl hn hl.1 rfl (lv_room hroom) hdg hf) hS (fun q _ hq => hFc q hq) hFc (fun r u t H1 locs1 ht hvm hw hB hz hk hS1 => ?_)
  obtain ⟨hP1, hK1, hD1⟩ := hB
  rw [ht] at hP1
  exact h r u hw H1 locs1 ls hP1 (hD1.weaken (fun k q _ hq => hFc q.1 hq)) hS1 hl
theorem j_scalli (C : jC p s m args meth c cc nL own Ts D tys A) {post : Int32 → Unit → Prop} {y : MethodName} {wy wy' : List Cond} {rm : Room} {bytes : ByteArray} {maxL : Nat} {ret : Option FieldType} {As st0 : List Value} {idx : Nat} (n : Nat)
    (hM : jMi l D tys jG0 y wy rm As [] post (fun _ : Unit => []) 0 0) (hT : GoodIn Ts (va_wsS own idx y wy)) (hw : wy = Cond.code y bytes maxL ret :: wy') (hrc : rm.cells = 0) (hrs : rm.slots = 0)
    (hd : y.cls ≠ "java/lang/invoke/MethodHandle" ∧ y.cls ≠ "java/lang/invoke/VarHandle" ∧ (parseMethodDescriptor y.desc).map (fun d => d.parameters.length) = some n) (hR : rm.frames + 1 ≤ R.frames ∧ 8 + (maxL + 11) + rm.locals ≤ R.locals)
    (hn : As.length = n) (hst : st0 = As.reverse ++ st) (hroom : (st.map fun v => v.category).sum ≤ 8) (hdg : decode cc pc = .ok (.invokestatic idx, 3)) (hf : cells ≤ R.cells ∧ slots ≤ R.slots)
    (h : ∀ r : Int32, post r () → jJ p l e R s m args below meth c cells slots Q D A nL ws lv (pc + 3) (.int r :: st)) : jJ p l e R s m args below meth c cells slots Q D A nL ws lv pc st0 := by
  intro H locs ls hP hD hS hl
  subst hst
  have hD0 : va_D A [] := ⟨fun i j p q h => by simp at h, fun k q h => by simp at h⟩
  have hP0 : va_P D vwCl [] H := fun k q h => by simp at h
  have hFc := j_in hD0 hS C.2.2.1
  refine va_calli (va_runS (As := As) (rest := st) C.1 (hM H.size) (va_cwS n C.1.2.2.2.2 hT hw hrc hrs hd hR) ⟨j_blind jG0_ok, fun U hU hW => ⟨rfl, j_preB jG0_ok (A := A) trivial C.2.1 C.2.2.1 hP0 hD0 hS U hU hW⟩⟩ rfl hn hl.1 rfl (lv_room hroom) hdg hf) hS (fun q _ hq => hFc q hq) hFc (fun r u t H1 locs1 ht hvm hw hB hz hk hS1 => ?_)
  exact h r hw H1 locs1 ls (j_kept0 hP hk) hD hS1 hl
theorem j_mmax (C : jC p s m args meth c cc nL own Ts D tys A) {index : Nat} {x y : Int32} (hw : Cond.methodLink own index Lib.Math.max.name ∈ Ts ∧ Cond.static Lib.Math.max.name ∈ Ts ∧ Cond.initialized "java/lang/Math" ∈ Ts ∧ Cond.code Lib.Math.max.name Lib.Math.max.code 2 (some .int) ∈ Ts) (hR : 1 ≤ R.frames ∧ (st.map fun v => v.category).sum + 13 ≤ R.locals) (hf : cells ≤ R.cells ∧ slots ≤ R.slots) (hdg : decode cc pc = .ok (.invokestatic index, 3)) (h : jJ p l e R s m args below meth c cells slots Q D A nL ws lv (pc + 3) (.int (if x < y then y else x) :: st)) : jJ p l e R s m args below meth c cells slots Q D A nL ws lv pc (.int y :: .int x :: st) :=
  fun H locs ls hP hD hS hl => va_mmax C.1.1 C.1.2.1 (C.1.2.2.1.trans hl.1.symm) C.1.2.2.2.1 (C.1.2.2.2.2 _ hw.1) (C.1.2.2.2.2 _ hw.2.1) (C.1.2.2.2.2 _ hw.2.2.1) (C.1.2.2.2.2 _ hw.2.2.2) hR.1 hR.2 hf.1 hf.2 hdg (h H locs ls hP hD hS hl)
theorem j_mmaxl (C : jC p s m args meth c cc nL own Ts D tys A) {index : Nat} {x y : Int64} (hw : Cond.methodLink own index Lib.MathLoose.max_long.x ∈ Ts ∧ Cond.static Lib.MathLoose.max_long.x ∈ Ts ∧ Cond.initialized "java/lang/Math" ∈ Ts ∧ Cond.code Lib.MathLoose.max_long.x Lib.MathLoose.max_long.code 4 (some .long) ∈ Ts) (hR : 1 ≤ R.frames ∧ (st.map fun v => v.category).sum + 15 ≤ R.locals) (hf : cells ≤ R.cells ∧ slots ≤ R.slots) (hdg : decode cc pc = .ok (.invokestatic index, 3)) (h : jJ p l e R s m args below meth c cells slots Q D A nL ws lv (pc + 3) (.long (if y < x then x else y) :: st)) : jJ p l e R s m args below meth c cells slots Q D A nL ws lv pc (.long y :: .long x :: st) :=
  fun H locs ls hP hD hS hl => va_mmax_long C.1.1 C.1.2.1 (C.1.2.2.1.trans hl.1.symm) C.1.2.2.2.1 (C.1.2.2.2.2 _ hw.1) (C.1.2.2.2.2 _ hw.2.1) (C.1.2.2.2.2 _ hw.2.2.1) (C.1.2.2.2.2 _ hw.2.2.2) hR.1 hR.2 hf.1 hf.2 hdg (h H locs ls hP hD hS hl)
end JR3

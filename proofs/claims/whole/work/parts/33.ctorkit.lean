/-! ===== constructors: what they need of the start, new cells, calls in a frame ===== -/
def gk (A : Nat → Prop) (U : State) : Prop := va_AO "ModelSender$Letter" U ∧ va_Nw (.methodLinkNest "ModelSender" 13 yX1_init "ModelSender") U ∧ va_Nw (.methodLinkNest "ModelSender" 20 yX5_init "ModelSender") U ∧ va_Nw (.methodLinkNest "ModelSender$Sender" 11 yX3_init "ModelSender") U ∧ va_Nw (.methodLinkNest "ModelSender$Sender" 20 yX4_init "ModelSender") U ∧ va_Nw (.methodLinkNest "ModelSender$Sender" 27 yX0_init "ModelSender") U
theorem gk_ok : jG gk := by
  refine ⟨fun A A' s U hG hA hW hq => ?_, fun A U g mk a hG => ?_⟩
  · obtain ⟨h0, h1, h2, h3, h4, h5⟩ := hG
    exact ⟨va_AO.moved hW.alike h0, va_Nw.warmM hW h1, va_Nw.warmM hW h2, va_Nw.warmM hW h3, va_Nw.warmM hW h4, va_Nw.warmM hW h5⟩
  · obtain ⟨h0, h1, h2, h3, h4, h5⟩ := hG
    exact ⟨va_AO.moved (U := U.calling g mk a) (Vm.Alike.refl U.vm) h0, va_Nw.same rfl rfl h1, va_Nw.same rfl rfl h2, va_Nw.same rfl rfl h3, va_Nw.same rfl rfl h4, va_Nw.same rfl rfl h5⟩
theorem ra_int {s : State} {c1 c2 : ClassId} (h1 : va_RA s c1 .int) (h2 : va_RA s c2 .int) : c1 = c2 := Option.some.inj (Eq.trans (Eq.symm h1) h2)
theorem ra_long {s : State} {c1 c2 : ClassId} (h1 : va_RA s c1 .long) (h2 : va_RA s c2 .long) : c1 = c2 := Option.some.inj (Eq.trans (Eq.symm h1) h2)
theorem ra_bool {s : State} {c1 c2 : ClassId} (h1 : va_RA s c1 .boolean) (h2 : va_RA s c2 .boolean) : c1 = c2 := Option.some.inj (Eq.trans (Eq.symm h1) h2)
theorem ra_obj {s : State} {c1 c2 : ClassId} {K : String} (h1 : va_RA s c1 (.object K)) (h2 : va_RA s c2 (.object K)) : c1 = c2 := by
  obtain ⟨_, _, -, -, -, e1⟩ := h1
  obtain ⟨_, _, -, -, -, e2⟩ := h2
  exact Option.some.inj (e1.symm.trans e2)
theorem va_K_last {D : va_G} {tys : List (ClassId × FieldType)} {c0 : ClassId} {ty : FieldType} {U : State} (h : va_K D vwCl (tys ++ [(c0, ty)]) U) : va_RA U c0 ty :=
  (h.2 tys.length (c0, ty) (by rw [List.getElem?_append_right (Nat.le_refl _), Nat.sub_self]; rfl)).2
theorem fr_l {D : va_G} {wr wc : va_W} {H : Heap} (h : va_P D vwCl (wr ++ wc) H) : va_P D vwCl wr H := fun k q hk => h k q (by rw [List.getElem?_append_left (List.getElem?_eq_some_iff.mp hk).1]; exact hk)
theorem fr_r {D : va_G} {wr wc : va_W} {H : Heap} (h : va_P D vwCl (wr ++ wc) H) : va_P D vwCl wc H := fun k q hk => h (wr.length + k) q (by rw [List.getElem?_append_right (Nat.le_add_right _ _), Nat.add_sub_cancel_left]; exact hk)
theorem fr_dl {A : Nat → Prop} {wr wc : va_W} (h : va_D A (wr ++ wc)) : va_D A wr := by
  refine ⟨fun i j p q hi hj e => h.1 i j p q ?_ ?_ e, fun k q hk => h.2 k q ?_⟩
  · rw [List.getElem?_append_left (List.getElem?_eq_some_iff.mp hi).1]; exact hi
  · rw [List.getElem?_append_left (List.getElem?_eq_some_iff.mp hj).1]; exact hj
  · rw [List.getElem?_append_left (List.getElem?_eq_some_iff.mp hk).1]; exact hk
theorem fr_dr {A : Nat → Prop} {wr wc : va_W} (h : va_D A (wr ++ wc)) : va_D A wc := by
  have z : ∀ (k : Nat) (q : Nat × va_E), wc[k]? = some q → (wr ++ wc)[wr.length + k]? = some q := fun k q hk => by rw [List.getElem?_append_right (Nat.le_add_right _ _), Nat.add_sub_cancel_left]; exact hk
  refine ⟨fun i j p q hi hj e => ?_, fun k q hk => h.2 _ q (z k q hk)⟩
  have := h.1 _ _ p q (z i p hi) (z j q hj) e
  omega
theorem fr_ne {A : Nat → Prop} {wr wc : va_W} (h : va_D A (wr ++ wc)) {i j : Nat} {x y : Nat × va_E} (hi : wr[i]? = some x) (hj : wc[j]? = some y) : x.1 ≠ y.1 := by
  intro e
  have hl := (List.getElem?_eq_some_iff.mp hi).1
  have := h.1 i (wr.length + j) x y (by rw [List.getElem?_append_left hl]; exact hi) (by rw [List.getElem?_append_right (Nat.le_add_right _ _), Nat.add_sub_cancel_left]; exact hj) e
  omega
theorem fr_join {D : va_G} {A : Nat → Prop} {wr wc w1 : va_W} {H H1 : Heap} (hP : va_P D vwCl (wr ++ wc) H) (hD : va_D A (wr ++ wc)) (hF : ∀ q, va_A wc H.size q → A q) (hk : ∀ q : Nat, q < H.size → ¬ va_A wc H.size q → H1[q]? = H[q]?) (hP1 : va_P D vwCl w1 H1) (hD1 : va_D (va_A wc H.size) w1) : va_P D vwCl (wr ++ w1) H1 ∧ va_D A (wr ++ w1) := by
  have apart : ∀ (i : Nat) (x : Nat × va_E), wr[i]? = some x → x.1 < H.size ∧ ¬ va_A wc H.size x.1 := by
    intro i x hx
    have hl := (fr_l hP i x hx).lt
    refine ⟨hl, fun h => ?_⟩
    rcases h with ⟨k, e, h⟩ | h
    · exact fr_ne hD hx h rfl
    · omega
  refine ⟨va_P.app (fun k q hq => ?_) hP1, va_D.app (fr_dl hD) (hD1.weaken (fun k q _ h => hF q.1 h)) (fun i j x y hx hy hxy => ?_)⟩
  · obtain ⟨g1, g2⟩ := apart k q hq
    exact (fr_l hP k q hq).kept (hk q.1 g1 g2)
  · exact (apart i x hx).2 (by rw [hxy]; exact hD1.2 j y hy)
section JRC
variable {p : Program} {l : Launch} {e : Env} {R : Room} {s : State} {m : MethodId} {args : Array Value} {below : List Frame} {meth : Method} {c : Code} {cells slots : Nat} {Q : State → Prop} {D : va_G} {A : Nat → Prop} {nL : Nat} {cc : ByteArray} {own : String} {Ts : List Cond} {tys : List (ClassId × FieldType)} {ws : va_W} {lv : List (Nat × Value)} {pc : Nat} {st : List Value}
theorem j_newa (C : jC p s m args meth c cc nL own Ts D tys A) {atype : ArrayType} {ty : FieldType} (hty : newarray.typeOf atype = ty) (harr : Cond.arrayClass ty ∈ Ts) (t0 : Nat) {cA : ClassId} (ht : tys[t0]? = some (cA, ty)) (hra : ∀ c1 c2 : ClassId, va_RA s c1 ty → va_RA s c2 ty → c1 = c2) {n : Int32} {N' : Nat} {a0 : vp_A} (ha : ∀ cA : ClassId, vp_cell cA a0 = arrV cA N' (fun _ => defaultValue ty)) (hn : ¬ n < 0) (hN : n.toNatClampNeg = N') (hbytes : N' * componentBytes ty ≤ 536870912) (hc : cells + 1 ≤ R.cells) (hs : slots + N' ≤ R.slots) (hdg : decode cc pc = .ok (.newarray atype, 2))
    (h : ∀ q : Nat, jJ p l e R s m args below meth c (cells + 1) (slots + N') Q D A nL (ws ++ [(q, .inl (cA, a0))]) lv (pc + 2) (.ref q :: st)) : jJ p l e R s m args below meth c cells slots Q D A nL ws lv pc (.int n :: st) := by
  intro H locs ls hP hD hS hl
  refine va_newa C.1.1 C.1.2.1 (by rw [hty]; exact C.1.2.2.2.2 _ harr) hty C.2.1 hP hD hS C.2.2.1 ha hn hN hbytes hc hs hdg (fun q cB H1 hK1 hP1 hD1 hS1 => ?_)
  have e := hra cB cA (va_K_last hK1) (C.2.1.2 t0 _ ht).2
  subst e
  exact h q H1 locs ls hP1 hD1 hS1 hl
theorem j_newq (C : jC p s m args meth c cc nL own Ts D tys A) {index : Nat} {K : String} (hcl : Cond.classLink own index K ∈ Ts) (ho : va_AO K s) (t0 : Nat) {cA : ClassId} (ht : tys[t0]? = some (cA, .object K)) {n : Int32} {N' : Nat} (hn : ¬ n < 0) (hN : n.toNatClampNeg = N') (hbytes : N' * 4 ≤ 536870912) (hc : cells + 1 ≤ R.cells) (hs : slots + N' ≤ R.slots) (hdg : decode cc pc = .ok (.anewarray index, 3))
    (h : ∀ q : Nat, jJ p l e R s m args below meth c (cells + 1) (slots + N') Q D A nL (ws ++ [(q, .inl (cA, N', .inr (.inr (.inr (.inr (fun _ => none))))))]) lv (pc + 3) (.ref q :: st)) : jJ p l e R s m args below meth c cells slots Q D A nL ws lv pc (.int n :: st) := by
  intro H locs ls hP hD hS hl
  refine va_newq C.1.1 C.1.2.1 C.1.2.2.2.1 (C.1.2.2.2.2 _ hcl) ho C.2.1 hP hD hS C.2.2.1 hn hN hbytes hc hs hdg (fun q cB H1 hK1 hP1 hD1 hS1 => ?_)
  have e := ra_obj (va_K_last hK1) (C.2.1.2 t0 _ ht).2
  subst e
  exact h q H1 locs ls hP1 hD1 hS1 hl
theorem j_new (C : jC p s m args meth c cc nL own Ts D tys A) {index : Nat} {K : String} {T : u_T} {N ci : Nat} {fs : List Value} (hin : ∀ w ∈ u_ws K T N, w ∈ Ts) (ty : Nat → FieldType) (hty : ∀ k, k < N → parseFieldDescriptor (T k).2.2.1 = some (ty k)) (hcl : Cond.classLink own index K ∈ Ts) (hinst : Cond.instantiable K N ∈ Ts) (hini : Cond.initialized K ∈ Ts) (hci : vwCl[ci]? = some (K, T, N)) (hfs : ∀ j, j < N → defaultValue (ty j) = vp_V fs j) (hc : cells + 1 ≤ R.cells) (hs : slots + N ≤ R.slots) (hdg : decode cc pc = .ok (.new index, 3))
    (h : ∀ q : Nat, jJ p l e R s m args below meth c (cells + 1) (slots + N) Q D A nL (ws ++ [(q, .inr (ci, fs))]) lv (pc + 3) (.ref q :: st)) : jJ p l e R s m args below meth c cells slots Q D A nL ws lv pc st :=
  fun H locs ls hP hD hS hl => va_new C.1.1 C.1.2.1 C.1.2.2.2.2 hin ty hty C.1.2.2.2.1 (C.1.2.2.2.2 _ hcl) (C.1.2.2.2.2 _ hinst) (C.1.2.2.2.2 _ hini) C.2.1 hP hD hS C.2.2.1 hci hfs hc hs hdg (fun q H1 hP1 hD1 hS1 => h q H1 locs ls hP1 hD1 hS1 hl)
theorem j_putF (C : jC p s m args meth c cc nL own Ts D tys A) {K : String} {T : u_T} {N ci index a : Nat} (hin : ∀ w ∈ u_ws K T N, w ∈ Ts) (ty0 : Nat → FieldType) (hty : ∀ k, k < N → parseFieldDescriptor (T k).2.2.1 = some (ty0 k)) (hnm : ∀ a, a < N → ∀ b, b < N → a ≠ b → (T a).2.1 ≠ (T b).2.1) (hmn : meth.name = "<init>") (q0 : Nat) {fs : List Value} (he : ws[q0]? = some (a, .inr (ci, fs))) (hc : vwCl[ci]? = some (K, T, N)) (k : Nat) (hk : k < N) (hw : Cond.fieldLink own index (T k).1 (T k).2.1 (T k).2.2.1 ∈ Ts) (hfin : (T k).2.2.2 = true) (hdecl : (T k).1 = own) {v : Value} (hn : narrow (ty0 k) v = v) (hfit : fits (ty0 k) v = true) (hl0 : k < fs.length) (hdg : decode cc pc = .ok (.putfield index, 3)) (h : jJ p l e R s m args below meth c cells slots Q D A nL (ws.set q0 (a, .inr (ci, fs.set k v))) lv (pc + 3) st) : jJ p l e R s m args below meth c cells slots Q D A nL ws lv pc (v :: .ref a :: st) :=
  fun H locs ls hP hD hS hl => va_putF C.1.1 C.1.2.1 C.1.2.2.2.2 hin ty0 hty hnm C.1.2.2.2.1 C.2.1 hP hD hS q0 he hc k hk (C.1.2.2.2.2 _ hw) (fun _ z => z) hfin hmn hdecl (hty k hk) hn hfit hl0 hdg (fun H1 locs1 hP1 hD1 hS1 => h H1 locs1 ls hP1 hD1 hS1 hl)
theorem j_pick {ws' : va_W} (is : List Nat) (hn : va_nd is = true) (hs : is.map (fun i => ws[i]?) = ws'.map some) (h : jJ p l e R s m args below meth c cells slots Q D A nL ws' lv pc st) : jJ p l e R s m args below meth c cells slots Q D A nL ws lv pc st := by
  intro H locs ls hP hD hS hl
  refine h H locs ls (hP.sub is ?_) (hD.sub is hn hs) hS hl
  have e : ∀ (is : List Nat) (w2 : va_W), is.map (fun i => ws[i]?) = w2.map some → is.filterMap (fun i => ws[i]?) = w2 := by
    intro is
    induction is with
    | nil => intro w2 h2; cases w2 with
      | nil => rfl
      | cons => simp at h2
    | cons i is ih => intro w2 h2; cases w2 with
      | nil => simp at h2
      | cons y w2 =>
        simp only [List.map_cons, List.cons.injEq] at h2
        rw [List.filterMap_cons, h2.1]
        simp only [ih w2 h2.2]
  exact e is ws' hs
/-- a constructor's call, of a nest mate's or not, with the rest of the world framed -/
theorem j_ctorN (C : jC p s m args meth c cc nL own Ts D tys A) {G : (Nat → Prop) → State → Prop} (hGs : jG G) (hg : G A s) {S : Type} {post : S → Prop} {F : S → va_W} {y : MethodName} {wy wy' : List Cond} {rm : Room} {bytes : ByteArray} {host : String} {maxL q mc ms : Nat} {As st0 : List Value} {wr wc : va_W} {idx : Nat} (n : Nat)
    (hM : jMv l D tys G y wy rm (.ref q :: As) wc post F mc ms) (hT : GoodIn Ts wy) (hw : wy = Cond.code y bytes maxL none :: wy') (hrc : rm.cells = mc) (hrs : rm.slots = ms) (hl : va_Nw (.methodLinkNest own idx y host) s) (hini : Cond.initialized y.cls ∈ Ts) (hin : Cond.instanceMethod y ∈ Ts) (hy1 : y.name = "<init>")
    (hd : y.cls ≠ "java/lang/invoke/MethodHandle" ∧ y.cls ≠ "java/lang/invoke/VarHandle" ∧ (parseMethodDescriptor y.desc).map (fun d => d.parameters.length) = some n) (hR : rm.frames + 1 ≤ R.frames ∧ 8 + (maxL + 11) + rm.locals ≤ R.locals)
    (hn : As.length = n) (hst : st0 = As.reverse ++ .ref q :: st) (hroom : (st.map fun v => v.category).sum ≤ 8) (hdg : decode cc pc = .ok (.invokespecial idx, 3)) (hf : cells + mc ≤ R.cells ∧ slots + ms ≤ R.slots)
    (h0 : ∀ u : S, post u → jJ p l e R s m args below meth c (cells + mc) (slots + ms) Q D A nL (wr ++ F u) lv (pc + 3) st) : jJ p l e R s m args below meth c cells slots Q D A nL (wr ++ wc) lv pc st0 := by
  intro H locs ls hP hD hS hlv
  subst hst
  have hFc := j_in (fr_dr hD) hS C.2.2.1
  refine va_callv (va_runIN (As := As) (rest := st) C.1 (hM H.size) ⟨va_cnB n C.1.2.2.2.2 hT hw hrc hrs hl (C.1.2.2.2.2 _ hini) hd hR, hy1, C.1.2.2.2.2 _ hin⟩ ⟨j_blind hGs, fun U hU hW => ⟨rfl, j_preB hGs hg C.2.1 C.2.2.1 (fr_r hP) (fr_dr hD) hS U hU hW⟩⟩ rfl hn hlv.1 rfl (lv_room hroom) hdg hf) hS (fun q _ hq => hFc q hq) hFc (fun u t H1 locs1 ht hvm hw hB hz hk hS1 => ?_)
  obtain ⟨hP1, hK1, hD1⟩ := hB
  rw [ht] at hP1
  obtain ⟨hP2, hD2⟩ := fr_join hP hD hFc hk hP1 hD1
  exact h0 u hw H1 locs1 ls hP2 hD2 hS1 hlv
theorem j_ctor (C : jC p s m args meth c cc nL own Ts D tys A) {G : (Nat → Prop) → State → Prop} (hGs : jG G) (hg : G A s) {S : Type} {post : S → Prop} {F : S → va_W} {y : MethodName} {wy wy' : List Cond} {rm : Room} {bytes : ByteArray} {maxL q mc ms : Nat} {As st0 : List Value} {wr wc : va_W} {idx : Nat} (n : Nat)
    (hM : jMv l D tys G y wy rm (.ref q :: As) wc post F mc ms) (hT : GoodIn Ts wy) (hw : wy = Cond.code y bytes maxL none :: wy') (hrc : rm.cells = mc) (hrs : rm.slots = ms) (hl : Cond.methodLink own idx y ∈ Ts) (hini : Cond.initialized y.cls ∈ Ts) (hin : Cond.instanceMethod y ∈ Ts) (hy1 : y.name = "<init>")
    (hd : y.cls ≠ "java/lang/invoke/MethodHandle" ∧ y.cls ≠ "java/lang/invoke/VarHandle" ∧ (parseMethodDescriptor y.desc).map (fun d => d.parameters.length) = some n) (hR : rm.frames + 1 ≤ R.frames ∧ 8 + (maxL + 11) + rm.locals ≤ R.locals)
    (hn : As.length = n) (hst : st0 = As.reverse ++ .ref q :: st) (hroom : (st.map fun v => v.category).sum ≤ 8) (hdg : decode cc pc = .ok (.invokespecial idx, 3)) (hf : cells + mc ≤ R.cells ∧ slots + ms ≤ R.slots)
    (h0 : ∀ u : S, post u → jJ p l e R s m args below meth c (cells + mc) (slots + ms) Q D A nL (wr ++ F u) lv (pc + 3) st) : jJ p l e R s m args below meth c cells slots Q D A nL (wr ++ wc) lv pc st0 := by
  intro H locs ls hP hD hS hlv
  subst hst
  have hFc := j_in (fr_dr hD) hS C.2.2.1
  refine va_callv (va_runI (As := As) (rest := st) C.1 (hM H.size) (cwI n C.1.2.2.2.2 hT hw hrc hrs (C.1.2.2.2.2 _ hini) (C.1.2.2.2.2 _ hl) (C.1.2.2.2.2 _ hin) hy1 hd hR) ⟨j_blind hGs, fun U hU hW => ⟨rfl, j_preB hGs hg C.2.1 C.2.2.1 (fr_r hP) (fr_dr hD) hS U hU hW⟩⟩ rfl hn hlv.1 rfl (lv_room hroom) hdg hf) hS (fun q _ hq => hFc q hq) hFc (fun u t H1 locs1 ht hvm hw hB hz hk hS1 => ?_)
  obtain ⟨hP1, hK1, hD1⟩ := hB
  rw [ht] at hP1
  obtain ⟨hP2, hD2⟩ := fr_join hP hD hFc hk hP1 hD1
  exact h0 u hw H1 locs1 ls hP2 hD2 hS1 hlv
end JRC

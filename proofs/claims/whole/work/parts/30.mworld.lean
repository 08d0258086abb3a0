/-! ===== both senders, the gate, the object itself ===== -/
abbrev jXS : Type := Nat → Int32
def xfl (h f0 f1 : Nat → Nat) (x : jXS) : List Value := [.ref (h 0), .ref (f0 0), .ref (f1 0), .int (x 3), .int (x 4), .int (x 5)]
def xcell (h f0 f1 : Nat → Nat) (ax : Nat) (x : jXS) : va_W := [(ax, .inr (6, xfl h f0 f1 x))]
abbrev jMS : Type := jXS × jSS × jSS × jGS
def mF (f0 f1 h : Nat → Nat) (ax : Nat) (cI cO : ClassId) (u : jMS) : va_W := acells f0 cI cO (bY h cO (scells f1 cI cO u.2.2.1 ++ xcell h f0 f1 ax u.1) u.2.2.2) u.2.1
theorem e_at (fA fB h f0 f1 : Nat → Nat) (ax : Nat) (cI cO : ClassId) (aA aB : jSS) (x : jXS) (b : jGS) : (acells fA cI cO (bY h cO (scells fB cI cO aB ++ xcell h f0 f1 ax x) b) aA)[22]? = some (ax, .inr (6, xfl h f0 f1 x)) := rfl
theorem e_fl0 (h f0 f1 : Nat → Nat) (x : jXS) : (xfl h f0 f1 x)[0]? = some (.ref (h 0)) := rfl
theorem e_fl1 (h f0 f1 : Nat → Nat) (x : jXS) : (xfl h f0 f1 x)[1]? = some (.ref (f0 0)) := rfl
theorem e_fl2 (h f0 f1 : Nat → Nat) (x : jXS) : (xfl h f0 f1 x)[2]? = some (.ref (f1 0)) := rfl
theorem e_fl3 (h f0 f1 : Nat → Nat) (x : jXS) : (xfl h f0 f1 x)[3]? = some (.int (x 3)) := rfl
theorem e_s3 (fA fB h f0 f1 : Nat → Nat) (ax : Nat) (cI cO : ClassId) (aA aB : jSS) (x : jXS) (b : jGS) (v : Int32) : (acells fA cI cO (bY h cO (scells fB cI cO aB ++ xcell h f0 f1 ax x) b) aA).set 22 (ax, .inr (6, (xfl h f0 f1 x).set 3 (.int v))) = acells fA cI cO (bY h cO (scells fB cI cO aB ++ xcell h f0 f1 ax (upd x 3 v)) b) aA := rfl
theorem e_fl4 (h f0 f1 : Nat → Nat) (x : jXS) : (xfl h f0 f1 x)[4]? = some (.int (x 4)) := rfl
theorem e_s4 (fA fB h f0 f1 : Nat → Nat) (ax : Nat) (cI cO : ClassId) (aA aB : jSS) (x : jXS) (b : jGS) (v : Int32) : (acells fA cI cO (bY h cO (scells fB cI cO aB ++ xcell h f0 f1 ax x) b) aA).set 22 (ax, .inr (6, (xfl h f0 f1 x).set 4 (.int v))) = acells fA cI cO (bY h cO (scells fB cI cO aB ++ xcell h f0 f1 ax (upd x 4 v)) b) aA := rfl
theorem e_fl5 (h f0 f1 : Nat → Nat) (x : jXS) : (xfl h f0 f1 x)[5]? = some (.int (x 5)) := rfl
theorem e_s5 (fA fB h f0 f1 : Nat → Nat) (ax : Nat) (cI cO : ClassId) (aA aB : jSS) (x : jXS) (b : jGS) (v : Int32) : (acells fA cI cO (bY h cO (scells fB cI cO aB ++ xcell h f0 f1 ax x) b) aA).set 22 (ax, .inr (6, (xfl h f0 f1 x).set 5 (.int v))) = acells fA cI cO (bY h cO (scells fB cI cO aB ++ xcell h f0 f1 ax (upd x 5 v)) b) aA := rfl
/-! a world's cells in another order -/
theorem va_P_perm {D : va_G} {ws ws' : va_W} {H : Heap} (hp : ws.Perm ws') (h : va_P D vwCl ws H) : va_P D vwCl ws' H := by
  intro k q hk
  have hm : q ∈ ws := hp.mem_iff.mpr (List.mem_of_getElem? hk)
  obtain ⟨i, hi⟩ := List.getElem?_of_mem hm
  exact h i q hi
theorem va_D_nd {A : Nat → Prop} {ws : va_W} (h : va_D A ws) : (ws.map Prod.fst).Nodup := by
  rw [List.nodup_iff_pairwise_ne, List.pairwise_iff_getElem]
  intro i j hi hj hij hne
  have hi2 : i < ws.length := by simpa using hi
  have hj2 : j < ws.length := by simpa using hj
  rw [List.getElem_map, List.getElem_map] at hne
  have := h.1 i j _ _ (List.getElem?_eq_getElem hi2) (List.getElem?_eq_getElem hj2) hne
  omega
theorem va_D_of {A : Nat → Prop} {ws : va_W} (hn : (ws.map Prod.fst).Nodup) (hA : ∀ q ∈ ws, A q.1) : va_D A ws := by
  refine ⟨fun i j p q hi hj e => ?_, fun k q hk => hA q (List.mem_of_getElem? hk)⟩
  have h1 : (ws.map Prod.fst)[i]? = some p.1 := by rw [List.getElem?_map, hi]; rfl
  have h2 : (ws.map Prod.fst)[j]? = some p.1 := by rw [List.getElem?_map, hj, e]; rfl
  have hl : i < (ws.map Prod.fst).length := (List.getElem?_eq_some_iff.mp h1).1
  exact (List.getElem?_inj hl hn).mp (h1.trans h2.symm)
theorem va_D_perm {A : Nat → Prop} {ws ws' : va_W} (hp : ws.Perm ws') (h : va_D A ws) : va_D A ws' := by
  refine va_D_of ((hp.map Prod.fst).nodup_iff.mp (va_D_nd h)) (fun q hq => ?_)
  obtain ⟨i, hi⟩ := List.getElem?_of_mem (hp.mem_iff.mpr hq)
  exact h.2 i q hi
theorem m_perm (fA fB h : Nat → Nat) (cI cO : ClassId) (aA aB : jSS) (X : va_W) (b : jGS) : (acells fA cI cO (bY h cO (scells fB cI cO aB ++ X) b) aA).Perm (acells fB cI cO (bY h cO (scells fA cI cO aA ++ X) b) aB) := by
  unfold acells bY
  have e : ∀ (S G T Z P : va_W), S ++ ((G ++ (T ++ Z)) ++ P) = (S ++ (G ++ T)) ++ (Z ++ P) := by intro S G T Z P; simp [List.append_assoc]
  rw [e, e]
  refine List.Perm.append_right _ ?_
  rw [← List.append_assoc, ← List.append_assoc]
  refine (List.perm_append_comm (l₁ := scells fA cI cO aA ++ gcells h cO b) (l₂ := scells fB cI cO aB)).trans ?_
  rw [List.append_assoc]
  exact List.Perm.append_left _ List.perm_append_comm
section JR8
variable {p : Program} {l : Launch} {e : Env} {R : Room} {s : State} {m : MethodId} {args : Array Value} {below : List Frame} {meth : Method} {c : Code} {cells slots : Nat} {Q : State → Prop} {D : va_G} {A : Nat → Prop} {nL : Nat} {cc : ByteArray} {own : String} {Ts : List Cond} {tys : List (ClassId × FieldType)} {ws : va_W} {lv : List (Nat × Value)} {pc : Nat} {st : List Value}
variable {f0 f1 h : Nat → Nat} {ax : Nat} {cI cJ cZ cO : ClassId} {x : jXS} {a0 a1 : jSS} {b : jGS}
theorem j_swap {fA fB : Nat → Nat} {aA aB : jSS} {X : va_W} (h0 : jJ p l e R s m args below meth c cells slots Q D A nL (acells fB cI cO (bY h cO (scells fA cI cO aA ++ X) b) aB) lv pc st) : jJ p l e R s m args below meth c cells slots Q D A nL (acells fA cI cO (bY h cO (scells fB cI cO aB ++ X) b) aA) lv pc st :=
  fun H locs ls hP hD hS hl => h0 H locs ls (va_P_perm (m_perm fA fB h cI cO aA aB X b) hP) (va_D_perm (m_perm fA fB h cI cO aA aB X b) hD) hS hl
theorem j_nmX {fA fB : Nat → Nat} {aA aB : jSS} (h0 : ∀ z : jXS, z = x → jJ p l e R s m args below meth c cells slots Q D A nL (acells fA cI cO (bY h cO (scells fB cI cO aB ++ xcell h f0 f1 ax z) b) aA) lv pc st) : jJ p l e R s m args below meth c cells slots Q D A nL (acells fA cI cO (bY h cO (scells fB cI cO aB ++ xcell h f0 f1 ax x) b) aA) lv pc st := h0 x rfl
theorem j_calliM (C : jC p s m args meth c cc nL own Ts D (jT cI cJ cZ cO) A) {G : (Nat → Prop) → State → Prop} (hGs : jG G) (hg : G A s) {post : Int32 → jXS → jSS → jSS → jGS → Prop} {y : MethodName} {wy wy' : List Cond} {rm : Room} {bytes : ByteArray} {maxL z : Nat} {ret : Option FieldType} {As st0 : List Value} {K : String} {T : u_T} {N ci idx : Nat} {fs : List Value} (n : Nat)
    (hM : jMi l D (jT cI cJ cZ cO) G y wy rm (.ref z :: As) (acells f0 cI cO (bY h cO (scells f1 cI cO a1 ++ xcell h f0 f1 ax x) b) a0) (fun r (u : jMS) => post r u.1 u.2.1 u.2.2.1 u.2.2.2) (mF f0 f1 h ax cI cO) 0 0) (hT : GoodIn Ts (wsV own idx K y wy)) (hw : wy = Cond.code y bytes maxL ret :: wy') (hrc : rm.cells = 0) (hrs : rm.slots = 0)
    (hd : y.cls = K ∧ y.cls ≠ "java/lang/invoke/MethodHandle" ∧ y.cls ≠ "java/lang/invoke/VarHandle" ∧ (parseMethodDescriptor y.desc).map (fun d => d.parameters.length) = some n) (hR : rm.frames + 1 ≤ R.frames ∧ 8 + (maxL + 11) + rm.locals ≤ R.locals)
    (q0 : Nat) (he : (acells f0 cI cO (bY h cO (scells f1 cI cO a1 ++ xcell h f0 f1 ax x) b) a0)[q0]? = some (z, .inr (ci, fs))) (hc : vwCl[ci]? = some (K, T, N)) (hn : As.length = n) (hst : st0 = As.reverse ++ .ref z :: st) (hroom : (st.map fun v => v.category).sum ≤ 8) (hdg : decode cc pc = .ok (.invokevirtual idx, 3)) (hf : cells ≤ R.cells ∧ slots ≤ R.slots)
    (h0 : ∀ (r : Int32) (zx : jXS) (z0 z1 : jSS) (zb : jGS), post r zx z0 z1 zb → jJ p l e R s m args below meth c cells slots Q D A nL (acells f0 cI cO (bY h cO (scells f1 cI cO z1 ++ xcell h f0 f1 ax zx) zb) z0) lv (pc + 3) (.int r :: st)) : jJ p l e R s m args below meth c cells slots Q D A nL (acells f0 cI cO (bY h cO (scells f1 cI cO a1 ++ xcell h f0 f1 ax x) b) a0) lv pc st0 :=
  j_calli0 C hGs hg n hM hT hw hrc hrs hd hR q0 he hc hn hst hroom hdg hf (fun r u hu => h0 r u.1 u.2.1 u.2.2.1 u.2.2.2 hu)
theorem j_calliN (C : jC p s m args meth c cc nL own Ts D (jT cI cJ cZ cO) A) {G : (Nat → Prop) → State → Prop} (hGs : jG G) (hg : G A s) {post : Int32 → jXS → jSS → jSS → jGS → Prop} {y : MethodName} {wy wy' : List Cond} {rm : Room} {bytes : ByteArray} {maxL z mc ms : Nat} {ret : Option FieldType} {As st0 : List Value} {K : String} {T : u_T} {N ci idx : Nat} {fs : List Value} (n : Nat)
    (hM : jMi l D (jT cI cJ cZ cO) G y wy rm (.ref z :: As) (acells f0 cI cO (bY h cO (scells f1 cI cO a1 ++ xcell h f0 f1 ax x) b) a0) (fun r (u : jMS) => post r u.1 u.2.1 u.2.2.1 u.2.2.2) (mF f0 f1 h ax cI cO) mc ms) (hT : GoodIn Ts (wsV own idx K y wy)) (hw : wy = Cond.code y bytes maxL ret :: wy') (hrc : rm.cells = mc) (hrs : rm.slots = ms)
    (hd : y.cls = K ∧ y.cls ≠ "java/lang/invoke/MethodHandle" ∧ y.cls ≠ "java/lang/invoke/VarHandle" ∧ (parseMethodDescriptor y.desc).map (fun d => d.parameters.length) = some n) (hR : rm.frames + 1 ≤ R.frames ∧ 8 + (maxL + 11) + rm.locals ≤ R.locals)
    (q0 : Nat) (he : (acells f0 cI cO (bY h cO (scells f1 cI cO a1 ++ xcell h f0 f1 ax x) b) a0)[q0]? = some (z, .inr (ci, fs))) (hc : vwCl[ci]? = some (K, T, N)) (hn : As.length = n) (hst : st0 = As.reverse ++ .ref z :: st) (hroom : (st.map fun v => v.category).sum ≤ 8) (hdg : decode cc pc = .ok (.invokevirtual idx, 3)) (hf : cells + mc ≤ R.cells ∧ slots + ms ≤ R.slots)
    (h0 : ∀ (r : Int32) (zx : jXS) (z0 z1 : jSS) (zb : jGS), post r zx z0 z1 zb → jJ p l e R s m args below meth c (cells + mc) (slots + ms) Q D A nL (acells f0 cI cO (bY h cO (scells f1 cI cO z1 ++ xcell h f0 f1 ax zx) zb) z0) lv (pc + 3) (.int r :: st)) : jJ p l e R s m args below meth c cells slots Q D A nL (acells f0 cI cO (bY h cO (scells f1 cI cO a1 ++ xcell h f0 f1 ax x) b) a0) lv pc st0 :=
  j_calli C hGs hg n hM hT hw hrc hrs hd hR q0 he hc hn hst hroom hdg hf (fun r u hu => h0 r u.1 u.2.1 u.2.2.1 u.2.2.2 hu)
theorem j_calllM (C : jC p s m args meth c cc nL own Ts D (jT cI cJ cZ cO) A) {G : (Nat → Prop) → State → Prop} (hGs : jG G) (hg : G A s) {post : Int64 → jXS → jSS → jSS → jGS → Prop} {y : MethodName} {wy wy' : List Cond} {rm : Room} {bytes : ByteArray} {maxL z : Nat} {ret : Option FieldType} {As st0 : List Value} {K : String} {T : u_T} {N ci idx : Nat} {fs : List Value} (n : Nat)
    (hM : jMl l D (jT cI cJ cZ cO) G y wy rm (.ref z :: As) (acells f0 cI cO (bY h cO (scells f1 cI cO a1 ++ xcell h f0 f1 ax x) b) a0) (fun r (u : jMS) => post r u.1 u.2.1 u.2.2.1 u.2.2.2) (mF f0 f1 h ax cI cO) 0 0) (hT : GoodIn Ts (wsV own idx K y wy)) (hw : wy = Cond.code y bytes maxL ret :: wy') (hrc : rm.cells = 0) (hrs : rm.slots = 0)
    (hd : y.cls = K ∧ y.cls ≠ "java/lang/invoke/MethodHandle" ∧ y.cls ≠ "java/lang/invoke/VarHandle" ∧ (parseMethodDescriptor y.desc).map (fun d => d.parameters.length) = some n) (hR : rm.frames + 1 ≤ R.frames ∧ 8 + (maxL + 11) + rm.locals ≤ R.locals)
    (q0 : Nat) (he : (acells f0 cI cO (bY h cO (scells f1 cI cO a1 ++ xcell h f0 f1 ax x) b) a0)[q0]? = some (z, .inr (ci, fs))) (hc : vwCl[ci]? = some (K, T, N)) (hn : As.length = n) (hst : st0 = As.reverse ++ .ref z :: st) (hroom : (st.map fun v => v.category).sum ≤ 8) (hdg : decode cc pc = .ok (.invokevirtual idx, 3)) (hf : cells ≤ R.cells ∧ slots ≤ R.slots)
    (h0 : ∀ (r : Int64) (zx : jXS) (z0 z1 : jSS) (zb : jGS), post r zx z0 z1 zb → jJ p l e R s m args below meth c cells slots Q D A nL (acells f0 cI cO (bY h cO (scells f1 cI cO z1 ++ xcell h f0 f1 ax zx) zb) z0) lv (pc + 3) (.long r :: st)) : jJ p l e R s m args below meth c cells slots Q D A nL (acells f0 cI cO (bY h cO (scells f1 cI cO a1 ++ xcell h f0 f1 ax x) b) a0) lv pc st0 :=
  j_calll0 C hGs hg n hM hT hw hrc hrs hd hR q0 he hc hn hst hroom hdg hf (fun r u hu => h0 r u.1 u.2.1 u.2.2.1 u.2.2.2 hu)
theorem j_calllN (C : jC p s m args meth c cc nL own Ts D (jT cI cJ cZ cO) A) {G : (Nat → Prop) → State → Prop} (hGs : jG G) (hg : G A s) {post : Int64 → jXS → jSS → jSS → jGS → Prop} {y : MethodName} {wy wy' : List Cond} {rm : Room} {bytes : ByteArray} {maxL z mc ms : Nat} {ret : Option FieldType} {As st0 : List Value} {K : String} {T : u_T} {N ci idx : Nat} {fs : List Value} (n : Nat)
    (hM : jMl l D (jT cI cJ cZ cO) G y wy rm (.ref z :: As) (acells f0 cI cO (bY h cO (scells f1 cI cO a1 ++ xcell h f0 f1 ax x) b) a0) (fun r (u : jMS) => post r u.1 u.2.1 u.2.2.1 u.2.2.2) (mF f0 f1 h ax cI cO) mc ms) (hT : GoodIn Ts (wsV own idx K y wy)) (hw : wy = Cond.code y bytes maxL ret :: wy') (hrc : rm.cells = mc) (hrs : rm.slots = ms)
    (hd : y.cls = K ∧ y.cls ≠ "java/lang/invoke/MethodHandle" ∧ y.cls ≠ "java/lang/invoke/VarHandle" ∧ (parseMethodDescriptor y.desc).map (fun d => d.parameters.length) = some n) (hR : rm.frames + 1 ≤ R.frames ∧ 8 + (maxL + 11) + rm.locals ≤ R.locals)
    (q0 : Nat) (he : (acells f0 cI cO (bY h cO (scells f1 cI cO a1 ++ xcell h f0 f1 ax x) b) a0)[q0]? = some (z, .inr (ci, fs))) (hc : vwCl[ci]? = some (K, T, N)) (hn : As.length = n) (hst : st0 = As.reverse ++ .ref z :: st) (hroom : (st.map fun v => v.category).sum ≤ 8) (hdg : decode cc pc = .ok (.invokevirtual idx, 3)) (hf : cells + mc ≤ R.cells ∧ slots + ms ≤ R.slots)
    (h0 : ∀ (r : Int64) (zx : jXS) (z0 z1 : jSS) (zb : jGS), post r zx z0 z1 zb → jJ p l e R s m args below meth c (cells + mc) (slots + ms) Q D A nL (acells f0 cI cO (bY h cO (scells f1 cI cO z1 ++ xcell h f0 f1 ax zx) zb) z0) lv (pc + 3) (.long r :: st)) : jJ p l e R s m args below meth c cells slots Q D A nL (acells f0 cI cO (bY h cO (scells f1 cI cO a1 ++ xcell h f0 f1 ax x) b) a0) lv pc st0 :=
  j_calll C hGs hg n hM hT hw hrc hrs hd hR q0 he hc hn hst hroom hdg hf (fun r u hu => h0 r u.1 u.2.1 u.2.2.1 u.2.2.2 hu)
theorem j_callvM (C : jC p s m args meth c cc nL own Ts D (jT cI cJ cZ cO) A) {G : (Nat → Prop) → State → Prop} (hGs : jG G) (hg : G A s) {post : jXS → jSS → jSS → jGS → Prop} {y : MethodName} {wy wy' : List Cond} {rm : Room} {bytes : ByteArray} {maxL z : Nat} {ret : Option FieldType} {As st0 : List Value} {K : String} {T : u_T} {N ci idx : Nat} {fs : List Value} (n : Nat)
    (hM : jMv l D (jT cI cJ cZ cO) G y wy rm (.ref z :: As) (acells f0 cI cO (bY h cO (scells f1 cI cO a1 ++ xcell h f0 f1 ax x) b) a0) (fun (u : jMS) => post u.1 u.2.1 u.2.2.1 u.2.2.2) (mF f0 f1 h ax cI cO) 0 0) (hT : GoodIn Ts (wsV own idx K y wy)) (hw : wy = Cond.code y bytes maxL ret :: wy') (hrc : rm.cells = 0) (hrs : rm.slots = 0)
    (hd : y.cls = K ∧ y.cls ≠ "java/lang/invoke/MethodHandle" ∧ y.cls ≠ "java/lang/invoke/VarHandle" ∧ (parseMethodDescriptor y.desc).map (fun d => d.parameters.length) = some n) (hR : rm.frames + 1 ≤ R.frames ∧ 8 + (maxL + 11) + rm.locals ≤ R.locals)
    (q0 : Nat) (he : (acells f0 cI cO (bY h cO (scells f1 cI cO a1 ++ xcell h f0 f1 ax x) b) a0)[q0]? = some (z, .inr (ci, fs))) (hc : vwCl[ci]? = some (K, T, N)) (hn : As.length = n) (hst : st0 = As.reverse ++ .ref z :: st) (hroom : (st.map fun v => v.category).sum ≤ 8) (hdg : decode cc pc = .ok (.invokevirtual idx, 3)) (hf : cells ≤ R.cells ∧ slots ≤ R.slots)
    (h0 : ∀ (zx : jXS) (z0 z1 : jSS) (zb : jGS), post zx z0 z1 zb → jJ p l e R s m args below meth c cells slots Q D A nL (acells f0 cI cO (bY h cO (scells f1 cI cO z1 ++ xcell h f0 f1 ax zx) zb) z0) lv (pc + 3) (st)) : jJ p l e R s m args below meth c cells slots Q D A nL (acells f0 cI cO (bY h cO (scells f1 cI cO a1 ++ xcell h f0 f1 ax x) b) a0) lv pc st0 :=
  j_callv0 C hGs hg n hM hT hw hrc hrs hd hR q0 he hc hn hst hroom hdg hf (fun u hu => h0 u.1 u.2.1 u.2.2.1 u.2.2.2 hu)
theorem j_callvN (C : jC p s m args meth c cc nL own Ts D (jT cI cJ cZ cO) A) {G : (Nat → Prop) → State → Prop} (hGs : jG G) (hg : G A s) {post : jXS → jSS → jSS → jGS → Prop} {y : MethodName} {wy wy' : List Cond} {rm : Room} {bytes : ByteArray} {maxL z mc ms : Nat} {ret : Option FieldType} {As st0 : List Value} {K : String} {T : u_T} {N ci idx : Nat} {fs : List Value} (n : Nat)
    (hM : jMv l D (jT cI cJ cZ cO) G y wy rm (.ref z :: As) (acells f0 cI cO (bY h cO (scells f1 cI cO a1 ++ xcell h f0 f1 ax x) b) a0) (fun (u : jMS) => post u.1 u.2.1 u.2.2.1 u.2.2.2) (mF f0 f1 h ax cI cO) mc ms) (hT : GoodIn Ts (wsV own idx K y wy)) (hw : wy = Cond.code y bytes maxL ret :: wy') (hrc : rm.cells = mc) (hrs : rm.slots = ms)
    (hd : y.cls = K ∧ y.cls ≠ "java/lang/invoke/MethodHandle" ∧ y.cls ≠ "java/lang/invoke/VarHandle" ∧ (parseMethodDescriptor y.desc).map (fun d => d.parameters.length) = some n) (hR : rm.frames + 1 ≤ R.frames ∧ 8 + (maxL + 11) + rm.locals ≤ R.locals)
    (q0 : Nat) (he : (acells f0 cI cO (bY h cO (scells f1 cI cO a1 ++ xcell h f0 f1 ax x) b) a0)[q0]? = some (z, .inr (ci, fs))) (hc : vwCl[ci]? = some (K, T, N)) (hn : As.length = n) (hst : st0 = As.reverse ++ .ref z :: st) (hroom : (st.map fun v => v.category).sum ≤ 8) (hdg : decode cc pc = .ok (.invokevirtual idx, 3)) (hf : cells + mc ≤ R.cells ∧ slots + ms ≤ R.slots)
    (h0 : ∀ (zx : jXS) (z0 z1 : jSS) (zb : jGS), post zx z0 z1 zb → jJ p l e R s m args below meth c (cells + mc) (slots + ms) Q D A nL (acells f0 cI cO (bY h cO (scells f1 cI cO z1 ++ xcell h f0 f1 ax zx) zb) z0) lv (pc + 3) (st)) : jJ p l e R s m args below meth c cells slots Q D A nL (acells f0 cI cO (bY h cO (scells f1 cI cO a1 ++ xcell h f0 f1 ax x) b) a0) lv pc st0 :=
  j_callv C hGs hg n hM hT hw hrc hrs hd hR q0 he hc hn hst hroom hdg hf (fun u hu => h0 u.1 u.2.1 u.2.2.1 u.2.2.2 hu)
theorem j_callqM (C : jC p s m args meth c cc nL own Ts D (jT cI cJ cZ cO) A) {G : (Nat → Prop) → State → Prop} (hGs : jG G) (hg : G A s) {post : Option Nat → jXS → jSS → jSS → jGS → Prop} {y : MethodName} {wy wy' : List Cond} {rm : Room} {bytes : ByteArray} {maxL z : Nat} {ret : Option FieldType} {As st0 : List Value} {K : String} {T : u_T} {N ci idx : Nat} {fs : List Value} (n : Nat)
    (hM : jMq l D (jT cI cJ cZ cO) G y wy rm (.ref z :: As) (acells f0 cI cO (bY h cO (scells f1 cI cO a1 ++ xcell h f0 f1 ax x) b) a0) (fun r (u : jMS) => post r u.1 u.2.1 u.2.2.1 u.2.2.2) (mF f0 f1 h ax cI cO) 0 0) (hT : GoodIn Ts (wsV own idx K y wy)) (hw : wy = Cond.code y bytes maxL ret :: wy') (hrc : rm.cells = 0) (hrs : rm.slots = 0)
    (hd : y.cls = K ∧ y.cls ≠ "java/lang/invoke/MethodHandle" ∧ y.cls ≠ "java/lang/invoke/VarHandle" ∧ (parseMethodDescriptor y.desc).map (fun d => d.parameters.length) = some n) (hR : rm.frames + 1 ≤ R.frames ∧ 8 + (maxL + 11) + rm.locals ≤ R.locals)
    (q0 : Nat) (he : (acells f0 cI cO (bY h cO (scells f1 cI cO a1 ++ xcell h f0 f1 ax x) b) a0)[q0]? = some (z, .inr (ci, fs))) (hc : vwCl[ci]? = some (K, T, N)) (hn : As.length = n) (hst : st0 = As.reverse ++ .ref z :: st) (hroom : (st.map fun v => v.category).sum ≤ 8) (hdg : decode cc pc = .ok (.invokevirtual idx, 3)) (hf : cells ≤ R.cells ∧ slots ≤ R.slots)
    (h0 : ∀ (r : Option Nat) (zx : jXS) (z0 z1 : jSS) (zb : jGS), post r zx z0 z1 zb → jJ p l e R s m args below meth c cells slots Q D A nL (acells f0 cI cO (bY h cO (scells f1 cI cO z1 ++ xcell h f0 f1 ax zx) zb) z0) lv (pc + 3) (va_rf r :: st)) : jJ p l e R s m args below meth c cells slots Q D A nL (acells f0 cI cO (bY h cO (scells f1 cI cO a1 ++ xcell h f0 f1 ax x) b) a0) lv pc st0 :=
  j_callq0 C hGs hg n hM hT hw hrc hrs hd hR q0 he hc hn hst hroom hdg hf (fun r u hu => h0 r u.1 u.2.1 u.2.2.1 u.2.2.2 hu)
theorem j_callqN (C : jC p s m args meth c cc nL own Ts D (jT cI cJ cZ cO) A) {G : (Nat → Prop) → State → Prop} (hGs : jG G) (hg : G A s) {post : Option Nat → jXS → jSS → jSS → jGS → Prop} {y : MethodName} {wy wy' : List Cond} {rm : Room} {bytes : ByteArray} {maxL z mc ms : Nat} {ret : Option FieldType} {As st0 : List Value} {K : String} {T : u_T} {N ci idx : Nat} {fs : List Value} (n : Nat)
    (hM : jMq l D (jT cI cJ cZ cO) G y wy rm (.ref z :: As) (acells f0 cI cO (bY h cO (scells f1 cI cO a1 ++ xcell h f0 f1 ax x) b) a0) (fun r (u : jMS) => post r u.1 u.2.1 u.2.2.1 u.2.2.2) (mF f0 f1 h ax cI cO) mc ms) (hT : GoodIn Ts (wsV own idx K y wy)) (hw : wy = Cond.code y bytes maxL ret :: wy') (hrc : rm.cells = mc) (hrs : rm.slots = ms)
    (hd : y.cls = K ∧ y.cls ≠ "java/lang/invoke/MethodHandle" ∧ y.cls ≠ "java/lang/invoke/VarHandle" ∧ (parseMethodDescriptor y.desc).map (fun d => d.parameters.length) = some n) (hR : rm.frames + 1 ≤ R.frames ∧ 8 + (maxL + 11) + rm.locals ≤ R.locals)
    (q0 : Nat) (he : (acells f0 cI cO (bY h cO (scells f1 cI cO a1 ++ xcell h f0 f1 ax x) b) a0)[q0]? = some (z, .inr (ci, fs))) (hc : vwCl[ci]? = some (K, T, N)) (hn : As.length = n) (hst : st0 = As.reverse ++ .ref z :: st) (hroom : (st.map fun v => v.category).sum ≤ 8) (hdg : decode cc pc = .ok (.invokevirtual idx, 3)) (hf : cells + mc ≤ R.cells ∧ slots + ms ≤ R.slots)
    (h0 : ∀ (r : Option Nat) (zx : jXS) (z0 z1 : jSS) (zb : jGS), post r zx z0 z1 zb → jJ p l e R s m args below meth c (cells + mc) (slots + ms) Q D A nL (acells f0 cI cO (bY h cO (scells f1 cI cO z1 ++ xcell h f0 f1 ax zx) zb) z0) lv (pc + 3) (va_rf r :: st)) : jJ p l e R s m args below meth c cells slots Q D A nL (acells f0 cI cO (bY h cO (scells f1 cI cO a1 ++ xcell h f0 f1 ax x) b) a0) lv pc st0 :=
  j_callq C hGs hg n hM hT hw hrc hrs hd hR q0 he hc hn hst hroom hdg hf (fun r u hu => h0 r u.1 u.2.1 u.2.2.1 u.2.2.2 hu)
end JR8

/-! THE CLAIM OUT OF ONE WALK OF THE LAW'S BODY. Your part is whole_start (and what it stands on); all else here is the same for every law, but numbers. -/
def R_law : String := "ModelSenderLaw"
def lw_P (b : Addr) (xs : List Int32) (args : Array Value) (s : State) : Prop := args = #[.ref b] ∧ s.IntsAt b xs ∧ xs.length ≤ 2048 ∧ (Jvm.Cond.and given_1 narrow_1).before args s = true
def lw_Q (_ : Array Value) (s : State) (o : Outcome) (t : State) : Prop := o = .returned (some (.int 1)) ∧ Framed s o t [] 600000 7302249
def lw_Z (below : List Frame) (a : Array Value) (s : State) : State → Prop := fun t => ∃ o, t.status = .running ∧ Ended t below o ∧ lw_Q a s o t
/-- the law's own end, with 1 on the stack, nothing written that was there before, its room as the claim has it -/
theorem lw_ret {p : Program} {l : Launch} {e : Env} {s : State} {m : MethodId} {below : List Frame} {meth : Method} {c : Code} {b : Nat} (hx : p.tables.exec = Jvm.exec) (hb : c.code = code) (hr : meth.sig.returnType = ret) (hlocks : meth.locks = false) {pc : Nat} {H : Heap} {ls : Array Slot} (hdg : decode code pc = .ok (.ireturn, 1)) : W p l e room_1 s m #[Value.ref b] below meth c H [] 600000 7302249 (lw_Z below #[Value.ref b] s) (F0 m pc ls [.int 1]) := by
  intro T hT X
  obtain ⟨fs, hret, hrun, hended, hW, hframe⟩ := X.leave (v := some (.int 1)) (hlocks := hlocks) (fun h => by rw [hr] at h; cases h)
  have hmeth' : T.vm.method? m = some meth := X.method'
  refine ⟨T.setFrames fs, ?_, .returned (some (.int 1)), hrun, hended, rfl, ⟨_, rfl⟩, hW, hframe⟩
  jvm_step X.here [X.here.top, hx, hb, hdg, hmeth', hr, ret, narrow_b1]
  (try refine ⟨rfl, ?_⟩); (try refine ⟨rfl, ?_⟩)
  first | (intro acts; rw [hret _ acts rfl rfl rfl]) | rw [hret _ _ rfl rfl rfl]
  exact Steps.refl _
/-- what holds at the law's entry: the machine, the code, the tables' words (any of lw_tbl by 'hts w (by decide +kernel)'), the script of L ints xs at the cell b, what the Statement gives of the start (any of its parts by flat_of_before) -/
def lw_At (p : Program) (s : State) (m : MethodId) (meth : Method) (c : Code) (b L : Nat) (xs : Nat → Int32) : Prop :=
  p.tables.exec = Jvm.exec ∧ c.code = code ∧ meth.sig.returnType = ret ∧ c.maxLocals = 4 ∧ s.vm.findClass R_law = some m.cls ∧ (∀ w ∈ lw_tbl, w.before #[Value.ref b] s = true) ∧ va_X b L xs s s.heap ∧ b < s.heap.size ∧ meth.locks = false ∧ (Jvm.Cond.and given_1 narrow_1).before #[Value.ref b] s = true

section JRL
variable {p : Program} {l : Launch} {e : Env} {R : Room} {s : State} {m : MethodId} {args : Array Value} {below : List Frame} {meth : Method} {c : Code} {cells slots : Nat} {Q : State → Prop} {D : va_G} {A : Nat → Prop} {nL : Nat} {cc : ByteArray} {own : String} {Ts : List Cond} {tys : List (ClassId × FieldType)} {ws : va_W} {lv : List (Nat × Value)} {pc : Nat} {st : List Value}
theorem j_comm {w1 w2 : va_W} (h0 : jJ p l e R s m args below meth c cells slots Q D A nL (w2 ++ w1) lv pc st) : jJ p l e R s m args below meth c cells slots Q D A nL (w1 ++ w2) lv pc st :=
  fun H locs ls hP hD hS hl => h0 H locs ls (va_P_perm List.perm_append_comm hP) (va_D_perm List.perm_append_comm hD) hS hl
theorem j_sld (C : jC p s m args meth c cc nL own Ts D tys A) {b L : Nat} {xs : Nat → Int32} (hX : va_X b L xs s s.heap) (hbl : b < s.heap.size) (hbA : ¬ A b) {i : Int32} (hin : vp_in i L) (hdg : decode cc pc = .ok (.iaload, 1)) (h0 : jJ p l e R s m args below meth c cells slots Q D A nL ws lv (pc + 1) (.int (xs i.toNatClampNeg) :: st)) : jJ p l e R s m args below meth c cells slots Q D A nL ws lv pc (.int i :: .ref b :: st) :=
  fun H locs ls hP hD hS hl => va_sld C.1.1 C.1.2.1 hX hbl hbA hS hin hdg (h0 H locs ls hP hD hS hl)
theorem j_slen (C : jC p s m args meth c cc nL own Ts D tys A) {b L : Nat} {xs : Nat → Int32} (hX : va_X b L xs s s.heap) (hbl : b < s.heap.size) (hbA : ¬ A b) (hdg : decode cc pc = .ok (.arraylength, 1)) (h0 : jJ p l e R s m args below meth c cells slots Q D A nL ws lv (pc + 1) (.int (nI L) :: st)) : jJ p l e R s m args below meth c cells slots Q D A nL ws lv pc (.ref b :: st) :=
  fun H locs ls hP hD hS hl => va_slen C.1.1 C.1.2.1 hX hbl hbA hS hdg (h0 H locs ls hP hD hS hl)
theorem j_callFi (C : jC p s m args meth c cc nL own Ts D tys A) {G : (Nat → Prop) → State → Prop} (hGs : jG G) (hg : G A s) {S : Type} {post : Int32 → S → Prop} {F : S → va_W} {y : MethodName} {wy wy' : List Cond} {rm : Room} {bytes : ByteArray} {maxL mc ms b : Nat} {ret : Option FieldType} {As st0 : List Value} {K : String} {T : u_T} {N ci idx : Nat} {fs : List Value} {wr wc : va_W} (n : Nat)
    (hM : jMi l D tys G y wy rm (.ref b :: As) wc post F mc ms) (hT : GoodIn Ts (wsV own idx K y wy)) (hw : wy = Cond.code y bytes maxL ret :: wy') (hrc : rm.cells = mc) (hrs : rm.slots = ms)
    (hd : y.cls = K ∧ y.cls ≠ "java/lang/invoke/MethodHandle" ∧ y.cls ≠ "java/lang/invoke/VarHandle" ∧ (parseMethodDescriptor y.desc).map (fun d => d.parameters.length) = some n) (hR : rm.frames + 1 ≤ R.frames ∧ 8 + (maxL + 11) + rm.locals ≤ R.locals)
    (q0 : Nat) (he : wc[q0]? = some (b, .inr (ci, fs))) (hc : vwCl[ci]? = some (K, T, N)) (hn : As.length = n) (hst : st0 = As.reverse ++ .ref b :: st) (hroom : (st.map fun v => v.category).sum ≤ 8) (hdg : decode cc pc = .ok (.invokevirtual idx, 3)) (hf : cells + mc ≤ R.cells ∧ slots + ms ≤ R.slots)
    (h0 : ∀ (r : Int32) (u : S), post r u → jJ p l e R s m args below meth c (cells + mc) (slots + ms) Q D A nL (wr ++ F u) lv (pc + 3) (.int r :: st)) : jJ p l e R s m args below meth c cells slots Q D A nL (wr ++ wc) lv pc st0 := by
  intro H locs ls hP hD hS hl
  subst hst
  have hFc := j_in (fr_dr hD) hS C.2.2.1
  refine va_calli (va_runV (As := As) (rest := st) C.1 (hM H.size) (cwV n C.1.2.2.2.2 hT hw hrc hrs hd hR) ⟨j_blind hGs, va_recv C.2.1 (fr_r hP) hc he, fun U hU hW => ⟨rfl, j_preB hGs hg C.2.1 C.2.2.1 (fr_r hP) (fr_dr hD) hS U hU hW⟩⟩ rfl hn hl.1 rfl (lv_room hroom) hdg hf) hS (fun q _ hq => hFc q hq) hFc (fun r u t H1 locs1 ht hvm hw hB hz hk hS1 => ?_)
  obtain ⟨hP1, hK1, hD1⟩ := hB
  rw [ht] at hP1
  obtain ⟨hP2, hD2⟩ := fr_join hP hD hFc hk hP1 hD1
  exact h0 r u hw H1 locs1 ls hP2 hD2 hS1 hl
theorem j_callFl (C : jC p s m args meth c cc nL own Ts D tys A) {G : (Nat → Prop) → State → Prop} (hGs : jG G) (hg : G A s) {S : Type} {post : Int64 → S → Prop} {F : S → va_W} {y : MethodName} {wy wy' : List Cond} {rm : Room} {bytes : ByteArray} {maxL mc ms b : Nat} {ret : Option FieldType} {As st0 : List Value} {K : String} {T : u_T} {N ci idx : Nat} {fs : List Value} {wr wc : va_W} (n : Nat)
    (hM : jMl l D tys G y wy rm (.ref b :: As) wc post F mc ms) (hT : GoodIn Ts (wsV own idx K y wy)) (hw : wy = Cond.code y bytes maxL ret :: wy') (hrc : rm.cells = mc) (hrs : rm.slots = ms)
    (hd : y.cls = K ∧ y.cls ≠ "java/lang/invoke/MethodHandle" ∧ y.cls ≠ "java/lang/invoke/VarHandle" ∧ (parseMethodDescriptor y.desc).map (fun d => d.parameters.length) = some n) (hR : rm.frames + 1 ≤ R.frames ∧ 8 + (maxL + 11) + rm.locals ≤ R.locals)
    (q0 : Nat) (he : wc[q0]? = some (b, .inr (ci, fs))) (hc : vwCl[ci]? = some (K, T, N)) (hn : As.length = n) (hst : st0 = As.reverse ++ .ref b :: st) (hroom : (st.map fun v => v.category).sum ≤ 8) (hdg : decode cc pc = .ok (.invokevirtual idx, 3)) (hf : cells + mc ≤ R.cells ∧ slots + ms ≤ R.slots)
    (h0 : ∀ (r : Int64) (u : S), post r u → jJ p l e R s m args below meth c (cells + mc) (slots + ms) Q D A nL (wr ++ F u) lv (pc + 3) (.long r :: st)) : jJ p l e R s m args below meth c cells slots Q D A nL (wr ++ wc) lv pc st0 := by
  intro H locs ls hP hD hS hl
  subst hst
  have hFc := j_in (fr_dr hD) hS C.2.2.1
  refine va_calll (va_runV (As := As) (rest := st) C.1 (hM H.size) (cwV n C.1.2.2.2.2 hT hw hrc hrs hd hR) ⟨j_blind hGs, va_recv C.2.1 (fr_r hP) hc he, fun U hU hW => ⟨rfl, j_preB hGs hg C.2.1 C.2.2.1 (fr_r hP) (fr_dr hD) hS U hU hW⟩⟩ rfl hn hl.1 rfl (lv_room hroom) hdg hf) hS (fun q _ hq => hFc q hq) hFc (fun r u t H1 locs1 ht hvm hw hB hz hk hS1 => ?_)
  obtain ⟨hP1, hK1, hD1⟩ := hB
  rw [ht] at hP1
  obtain ⟨hP2, hD2⟩ := fr_join hP hD hFc hk hP1 hD1
  exact h0 r u hw H1 locs1 ls hP2 hD2 hS1 hl
end JRL
theorem lw_len {L k : Nat} (hL : L ≤ 2048) (hk : 4 * k ≤ L) (h : ¬ nI L - 4 < nI (4 * k)) : 4 * k + 4 ≤ L := by
  have e4 : (4 : Int32) = nI 4 := by decide
  have e : (nI L - nI 4).toInt = (L : Int) - 4 := pk_sub_toInt (by omega) (by omega)
  rw [e4, Int32.lt_iff_toInt_lt, e, nI_toInt (by omega)] at h
  omega
theorem lw_ix {L k j : Nat} {x3 J : Int32} (hL : L ≤ 2048) (hk : 4 * k + 4 ≤ L) (hj : j < 4) (e3 : x3 = nI (4 * k)) (eJ : J = nI j) : vp_in (x3 + J) L := by
  rw [e3, eJ, nI_add]
  exact vp_in_nI (by omega) (by omega)
theorem lw_ix0 {L k : Nat} {x3 : Int32} (hL : L ≤ 2048) (hk : 4 * k + 4 ≤ L) (e3 : x3 = nI (4 * k)) : vp_in x3 L := by
  rw [e3]
  exact vp_in_nI (by omega) (by omega)
set_option maxHeartbeats 8000000 in
set_option maxRecDepth 100000 in
/-- the law's loop: for any tie I between the class's state and the reference's that every call keeps, with equal answers -/
theorem law_loop {p : Program} {l : Launch} {e : Env} {s : State} {m : MethodId} {below : List Frame} {meth : Method} {c : Code} {D : va_G} {cI cJ cZ cO : ClassId} {a f0 f1 h : Nat → Nat} {ax bs L N : Nat} {xs : Nat → Int32} (I : Nat → jXS → jSS → jSS → jGS → jRS → Prop)
    (H0 : ∀ (k : Nat) (x : jXS) (a0 a1 : jSS) (b : jGS) (σ : jRS) (p1 p2 p3 : Int32), I k x a0 a1 b σ → k < 512 → wX6_gate N x a0 a1 b p1 p2 p3 (fun r x2 z0 z1 zb => wX7_gate N σ p1 p2 p3 (fun r2 σ2 => r = r2 ∧ I (k + 1) x2 z0 z1 zb σ2)))
    (H1 : ∀ (k : Nat) (x : jXS) (a0 a1 : jSS) (b : jGS) (σ : jRS) (p1 : Int32), I k x a0 a1 b σ → k < 512 → wX6_guests N x a0 a1 b p1 (fun r x2 z0 z1 zb => wX7_guests N σ p1 (fun r2 σ2 => r = r2 ∧ I (k + 1) x2 z0 z1 zb σ2)))
    (H2 : ∀ (k : Nat) (x : jXS) (a0 a1 : jSS) (b : jGS) (σ : jRS) (p1 p2 : Int32), I k x a0 a1 b σ → k < 512 → wX6_stock N x a0 a1 b p1 p2 (fun r x2 z0 z1 zb => wX7_stock N σ p1 p2 (fun r2 σ2 => r = r2 ∧ I (k + 1) x2 z0 z1 zb σ2)))
    (H3 : ∀ (k : Nat) (x : jXS) (a0 a1 : jSS) (b : jGS) (σ : jRS) (p1 : Int32), I k x a0 a1 b σ → k < 512 → wX6_pass N 525 (f0 0) (f1 0) (h 2) x a0 a1 b 0 p1 (fun r x2 z0 z1 zb => wX7_pass N σ p1 (fun r2 σ2 => r = r2 ∧ I (k + 1) x2 z0 z1 zb σ2)))
    (H4 : ∀ (k : Nat) (x : jXS) (a0 a1 : jSS) (b : jGS) (σ : jRS) (p1 : Int32), I k x a0 a1 b σ → k < 512 → wX6_ofGate N x a0 a1 b p1 (fun r x2 z0 z1 zb => wX7_ofGate N σ p1 (fun r2 σ2 => r = r2 ∧ I (k + 1) x2 z0 z1 zb σ2)))
    (H5 : ∀ (k : Nat) (x : jXS) (a0 a1 : jSS) (b : jGS) (σ : jRS) (p1 : Int32), I k x a0 a1 b σ → k < 512 → wX6_busy N x a0 a1 b p1 (fun r x2 z0 z1 zb => wX7_busy N σ p1 (fun r2 σ2 => r = r2 ∧ I (k + 1) x2 z0 z1 zb σ2)))
    (H6 : ∀ (k : Nat) (x : jXS) (a0 a1 : jSS) (b : jGS) (σ : jRS) (p1 p2 : Int32), I k x a0 a1 b σ → k < 512 → wX6_ofSender N x a0 a1 b p1 p2 (fun r x2 z0 z1 zb => wX7_ofSender N σ p1 p2 (fun r2 σ2 => r = r2 ∧ I (k + 1) x2 z0 z1 zb σ2)))
    (H7 : ∀ (k : Nat) (x : jXS) (a0 a1 : jSS) (b : jGS) (σ : jRS) (p1 p2 p3 : Int32), I k x a0 a1 b σ → k < 512 → wX6_sample N x a0 a1 b p1 p2 p3 (fun r x2 z0 z1 zb => wX7_sample N σ p1 p2 p3 (fun r2 σ2 => r = r2 ∧ I (k + 1) x2 z0 z1 zb σ2)))
    (H8 : ∀ (k : Nat) (x : jXS) (a0 a1 : jSS) (b : jGS) (σ : jRS) (p1 p2 : Int32), I k x a0 a1 b σ → k < 512 → wX6_best N x a0 a1 b p1 p2 (fun r x2 z0 z1 zb => wX7_best N σ p1 p2 (fun r2 σ2 => r = r2 ∧ I (k + 1) x2 z0 z1 zb σ2)))
    (H9 : ∀ (k : Nat) (x : jXS) (a0 a1 : jSS) (b : jGS) (σ : jRS) (p1 p2 p3 : Int32), I k x a0 a1 b σ → k < 512 → wX6_letter N x a0 a1 b p1 p2 p3 (fun r x2 z0 z1 zb => wX7_letter N σ p1 p2 p3 (fun r2 σ2 => r = r2 ∧ I (k + 1) x2 z0 z1 zb σ2)))
    (H10 : ∀ (k : Nat) (x : jXS) (a0 a1 : jSS) (b : jGS) (σ : jRS) (p1 p2 : Int32), I k x a0 a1 b σ → k < 512 → wX6_phase N x a0 a1 b p1 p2 (fun r x2 z0 z1 zb => wX7_phase N σ p1 p2 (fun r2 σ2 => r = r2 ∧ I (k + 1) x2 z0 z1 zb σ2)))
    (H11 : ∀ (k : Nat) (x : jXS) (a0 a1 : jSS) (b : jGS) (σ : jRS) (p1 p2 : Int32), I k x a0 a1 b σ → k < 512 → wX6_model N x a0 a1 b p1 p2 (fun r x2 z0 z1 zb => wX7_model N σ p1 p2 (fun r2 σ2 => r = r2 ∧ I (k + 1) x2 z0 z1 zb σ2)))
    (H12 : ∀ (k : Nat) (x : jXS) (a0 a1 : jSS) (b : jGS) (σ : jRS) (p1 p2 p3 : Int32), I k x a0 a1 b σ → k < 512 → wX6_turn N x a0 a1 b p1 p2 p3 (fun r x2 z0 z1 zb => wX7_turn N σ p1 p2 p3 (fun r2 σ2 => r = r2 ∧ I (k + 1) x2 z0 z1 zb σ2)))
    (H13 : ∀ (k : Nat) (x : jXS) (a0 a1 : jSS) (b : jGS) (σ : jRS) (p1 : Int32), I k x a0 a1 b σ → k < 512 → wX6_many N x a0 a1 b p1 (fun r x2 z0 z1 zb => wX7_many N σ p1 (fun r2 σ2 => r = r2 ∧ I (k + 1) x2 z0 z1 zb σ2)))
    (Hd : ∀ (k : Nat) (x : jXS) (a0 a1 : jSS) (b : jGS) (σ : jRS), I k x a0 a1 b σ → I (k + 1) x a0 a1 b σ)
    (C : jC p s m #[Value.ref bs] meth c code 4 R_law wsL_law D (jT cI cJ cZ cO) (fun q : Nat => s.heap.size ≤ q)) (hr : meth.sig.returnType = ret) (hX : va_X bs L xs s s.heap) (hbl : bs < s.heap.size) (hL : L ≤ 2048) (hgz : gz (fun q : Nat => s.heap.size ≤ q) s) :
    ∀ (n k : Nat) (x3 : Int32) (x : jXS) (a0 a1 : jSS) (b : jGS) (σ : jRS), 513 ≤ k + n → 4 * k ≤ L → x3 = nI (4 * k) → I k x a0 a1 b σ → jJ p l e room_1 s m #[Value.ref bs] below meth c (62 + 525 * k) (45177 + 4200 * k) (lw_Z below #[Value.ref bs] s) D (fun q : Nat => s.heap.size ≤ q) 4 (rcells a cI cJ cZ σ ++ (acells f0 cI cO (bY h cO (scells f1 cI cO a1 ++ xcell h f0 f1 ax x) b) a0)) [(0, .ref bs), (1, .ref ax), (2, .ref (a 0)), (3, .int x3)] 18 [] := by
  have hbA : ¬ (fun q : Nat => s.heap.size ≤ q) bs := Nat.not_le.mpr hbl
  intro n
  induction n with
  | zero =>
    intro k x3 x a0 a1 b σ h1 h2
    exact absurd h1 (by omega)
  | succ n ih =>
    intro k x3 x a0 a1 b σ hn hk ex3 hI
    refine j_iload_n (pc := 18) C dL_law_18 3 rfl rfl ?_
    refine j_aload_n (pc := 19) C dL_law_19 0 rfl rfl ?_
    refine j_slen (pc := 20) C hX hbl hbA dL_law_20 ?_
    refine j_iconst (pc := 21) (v := 4) C dL_law_21 (by decide) ?_
    refine j_isub (pc := 22) C dL_law_22 ?_
    refine j_icmp_gt (pc := 23) C 563 dL_law_23 (by decide) (fun z => ?_) (fun z => ?_)
    · refine j_iconst (pc := 563) (v := 1) C dL_law_563 (by decide) ?_
      refine j_widen (k := 600000) (n := 7302249) (by omega) (by omega) ?_
      intro H locs ls hP hD hS hl
      refine va_forget (fun q hq => hS.2.2 q hq) ?_
      exact lw_ret C.1.1 C.1.2.1 hr C.2.2.2 dL_law_564
    · rw [ex3] at z
      have hk4 := lw_len hL hk z
      have hend : ∀ (x2 : jXS) (z0 z1 : jSS) (zb : jGS) (σ2 : jRS), k + 1 ≤ 512 → I (k + 1) x2 z0 z1 zb σ2 → jJ p l e room_1 s m #[Value.ref bs] below meth c (62 + 525 * (k + 1)) (45177 + 4200 * (k + 1)) (lw_Z below #[Value.ref bs] s) D (fun q : Nat => s.heap.size ≤ q) 4 (rcells a cI cJ cZ σ2 ++ acells f0 cI cO (bY h cO (scells f1 cI cO z1 ++ xcell h f0 f1 ax x2) zb) z0) [(0, .ref bs), (1, .ref ax), (2, .ref (a 0)), (3, .int x3)] 557 [] := by
        intro x2 z0 z1 zb σ2 hk1 hI2
        refine j_iinc (pc := 557) (v := nI (4 * (k + 1))) (lv' := [(0, .ref bs), (1, .ref ax), (2, .ref (a 0)), (3, .int (nI (4 * (k + 1))))]) C [1, 2, 3, 0] 3 dL_law_557 rfl (by rw [ex3]; exact nI_add (4 * k) 4) (by decide) rfl ?_
        refine j_goto (pc := 560) C 18 dL_law_560 (by decide) ?_
        exact ih (k + 1) _ x2 z0 z1 zb σ2 (by omega) (by omega) rfl hI2
      refine j_aload_n (pc := 26) C dL_law_26 0 rfl rfl ?_
      refine j_iload_n (pc := 27) C dL_law_27 3 rfl rfl ?_
      refine j_sld (pc := 28) C hX hbl hbA (lw_ix0 hL hk4 ex3) dL_law_28 ?_
      refine j_bipush (pc := 29) (v := 15) C dL_law_29 (by decide) ?_
      refine j_iand (pc := 31) C dL_law_31 ?_
      refine j_topi (fun v ev => ?_)
      by_cases z0 : v = 0
      · refine j_tableIn (pc := 32) C 104 dL_law_32 (by rw [z0]; decide) (by rw [z0]; decide) (by rw [z0]; rfl) (by decide) ?_
        have hw := H0 k x a0 a1 b σ (xs (x3 + 1).toNatClampNeg) (xs (x3 + 2).toNatClampNeg) (xs (x3 + 3).toNatClampNeg) hI (by omega)
        refine j_aload_n (pc := 104) C dL_law_104 1 rfl rfl ?_
        refine j_aload_n (pc := 105) C dL_law_105 0 rfl rfl ?_
        refine j_iload_n (pc := 106) C dL_law_106 3 rfl rfl ?_
        refine j_iconst (pc := 107) (v := 1) C dL_law_107 (by decide) ?_
        refine j_iadd (pc := 108) C dL_law_108 ?_
        refine j_sld (pc := 109) C hX hbl hbA (lw_ix hL hk4 (j := 1) (by decide) ex3 (by decide)) dL_law_109 ?_
        refine j_aload_n (pc := 110) C dL_law_110 0 rfl rfl ?_
        refine j_iload_n (pc := 111) C dL_law_111 3 rfl rfl ?_
        refine j_iconst (pc := 112) (v := 2) C dL_law_112 (by decide) ?_
        refine j_iadd (pc := 113) C dL_law_113 ?_
        refine j_sld (pc := 114) C hX hbl hbA (lw_ix hL hk4 (j := 2) (by decide) ex3 (by decide)) dL_law_114 ?_
        refine j_aload_n (pc := 115) C dL_law_115 0 rfl rfl ?_
        refine j_iload_n (pc := 116) C dL_law_116 3 rfl rfl ?_
        refine j_iconst (pc := 117) (v := 3) C dL_law_117 (by decide) ?_
        refine j_iadd (pc := 118) C dL_law_118 ?_
        refine j_sld (pc := 119) C hX hbl hbA (lw_ix hL hk4 (j := 3) (by decide) ex3 (by decide)) dL_law_119 ?_
        refine j_callFi (pc := 120) C gz_ok hgz 3 (mX6_gate hw) gL_law_X6_gate rfl rfl rfl (by decide +kernel) ⟨Nat.le_of_ble_eq_true rfl, Nat.le_of_ble_eq_true rfl⟩ 22 (e_at f0 f1 h f0 f1 ax cI cO a0 a1 x b) rfl rfl rfl (Nat.le_of_ble_eq_true rfl) dL_law_120 ⟨by show 62 + 525 * k + 0 ≤ 600000; omega, by show 45177 + 4200 * k + 0 ≤ 7302249; omega⟩ (fun r u hw => ?_)
        refine j_comm ?_
        refine j_widen (k := 62 + 525 * (k + 1)) (n := 45177 + 4200 * (k + 1)) (by omega) (by omega) ?_
        refine j_aload_n (pc := 123) C dL_law_123 2 rfl rfl ?_
        refine j_aload_n (pc := 124) C dL_law_124 0 rfl rfl ?_
        refine j_iload_n (pc := 125) C dL_law_125 3 rfl rfl ?_
        refine j_iconst (pc := 126) (v := 1) C dL_law_126 (by decide) ?_
        refine j_iadd (pc := 127) C dL_law_127 ?_
        refine j_sld (pc := 128) C hX hbl hbA (lw_ix hL hk4 (j := 1) (by decide) ex3 (by decide)) dL_law_128 ?_
        refine j_aload_n (pc := 129) C dL_law_129 0 rfl rfl ?_
        refine j_iload_n (pc := 130) C dL_law_130 3 rfl rfl ?_
        refine j_iconst (pc := 131) (v := 2) C dL_law_131 (by decide) ?_
        refine j_iadd (pc := 132) C dL_law_132 ?_
        refine j_sld (pc := 133) C hX hbl hbA (lw_ix hL hk4 (j := 2) (by decide) ex3 (by decide)) dL_law_133 ?_
        refine j_aload_n (pc := 134) C dL_law_134 0 rfl rfl ?_
        refine j_iload_n (pc := 135) C dL_law_135 3 rfl rfl ?_
        refine j_iconst (pc := 136) (v := 3) C dL_law_136 (by decide) ?_
        refine j_iadd (pc := 137) C dL_law_137 ?_
        refine j_sld (pc := 138) C hX hbl hbA (lw_ix hL hk4 (j := 3) (by decide) ex3 (by decide)) dL_law_138 ?_
        refine j_callFi (pc := 139) C jG0_ok trivial 3 (mX7_gate hw) gL_law_X7_gate rfl rfl rfl (by decide +kernel) ⟨Nat.le_of_ble_eq_true rfl, Nat.le_of_ble_eq_true rfl⟩ 0 (r_at0 a cI cJ cZ σ) rfl rfl rfl (Nat.le_of_ble_eq_true rfl) dL_law_139 ⟨by show 62 + 525 * (k + 1) + 0 ≤ 600000; omega, by show 45177 + 4200 * (k + 1) + 0 ≤ 7302249; omega⟩ (fun r2 σ2 hw => ?_)
        refine j_comm ?_
        refine j_icmp_eq (pc := 142) C 557 dL_law_142 (by decide) (fun _ => ?_) (fun z => absurd hw.1 z)
        exact hend u.1 u.2.1 u.2.2.1 u.2.2.2 σ2 (by omega) hw.2
      by_cases z1 : v = 1
      · refine j_tableIn (pc := 32) C 147 dL_law_32 (by rw [z1]; decide) (by rw [z1]; decide) (by rw [z1]; rfl) (by decide) ?_
        have hw := H1 k x a0 a1 b σ (xs (x3 + 1).toNatClampNeg) hI (by omega)
        refine j_aload_n (pc := 147) C dL_law_147 1 rfl rfl ?_
        refine j_aload_n (pc := 148) C dL_law_148 0 rfl rfl ?_
        refine j_iload_n (pc := 149) C dL_law_149 3 rfl rfl ?_
        refine j_iconst (pc := 150) (v := 1) C dL_law_150 (by decide) ?_
        refine j_iadd (pc := 151) C dL_law_151 ?_
        refine j_sld (pc := 152) C hX hbl hbA (lw_ix hL hk4 (j := 1) (by decide) ex3 (by decide)) dL_law_152 ?_
        refine j_callFi (pc := 153) C gz_ok hgz 1 (mX6_guests hw) gL_law_X6_guests rfl rfl rfl (by decide +kernel) ⟨Nat.le_of_ble_eq_true rfl, Nat.le_of_ble_eq_true rfl⟩ 22 (e_at f0 f1 h f0 f1 ax cI cO a0 a1 x b) rfl rfl rfl (Nat.le_of_ble_eq_true rfl) dL_law_153 ⟨by show 62 + 525 * k + 0 ≤ 600000; omega, by show 45177 + 4200 * k + 0 ≤ 7302249; omega⟩ (fun r u hw => ?_)
        refine j_comm ?_
        refine j_widen (k := 62 + 525 * (k + 1)) (n := 45177 + 4200 * (k + 1)) (by omega) (by omega) ?_
        refine j_aload_n (pc := 156) C dL_law_156 2 rfl rfl ?_
        refine j_aload_n (pc := 157) C dL_law_157 0 rfl rfl ?_
        refine j_iload_n (pc := 158) C dL_law_158 3 rfl rfl ?_
        refine j_iconst (pc := 159) (v := 1) C dL_law_159 (by decide) ?_
        refine j_iadd (pc := 160) C dL_law_160 ?_
        refine j_sld (pc := 161) C hX hbl hbA (lw_ix hL hk4 (j := 1) (by decide) ex3 (by decide)) dL_law_161 ?_
        refine j_callFi (pc := 162) C jG0_ok trivial 1 (mX7_guests hw) gL_law_X7_guests rfl rfl rfl (by decide +kernel) ⟨Nat.le_of_ble_eq_true rfl, Nat.le_of_ble_eq_true rfl⟩ 0 (r_at0 a cI cJ cZ σ) rfl rfl rfl (Nat.le_of_ble_eq_true rfl) dL_law_162 ⟨by show 62 + 525 * (k + 1) + 0 ≤ 600000; omega, by show 45177 + 4200 * (k + 1) + 0 ≤ 7302249; omega⟩ (fun r2 σ2 hw => ?_)
        refine j_comm ?_
        refine j_icmp_eq (pc := 165) C 557 dL_law_165 (by decide) (fun _ => ?_) (fun z => absurd hw.1 z)
        exact hend u.1 u.2.1 u.2.2.1 u.2.2.2 σ2 (by omega) hw.2
      by_cases z2 : v = 2
      · refine j_tableIn (pc := 32) C 170 dL_law_32 (by rw [z2]; decide) (by rw [z2]; decide) (by rw [z2]; rfl) (by decide) ?_
        have hw := H2 k x a0 a1 b σ (xs (x3 + 1).toNatClampNeg) (xs (x3 + 2).toNatClampNeg) hI (by omega)
        refine j_aload_n (pc := 170) C dL_law_170 1 rfl rfl ?_
        refine j_aload_n (pc := 171) C dL_law_171 0 rfl rfl ?_
        refine j_iload_n (pc := 172) C dL_law_172 3 rfl rfl ?_
        refine j_iconst (pc := 173) (v := 1) C dL_law_173 (by decide) ?_
        refine j_iadd (pc := 174) C dL_law_174 ?_
        refine j_sld (pc := 175) C hX hbl hbA (lw_ix hL hk4 (j := 1) (by decide) ex3 (by decide)) dL_law_175 ?_
        refine j_aload_n (pc := 176) C dL_law_176 0 rfl rfl ?_
        refine j_iload_n (pc := 177) C dL_law_177 3 rfl rfl ?_
        refine j_iconst (pc := 178) (v := 2) C dL_law_178 (by decide) ?_
        refine j_iadd (pc := 179) C dL_law_179 ?_
        refine j_sld (pc := 180) C hX hbl hbA (lw_ix hL hk4 (j := 2) (by decide) ex3 (by decide)) dL_law_180 ?_
        refine j_callFi (pc := 181) C gz_ok hgz 2 (mX6_stock hw) gL_law_X6_stock rfl rfl rfl (by decide +kernel) ⟨Nat.le_of_ble_eq_true rfl, Nat.le_of_ble_eq_true rfl⟩ 22 (e_at f0 f1 h f0 f1 ax cI cO a0 a1 x b) rfl rfl rfl (Nat.le_of_ble_eq_true rfl) dL_law_181 ⟨by show 62 + 525 * k + 0 ≤ 600000; omega, by show 45177 + 4200 * k + 0 ≤ 7302249; omega⟩ (fun r u hw => ?_)
        refine j_comm ?_
        refine j_widen (k := 62 + 525 * (k + 1)) (n := 45177 + 4200 * (k + 1)) (by omega) (by omega) ?_
        refine j_aload_n (pc := 184) C dL_law_184 2 rfl rfl ?_
        refine j_aload_n (pc := 185) C dL_law_185 0 rfl rfl ?_
        refine j_iload_n (pc := 186) C dL_law_186 3 rfl rfl ?_
        refine j_iconst (pc := 187) (v := 1) C dL_law_187 (by decide) ?_
        refine j_iadd (pc := 188) C dL_law_188 ?_
        refine j_sld (pc := 189) C hX hbl hbA (lw_ix hL hk4 (j := 1) (by decide) ex3 (by decide)) dL_law_189 ?_
        refine j_aload_n (pc := 190) C dL_law_190 0 rfl rfl ?_
        refine j_iload_n (pc := 191) C dL_law_191 3 rfl rfl ?_
        refine j_iconst (pc := 192) (v := 2) C dL_law_192 (by decide) ?_
        refine j_iadd (pc := 193) C dL_law_193 ?_
        refine j_sld (pc := 194) C hX hbl hbA (lw_ix hL hk4 (j := 2) (by decide) ex3 (by decide)) dL_law_194 ?_
        refine j_callFi (pc := 195) C jG0_ok trivial 2 (mX7_stock hw) gL_law_X7_stock rfl rfl rfl (by decide +kernel) ⟨Nat.le_of_ble_eq_true rfl, Nat.le_of_ble_eq_true rfl⟩ 0 (r_at0 a cI cJ cZ σ) rfl rfl rfl (Nat.le_of_ble_eq_true rfl) dL_law_195 ⟨by show 62 + 525 * (k + 1) + 0 ≤ 600000; omega, by show 45177 + 4200 * (k + 1) + 0 ≤ 7302249; omega⟩ (fun r2 σ2 hw => ?_)
        refine j_comm ?_
        refine j_icmp_eq (pc := 198) C 557 dL_law_198 (by decide) (fun _ => ?_) (fun z => absurd hw.1 z)
        exact hend u.1 u.2.1 u.2.2.1 u.2.2.2 σ2 (by omega) hw.2
      by_cases z3 : v = 3
      · refine j_tableIn (pc := 32) C 203 dL_law_32 (by rw [z3]; decide) (by rw [z3]; decide) (by rw [z3]; rfl) (by decide) ?_
        have hw := H3 k x a0 a1 b σ (xs (x3 + 1).toNatClampNeg) hI (by omega)
        refine j_aload_n (pc := 203) C dL_law_203 1 rfl rfl ?_
        refine j_aload_n (pc := 204) C dL_law_204 0 rfl rfl ?_
        refine j_iload_n (pc := 205) C dL_law_205 3 rfl rfl ?_
        refine j_iconst (pc := 206) (v := 1) C dL_law_206 (by decide) ?_
        refine j_iadd (pc := 207) C dL_law_207 ?_
        refine j_sld (pc := 208) C hX hbl hbA (lw_ix hL hk4 (j := 1) (by decide) ex3 (by decide)) dL_law_208 ?_
        refine j_callFi (pc := 209) C gz_ok hgz 1 (mX6_pass hw) gL_law_X6_pass rfl rfl rfl (by decide +kernel) ⟨Nat.le_of_ble_eq_true rfl, Nat.le_of_ble_eq_true rfl⟩ 22 (e_at f0 f1 h f0 f1 ax cI cO a0 a1 x b) rfl rfl rfl (Nat.le_of_ble_eq_true rfl) dL_law_209 ⟨by show 62 + 525 * k + 525 ≤ 600000; omega, by show 45177 + 4200 * k + 8 * 525 ≤ 7302249; omega⟩ (fun r u hw => ?_)
        refine j_comm ?_
        refine j_eqc (k := 62 + 525 * (k + 1)) (n := 45177 + 4200 * (k + 1)) (by omega) (by omega) ?_
        refine j_aload_n (pc := 212) C dL_law_212 2 rfl rfl ?_
        refine j_aload_n (pc := 213) C dL_law_213 0 rfl rfl ?_
        refine j_iload_n (pc := 214) C dL_law_214 3 rfl rfl ?_
        refine j_iconst (pc := 215) (v := 1) C dL_law_215 (by decide) ?_
        refine j_iadd (pc := 216) C dL_law_216 ?_
        refine j_sld (pc := 217) C hX hbl hbA (lw_ix hL hk4 (j := 1) (by decide) ex3 (by decide)) dL_law_217 ?_
        refine j_callFi (pc := 218) C jG0_ok trivial 1 (mX7_pass hw) gL_law_X7_pass rfl rfl rfl (by decide +kernel) ⟨Nat.le_of_ble_eq_true rfl, Nat.le_of_ble_eq_true rfl⟩ 0 (r_at0 a cI cJ cZ σ) rfl rfl rfl (Nat.le_of_ble_eq_true rfl) dL_law_218 ⟨by show 62 + 525 * (k + 1) + 0 ≤ 600000; omega, by show 45177 + 4200 * (k + 1) + 0 ≤ 7302249; omega⟩ (fun r2 σ2 hw => ?_)
        refine j_comm ?_
        refine j_icmp_eq (pc := 221) C 557 dL_law_221 (by decide) (fun _ => ?_) (fun z => absurd hw.1 z)
        exact hend u.1 u.2.1 u.2.2.1 u.2.2.2 σ2 (by omega) hw.2
      by_cases z4 : v = 4
      · refine j_tableIn (pc := 32) C 226 dL_law_32 (by rw [z4]; decide) (by rw [z4]; decide) (by rw [z4]; rfl) (by decide) ?_
        have hw := H4 k x a0 a1 b σ (xs (x3 + 1).toNatClampNeg) hI (by omega)
        refine j_aload_n (pc := 226) C dL_law_226 1 rfl rfl ?_
        refine j_aload_n (pc := 227) C dL_law_227 0 rfl rfl ?_
        refine j_iload_n (pc := 228) C dL_law_228 3 rfl rfl ?_
        refine j_iconst (pc := 229) (v := 1) C dL_law_229 (by decide) ?_
        refine j_iadd (pc := 230) C dL_law_230 ?_
        refine j_sld (pc := 231) C hX hbl hbA (lw_ix hL hk4 (j := 1) (by decide) ex3 (by decide)) dL_law_231 ?_
        refine j_callFi (pc := 232) C gz_ok hgz 1 (mX6_ofGate hw) gL_law_X6_ofGate rfl rfl rfl (by decide +kernel) ⟨Nat.le_of_ble_eq_true rfl, Nat.le_of_ble_eq_true rfl⟩ 22 (e_at f0 f1 h f0 f1 ax cI cO a0 a1 x b) rfl rfl rfl (Nat.le_of_ble_eq_true rfl) dL_law_232 ⟨by show 62 + 525 * k + 0 ≤ 600000; omega, by show 45177 + 4200 * k + 0 ≤ 7302249; omega⟩ (fun r u hw => ?_)
        refine j_comm ?_
        refine j_widen (k := 62 + 525 * (k + 1)) (n := 45177 + 4200 * (k + 1)) (by omega) (by omega) ?_
        refine j_aload_n (pc := 235) C dL_law_235 2 rfl rfl ?_
        refine j_aload_n (pc := 236) C dL_law_236 0 rfl rfl ?_
        refine j_iload_n (pc := 237) C dL_law_237 3 rfl rfl ?_
        refine j_iconst (pc := 238) (v := 1) C dL_law_238 (by decide) ?_
        refine j_iadd (pc := 239) C dL_law_239 ?_
        refine j_sld (pc := 240) C hX hbl hbA (lw_ix hL hk4 (j := 1) (by decide) ex3 (by decide)) dL_law_240 ?_
        refine j_callFi (pc := 241) C jG0_ok trivial 1 (mX7_ofGate hw) gL_law_X7_ofGate rfl rfl rfl (by decide +kernel) ⟨Nat.le_of_ble_eq_true rfl, Nat.le_of_ble_eq_true rfl⟩ 0 (r_at0 a cI cJ cZ σ) rfl rfl rfl (Nat.le_of_ble_eq_true rfl) dL_law_241 ⟨by show 62 + 525 * (k + 1) + 0 ≤ 600000; omega, by show 45177 + 4200 * (k + 1) + 0 ≤ 7302249; omega⟩ (fun r2 σ2 hw => ?_)
        refine j_comm ?_
        refine j_icmp_eq (pc := 244) C 557 dL_law_244 (by decide) (fun _ => ?_) (fun z => absurd hw.1 z)
        exact hend u.1 u.2.1 u.2.2.1 u.2.2.2 σ2 (by omega) hw.2
      by_cases z5 : v = 5
      · refine j_tableIn (pc := 32) C 249 dL_law_32 (by rw [z5]; decide) (by rw [z5]; decide) (by rw [z5]; rfl) (by decide) ?_
        have hw := H5 k x a0 a1 b σ (xs (x3 + 1).toNatClampNeg) hI (by omega)
        refine j_aload_n (pc := 249) C dL_law_249 1 rfl rfl ?_
        refine j_aload_n (pc := 250) C dL_law_250 0 rfl rfl ?_
        refine j_iload_n (pc := 251) C dL_law_251 3 rfl rfl ?_
        refine j_iconst (pc := 252) (v := 1) C dL_law_252 (by decide) ?_
        refine j_iadd (pc := 253) C dL_law_253 ?_
        refine j_sld (pc := 254) C hX hbl hbA (lw_ix hL hk4 (j := 1) (by decide) ex3 (by decide)) dL_law_254 ?_
        refine j_callFl (pc := 255) C gz_ok hgz 1 (mX6_busy hw) gL_law_X6_busy rfl rfl rfl (by decide +kernel) ⟨Nat.le_of_ble_eq_true rfl, Nat.le_of_ble_eq_true rfl⟩ 22 (e_at f0 f1 h f0 f1 ax cI cO a0 a1 x b) rfl rfl rfl (Nat.le_of_ble_eq_true rfl) dL_law_255 ⟨by show 62 + 525 * k + 0 ≤ 600000; omega, by show 45177 + 4200 * k + 0 ≤ 7302249; omega⟩ (fun r u hw => ?_)
        refine j_comm ?_
        refine j_widen (k := 62 + 525 * (k + 1)) (n := 45177 + 4200 * (k + 1)) (by omega) (by omega) ?_
        refine j_aload_n (pc := 258) C dL_law_258 2 rfl rfl ?_
        refine j_aload_n (pc := 259) C dL_law_259 0 rfl rfl ?_
        refine j_iload_n (pc := 260) C dL_law_260 3 rfl rfl ?_
        refine j_iconst (pc := 261) (v := 1) C dL_law_261 (by decide) ?_
        refine j_iadd (pc := 262) C dL_law_262 ?_
        refine j_sld (pc := 263) C hX hbl hbA (lw_ix hL hk4 (j := 1) (by decide) ex3 (by decide)) dL_law_263 ?_
        refine j_callFl (pc := 264) C jG0_ok trivial 1 (mX7_busy hw) gL_law_X7_busy rfl rfl rfl (by decide +kernel) ⟨Nat.le_of_ble_eq_true rfl, Nat.le_of_ble_eq_true rfl⟩ 0 (r_at0 a cI cJ cZ σ) rfl rfl rfl (Nat.le_of_ble_eq_true rfl) dL_law_264 ⟨by show 62 + 525 * (k + 1) + 0 ≤ 600000; omega, by show 45177 + 4200 * (k + 1) + 0 ≤ 7302249; omega⟩ (fun r2 σ2 hw => ?_)
        refine j_comm ?_
        refine j_lcmp (pc := 267) C dL_law_267 ?_
        refine j_if_eq (pc := 268) C 557 dL_law_268 (by decide) (fun _ => ?_) (fun z => absurd ((lg_cmp_eq r r2).mpr hw.1) z)
        exact hend u.1 u.2.1 u.2.2.1 u.2.2.2 σ2 (by omega) hw.2
      by_cases z6 : v = 6
      · refine j_tableIn (pc := 32) C 273 dL_law_32 (by rw [z6]; decide) (by rw [z6]; decide) (by rw [z6]; rfl) (by decide) ?_
        have hw := H6 k x a0 a1 b σ (xs (x3 + 1).toNatClampNeg) (xs (x3 + 2).toNatClampNeg) hI (by omega)
        refine j_aload_n (pc := 273) C dL_law_273 1 rfl rfl ?_
        refine j_aload_n (pc := 274) C dL_law_274 0 rfl rfl ?_
        refine j_iload_n (pc := 275) C dL_law_275 3 rfl rfl ?_
        refine j_iconst (pc := 276) (v := 1) C dL_law_276 (by decide) ?_
        refine j_iadd (pc := 277) C dL_law_277 ?_
        refine j_sld (pc := 278) C hX hbl hbA (lw_ix hL hk4 (j := 1) (by decide) ex3 (by decide)) dL_law_278 ?_
        refine j_aload_n (pc := 279) C dL_law_279 0 rfl rfl ?_
        refine j_iload_n (pc := 280) C dL_law_280 3 rfl rfl ?_
        refine j_iconst (pc := 281) (v := 2) C dL_law_281 (by decide) ?_
        refine j_iadd (pc := 282) C dL_law_282 ?_
        refine j_sld (pc := 283) C hX hbl hbA (lw_ix hL hk4 (j := 2) (by decide) ex3 (by decide)) dL_law_283 ?_
        refine j_callFi (pc := 284) C gz_ok hgz 2 (mX6_ofSender hw) gL_law_X6_ofSender rfl rfl rfl (by decide +kernel) ⟨Nat.le_of_ble_eq_true rfl, Nat.le_of_ble_eq_true rfl⟩ 22 (e_at f0 f1 h f0 f1 ax cI cO a0 a1 x b) rfl rfl rfl (Nat.le_of_ble_eq_true rfl) dL_law_284 ⟨by show 62 + 525 * k + 0 ≤ 600000; omega, by show 45177 + 4200 * k + 0 ≤ 7302249; omega⟩ (fun r u hw => ?_)
        refine j_comm ?_
        refine j_widen (k := 62 + 525 * (k + 1)) (n := 45177 + 4200 * (k + 1)) (by omega) (by omega) ?_
        refine j_aload_n (pc := 287) C dL_law_287 2 rfl rfl ?_
        refine j_aload_n (pc := 288) C dL_law_288 0 rfl rfl ?_
        refine j_iload_n (pc := 289) C dL_law_289 3 rfl rfl ?_
        refine j_iconst (pc := 290) (v := 1) C dL_law_290 (by decide) ?_
        refine j_iadd (pc := 291) C dL_law_291 ?_
        refine j_sld (pc := 292) C hX hbl hbA (lw_ix hL hk4 (j := 1) (by decide) ex3 (by decide)) dL_law_292 ?_
        refine j_aload_n (pc := 293) C dL_law_293 0 rfl rfl ?_
        refine j_iload_n (pc := 294) C dL_law_294 3 rfl rfl ?_
        refine j_iconst (pc := 295) (v := 2) C dL_law_295 (by decide) ?_
        refine j_iadd (pc := 296) C dL_law_296 ?_
        refine j_sld (pc := 297) C hX hbl hbA (lw_ix hL hk4 (j := 2) (by decide) ex3 (by decide)) dL_law_297 ?_
        refine j_callFi (pc := 298) C jG0_ok trivial 2 (mX7_ofSender hw) gL_law_X7_ofSender rfl rfl rfl (by decide +kernel) ⟨Nat.le_of_ble_eq_true rfl, Nat.le_of_ble_eq_true rfl⟩ 0 (r_at0 a cI cJ cZ σ) rfl rfl rfl (Nat.le_of_ble_eq_true rfl) dL_law_298 ⟨by show 62 + 525 * (k + 1) + 0 ≤ 600000; omega, by show 45177 + 4200 * (k + 1) + 0 ≤ 7302249; omega⟩ (fun r2 σ2 hw => ?_)
        refine j_comm ?_
        refine j_icmp_eq (pc := 301) C 557 dL_law_301 (by decide) (fun _ => ?_) (fun z => absurd hw.1 z)
        exact hend u.1 u.2.1 u.2.2.1 u.2.2.2 σ2 (by omega) hw.2
      by_cases z7 : v = 7
      · refine j_tableIn (pc := 32) C 306 dL_law_32 (by rw [z7]; decide) (by rw [z7]; decide) (by rw [z7]; rfl) (by decide) ?_
        have hw := H7 k x a0 a1 b σ (xs (x3 + 1).toNatClampNeg) (xs (x3 + 2).toNatClampNeg) (xs (x3 + 3).toNatClampNeg) hI (by omega)
        refine j_aload_n (pc := 306) C dL_law_306 1 rfl rfl ?_
        refine j_aload_n (pc := 307) C dL_law_307 0 rfl rfl ?_
        refine j_iload_n (pc := 308) C dL_law_308 3 rfl rfl ?_
        refine j_iconst (pc := 309) (v := 1) C dL_law_309 (by decide) ?_
        refine j_iadd (pc := 310) C dL_law_310 ?_
        refine j_sld (pc := 311) C hX hbl hbA (lw_ix hL hk4 (j := 1) (by decide) ex3 (by decide)) dL_law_311 ?_
        refine j_aload_n (pc := 312) C dL_law_312 0 rfl rfl ?_
        refine j_iload_n (pc := 313) C dL_law_313 3 rfl rfl ?_
        refine j_iconst (pc := 314) (v := 2) C dL_law_314 (by decide) ?_
        refine j_iadd (pc := 315) C dL_law_315 ?_
        refine j_sld (pc := 316) C hX hbl hbA (lw_ix hL hk4 (j := 2) (by decide) ex3 (by decide)) dL_law_316 ?_
        refine j_aload_n (pc := 317) C dL_law_317 0 rfl rfl ?_
        refine j_iload_n (pc := 318) C dL_law_318 3 rfl rfl ?_
        refine j_iconst (pc := 319) (v := 3) C dL_law_319 (by decide) ?_
        refine j_iadd (pc := 320) C dL_law_320 ?_
        refine j_sld (pc := 321) C hX hbl hbA (lw_ix hL hk4 (j := 3) (by decide) ex3 (by decide)) dL_law_321 ?_
        refine j_callFi (pc := 322) C gz_ok hgz 3 (mX6_sample hw) gL_law_X6_sample rfl rfl rfl (by decide +kernel) ⟨Nat.le_of_ble_eq_true rfl, Nat.le_of_ble_eq_true rfl⟩ 22 (e_at f0 f1 h f0 f1 ax cI cO a0 a1 x b) rfl rfl rfl (Nat.le_of_ble_eq_true rfl) dL_law_322 ⟨by show 62 + 525 * k + 0 ≤ 600000; omega, by show 45177 + 4200 * k + 0 ≤ 7302249; omega⟩ (fun r u hw => ?_)
        refine j_comm ?_
        refine j_widen (k := 62 + 525 * (k + 1)) (n := 45177 + 4200 * (k + 1)) (by omega) (by omega) ?_
        refine j_aload_n (pc := 325) C dL_law_325 2 rfl rfl ?_
        refine j_aload_n (pc := 326) C dL_law_326 0 rfl rfl ?_
        refine j_iload_n (pc := 327) C dL_law_327 3 rfl rfl ?_
        refine j_iconst (pc := 328) (v := 1) C dL_law_328 (by decide) ?_
        refine j_iadd (pc := 329) C dL_law_329 ?_
        refine j_sld (pc := 330) C hX hbl hbA (lw_ix hL hk4 (j := 1) (by decide) ex3 (by decide)) dL_law_330 ?_
        refine j_aload_n (pc := 331) C dL_law_331 0 rfl rfl ?_
        refine j_iload_n (pc := 332) C dL_law_332 3 rfl rfl ?_
        refine j_iconst (pc := 333) (v := 2) C dL_law_333 (by decide) ?_
        refine j_iadd (pc := 334) C dL_law_334 ?_
        refine j_sld (pc := 335) C hX hbl hbA (lw_ix hL hk4 (j := 2) (by decide) ex3 (by decide)) dL_law_335 ?_
        refine j_aload_n (pc := 336) C dL_law_336 0 rfl rfl ?_
        refine j_iload_n (pc := 337) C dL_law_337 3 rfl rfl ?_
        refine j_iconst (pc := 338) (v := 3) C dL_law_338 (by decide) ?_
        refine j_iadd (pc := 339) C dL_law_339 ?_
        refine j_sld (pc := 340) C hX hbl hbA (lw_ix hL hk4 (j := 3) (by decide) ex3 (by decide)) dL_law_340 ?_
        refine j_callFi (pc := 341) C jG0_ok trivial 3 (mX7_sample hw) gL_law_X7_sample rfl rfl rfl (by decide +kernel) ⟨Nat.le_of_ble_eq_true rfl, Nat.le_of_ble_eq_true rfl⟩ 0 (r_at0 a cI cJ cZ σ) rfl rfl rfl (Nat.le_of_ble_eq_true rfl) dL_law_341 ⟨by show 62 + 525 * (k + 1) + 0 ≤ 600000; omega, by show 45177 + 4200 * (k + 1) + 0 ≤ 7302249; omega⟩ (fun r2 σ2 hw => ?_)
        refine j_comm ?_
        refine j_icmp_eq (pc := 344) C 557 dL_law_344 (by decide) (fun _ => ?_) (fun z => absurd hw.1 z)
        exact hend u.1 u.2.1 u.2.2.1 u.2.2.2 σ2 (by omega) hw.2
      by_cases z8 : v = 8
      · refine j_tableIn (pc := 32) C 349 dL_law_32 (by rw [z8]; decide) (by rw [z8]; decide) (by rw [z8]; rfl) (by decide) ?_
        have hw := H8 k x a0 a1 b σ (xs (x3 + 1).toNatClampNeg) (xs (x3 + 2).toNatClampNeg) hI (by omega)
        refine j_aload_n (pc := 349) C dL_law_349 1 rfl rfl ?_
        refine j_aload_n (pc := 350) C dL_law_350 0 rfl rfl ?_
        refine j_iload_n (pc := 351) C dL_law_351 3 rfl rfl ?_
        refine j_iconst (pc := 352) (v := 1) C dL_law_352 (by decide) ?_
        refine j_iadd (pc := 353) C dL_law_353 ?_
        refine j_sld (pc := 354) C hX hbl hbA (lw_ix hL hk4 (j := 1) (by decide) ex3 (by decide)) dL_law_354 ?_
        refine j_aload_n (pc := 355) C dL_law_355 0 rfl rfl ?_
        refine j_iload_n (pc := 356) C dL_law_356 3 rfl rfl ?_
        refine j_iconst (pc := 357) (v := 2) C dL_law_357 (by decide) ?_
        refine j_iadd (pc := 358) C dL_law_358 ?_
        refine j_sld (pc := 359) C hX hbl hbA (lw_ix hL hk4 (j := 2) (by decide) ex3 (by decide)) dL_law_359 ?_
        refine j_callFi (pc := 360) C gz_ok hgz 2 (mX6_best hw) gL_law_X6_best rfl rfl rfl (by decide +kernel) ⟨Nat.le_of_ble_eq_true rfl, Nat.le_of_ble_eq_true rfl⟩ 22 (e_at f0 f1 h f0 f1 ax cI cO a0 a1 x b) rfl rfl rfl (Nat.le_of_ble_eq_true rfl) dL_law_360 ⟨by show 62 + 525 * k + 0 ≤ 600000; omega, by show 45177 + 4200 * k + 0 ≤ 7302249; omega⟩ (fun r u hw => ?_)
        refine j_comm ?_
        refine j_widen (k := 62 + 525 * (k + 1)) (n := 45177 + 4200 * (k + 1)) (by omega) (by omega) ?_
        refine j_aload_n (pc := 363) C dL_law_363 2 rfl rfl ?_
        refine j_aload_n (pc := 364) C dL_law_364 0 rfl rfl ?_
        refine j_iload_n (pc := 365) C dL_law_365 3 rfl rfl ?_
        refine j_iconst (pc := 366) (v := 1) C dL_law_366 (by decide) ?_
        refine j_iadd (pc := 367) C dL_law_367 ?_
        refine j_sld (pc := 368) C hX hbl hbA (lw_ix hL hk4 (j := 1) (by decide) ex3 (by decide)) dL_law_368 ?_
        refine j_aload_n (pc := 369) C dL_law_369 0 rfl rfl ?_
        refine j_iload_n (pc := 370) C dL_law_370 3 rfl rfl ?_
        refine j_iconst (pc := 371) (v := 2) C dL_law_371 (by decide) ?_
        refine j_iadd (pc := 372) C dL_law_372 ?_
        refine j_sld (pc := 373) C hX hbl hbA (lw_ix hL hk4 (j := 2) (by decide) ex3 (by decide)) dL_law_373 ?_
        refine j_callFi (pc := 374) C jG0_ok trivial 2 (mX7_best hw) gL_law_X7_best rfl rfl rfl (by decide +kernel) ⟨Nat.le_of_ble_eq_true rfl, Nat.le_of_ble_eq_true rfl⟩ 0 (r_at0 a cI cJ cZ σ) rfl rfl rfl (Nat.le_of_ble_eq_true rfl) dL_law_374 ⟨by show 62 + 525 * (k + 1) + 0 ≤ 600000; omega, by show 45177 + 4200 * (k + 1) + 0 ≤ 7302249; omega⟩ (fun r2 σ2 hw => ?_)
        refine j_comm ?_
        refine j_icmp_eq (pc := 377) C 557 dL_law_377 (by decide) (fun _ => ?_) (fun z => absurd hw.1 z)
        exact hend u.1 u.2.1 u.2.2.1 u.2.2.2 σ2 (by omega) hw.2
      by_cases z9 : v = 9
      · refine j_tableIn (pc := 32) C 382 dL_law_32 (by rw [z9]; decide) (by rw [z9]; decide) (by rw [z9]; rfl) (by decide) ?_
        have hw := H9 k x a0 a1 b σ (xs (x3 + 1).toNatClampNeg) (xs (x3 + 2).toNatClampNeg) (xs (x3 + 3).toNatClampNeg) hI (by omega)
        refine j_aload_n (pc := 382) C dL_law_382 1 rfl rfl ?_
        refine j_aload_n (pc := 383) C dL_law_383 0 rfl rfl ?_
        refine j_iload_n (pc := 384) C dL_law_384 3 rfl rfl ?_
        refine j_iconst (pc := 385) (v := 1) C dL_law_385 (by decide) ?_
        refine j_iadd (pc := 386) C dL_law_386 ?_
        refine j_sld (pc := 387) C hX hbl hbA (lw_ix hL hk4 (j := 1) (by decide) ex3 (by decide)) dL_law_387 ?_
        refine j_aload_n (pc := 388) C dL_law_388 0 rfl rfl ?_
        refine j_iload_n (pc := 389) C dL_law_389 3 rfl rfl ?_
        refine j_iconst (pc := 390) (v := 2) C dL_law_390 (by decide) ?_
        refine j_iadd (pc := 391) C dL_law_391 ?_
        refine j_sld (pc := 392) C hX hbl hbA (lw_ix hL hk4 (j := 2) (by decide) ex3 (by decide)) dL_law_392 ?_
        refine j_aload_n (pc := 393) C dL_law_393 0 rfl rfl ?_
        refine j_iload_n (pc := 394) C dL_law_394 3 rfl rfl ?_
        refine j_iconst (pc := 395) (v := 3) C dL_law_395 (by decide) ?_
        refine j_iadd (pc := 396) C dL_law_396 ?_
        refine j_sld (pc := 397) C hX hbl hbA (lw_ix hL hk4 (j := 3) (by decide) ex3 (by decide)) dL_law_397 ?_
        refine j_callFi (pc := 398) C gz_ok hgz 3 (mX6_letter hw) gL_law_X6_letter rfl rfl rfl (by decide +kernel) ⟨Nat.le_of_ble_eq_true rfl, Nat.le_of_ble_eq_true rfl⟩ 22 (e_at f0 f1 h f0 f1 ax cI cO a0 a1 x b) rfl rfl rfl (Nat.le_of_ble_eq_true rfl) dL_law_398 ⟨by show 62 + 525 * k + 0 ≤ 600000; omega, by show 45177 + 4200 * k + 0 ≤ 7302249; omega⟩ (fun r u hw => ?_)
        refine j_comm ?_
        refine j_widen (k := 62 + 525 * (k + 1)) (n := 45177 + 4200 * (k + 1)) (by omega) (by omega) ?_
        refine j_aload_n (pc := 401) C dL_law_401 2 rfl rfl ?_
        refine j_aload_n (pc := 402) C dL_law_402 0 rfl rfl ?_
        refine j_iload_n (pc := 403) C dL_law_403 3 rfl rfl ?_
        refine j_iconst (pc := 404) (v := 1) C dL_law_404 (by decide) ?_
        refine j_iadd (pc := 405) C dL_law_405 ?_
        refine j_sld (pc := 406) C hX hbl hbA (lw_ix hL hk4 (j := 1) (by decide) ex3 (by decide)) dL_law_406 ?_
        refine j_aload_n (pc := 407) C dL_law_407 0 rfl rfl ?_
        refine j_iload_n (pc := 408) C dL_law_408 3 rfl rfl ?_
        refine j_iconst (pc := 409) (v := 2) C dL_law_409 (by decide) ?_
        refine j_iadd (pc := 410) C dL_law_410 ?_
        refine j_sld (pc := 411) C hX hbl hbA (lw_ix hL hk4 (j := 2) (by decide) ex3 (by decide)) dL_law_411 ?_
        refine j_aload_n (pc := 412) C dL_law_412 0 rfl rfl ?_
        refine j_iload_n (pc := 413) C dL_law_413 3 rfl rfl ?_
        refine j_iconst (pc := 414) (v := 3) C dL_law_414 (by decide) ?_
        refine j_iadd (pc := 415) C dL_law_415 ?_
        refine j_sld (pc := 416) C hX hbl hbA (lw_ix hL hk4 (j := 3) (by decide) ex3 (by decide)) dL_law_416 ?_
        refine j_callFi (pc := 417) C jG0_ok trivial 3 (mX7_letter hw) gL_law_X7_letter rfl rfl rfl (by decide +kernel) ⟨Nat.le_of_ble_eq_true rfl, Nat.le_of_ble_eq_true rfl⟩ 0 (r_at0 a cI cJ cZ σ) rfl rfl rfl (Nat.le_of_ble_eq_true rfl) dL_law_417 ⟨by show 62 + 525 * (k + 1) + 0 ≤ 600000; omega, by show 45177 + 4200 * (k + 1) + 0 ≤ 7302249; omega⟩ (fun r2 σ2 hw => ?_)
        refine j_comm ?_
        refine j_icmp_eq (pc := 420) C 557 dL_law_420 (by decide) (fun _ => ?_) (fun z => absurd hw.1 z)
        exact hend u.1 u.2.1 u.2.2.1 u.2.2.2 σ2 (by omega) hw.2
      by_cases z10 : v = 10
      · refine j_tableIn (pc := 32) C 425 dL_law_32 (by rw [z10]; decide) (by rw [z10]; decide) (by rw [z10]; rfl) (by decide) ?_
        have hw := H10 k x a0 a1 b σ (xs (x3 + 1).toNatClampNeg) (xs (x3 + 2).toNatClampNeg) hI (by omega)
        refine j_aload_n (pc := 425) C dL_law_425 1 rfl rfl ?_
        refine j_aload_n (pc := 426) C dL_law_426 0 rfl rfl ?_
        refine j_iload_n (pc := 427) C dL_law_427 3 rfl rfl ?_
        refine j_iconst (pc := 428) (v := 1) C dL_law_428 (by decide) ?_
        refine j_iadd (pc := 429) C dL_law_429 ?_
        refine j_sld (pc := 430) C hX hbl hbA (lw_ix hL hk4 (j := 1) (by decide) ex3 (by decide)) dL_law_430 ?_
        refine j_aload_n (pc := 431) C dL_law_431 0 rfl rfl ?_
        refine j_iload_n (pc := 432) C dL_law_432 3 rfl rfl ?_
        refine j_iconst (pc := 433) (v := 2) C dL_law_433 (by decide) ?_
        refine j_iadd (pc := 434) C dL_law_434 ?_
        refine j_sld (pc := 435) C hX hbl hbA (lw_ix hL hk4 (j := 2) (by decide) ex3 (by decide)) dL_law_435 ?_
        refine j_callFi (pc := 436) C gz_ok hgz 2 (mX6_phase hw) gL_law_X6_phase rfl rfl rfl (by decide +kernel) ⟨Nat.le_of_ble_eq_true rfl, Nat.le_of_ble_eq_true rfl⟩ 22 (e_at f0 f1 h f0 f1 ax cI cO a0 a1 x b) rfl rfl rfl (Nat.le_of_ble_eq_true rfl) dL_law_436 ⟨by show 62 + 525 * k + 0 ≤ 600000; omega, by show 45177 + 4200 * k + 0 ≤ 7302249; omega⟩ (fun r u hw => ?_)
        refine j_comm ?_
        refine j_widen (k := 62 + 525 * (k + 1)) (n := 45177 + 4200 * (k + 1)) (by omega) (by omega) ?_
        refine j_aload_n (pc := 439) C dL_law_439 2 rfl rfl ?_
        refine j_aload_n (pc := 440) C dL_law_440 0 rfl rfl ?_
        refine j_iload_n (pc := 441) C dL_law_441 3 rfl rfl ?_
        refine j_iconst (pc := 442) (v := 1) C dL_law_442 (by decide) ?_
        refine j_iadd (pc := 443) C dL_law_443 ?_
        refine j_sld (pc := 444) C hX hbl hbA (lw_ix hL hk4 (j := 1) (by decide) ex3 (by decide)) dL_law_444 ?_
        refine j_aload_n (pc := 445) C dL_law_445 0 rfl rfl ?_
        refine j_iload_n (pc := 446) C dL_law_446 3 rfl rfl ?_
        refine j_iconst (pc := 447) (v := 2) C dL_law_447 (by decide) ?_
        refine j_iadd (pc := 448) C dL_law_448 ?_
        refine j_sld (pc := 449) C hX hbl hbA (lw_ix hL hk4 (j := 2) (by decide) ex3 (by decide)) dL_law_449 ?_
        refine j_callFi (pc := 450) C jG0_ok trivial 2 (mX7_phase hw) gL_law_X7_phase rfl rfl rfl (by decide +kernel) ⟨Nat.le_of_ble_eq_true rfl, Nat.le_of_ble_eq_true rfl⟩ 0 (r_at0 a cI cJ cZ σ) rfl rfl rfl (Nat.le_of_ble_eq_true rfl) dL_law_450 ⟨by show 62 + 525 * (k + 1) + 0 ≤ 600000; omega, by show 45177 + 4200 * (k + 1) + 0 ≤ 7302249; omega⟩ (fun r2 σ2 hw => ?_)
        refine j_comm ?_
        refine j_icmp_eq (pc := 453) C 557 dL_law_453 (by decide) (fun _ => ?_) (fun z => absurd hw.1 z)
        exact hend u.1 u.2.1 u.2.2.1 u.2.2.2 σ2 (by omega) hw.2
      by_cases z11 : v = 11
      · refine j_tableIn (pc := 32) C 458 dL_law_32 (by rw [z11]; decide) (by rw [z11]; decide) (by rw [z11]; rfl) (by decide) ?_
        have hw := H11 k x a0 a1 b σ (xs (x3 + 1).toNatClampNeg) (xs (x3 + 2).toNatClampNeg) hI (by omega)
        refine j_aload_n (pc := 458) C dL_law_458 1 rfl rfl ?_
        refine j_aload_n (pc := 459) C dL_law_459 0 rfl rfl ?_
        refine j_iload_n (pc := 460) C dL_law_460 3 rfl rfl ?_
        refine j_iconst (pc := 461) (v := 1) C dL_law_461 (by decide) ?_
        refine j_iadd (pc := 462) C dL_law_462 ?_
        refine j_sld (pc := 463) C hX hbl hbA (lw_ix hL hk4 (j := 1) (by decide) ex3 (by decide)) dL_law_463 ?_
        refine j_aload_n (pc := 464) C dL_law_464 0 rfl rfl ?_
        refine j_iload_n (pc := 465) C dL_law_465 3 rfl rfl ?_
        refine j_iconst (pc := 466) (v := 2) C dL_law_466 (by decide) ?_
        refine j_iadd (pc := 467) C dL_law_467 ?_
        refine j_sld (pc := 468) C hX hbl hbA (lw_ix hL hk4 (j := 2) (by decide) ex3 (by decide)) dL_law_468 ?_
        refine j_callFi (pc := 469) C gz_ok hgz 2 (mX6_model hw) gL_law_X6_model rfl rfl rfl (by decide +kernel) ⟨Nat.le_of_ble_eq_true rfl, Nat.le_of_ble_eq_true rfl⟩ 22 (e_at f0 f1 h f0 f1 ax cI cO a0 a1 x b) rfl rfl rfl (Nat.le_of_ble_eq_true rfl) dL_law_469 ⟨by show 62 + 525 * k + 0 ≤ 600000; omega, by show 45177 + 4200 * k + 0 ≤ 7302249; omega⟩ (fun r u hw => ?_)
        refine j_comm ?_
        refine j_widen (k := 62 + 525 * (k + 1)) (n := 45177 + 4200 * (k + 1)) (by omega) (by omega) ?_
        refine j_aload_n (pc := 472) C dL_law_472 2 rfl rfl ?_
        refine j_aload_n (pc := 473) C dL_law_473 0 rfl rfl ?_
        refine j_iload_n (pc := 474) C dL_law_474 3 rfl rfl ?_
        refine j_iconst (pc := 475) (v := 1) C dL_law_475 (by decide) ?_
        refine j_iadd (pc := 476) C dL_law_476 ?_
        refine j_sld (pc := 477) C hX hbl hbA (lw_ix hL hk4 (j := 1) (by decide) ex3 (by decide)) dL_law_477 ?_
        refine j_aload_n (pc := 478) C dL_law_478 0 rfl rfl ?_
        refine j_iload_n (pc := 479) C dL_law_479 3 rfl rfl ?_
        refine j_iconst (pc := 480) (v := 2) C dL_law_480 (by decide) ?_
        refine j_iadd (pc := 481) C dL_law_481 ?_
        refine j_sld (pc := 482) C hX hbl hbA (lw_ix hL hk4 (j := 2) (by decide) ex3 (by decide)) dL_law_482 ?_
        refine j_callFi (pc := 483) C jG0_ok trivial 2 (mX7_model hw) gL_law_X7_model rfl rfl rfl (by decide +kernel) ⟨Nat.le_of_ble_eq_true rfl, Nat.le_of_ble_eq_true rfl⟩ 0 (r_at0 a cI cJ cZ σ) rfl rfl rfl (Nat.le_of_ble_eq_true rfl) dL_law_483 ⟨by show 62 + 525 * (k + 1) + 0 ≤ 600000; omega, by show 45177 + 4200 * (k + 1) + 0 ≤ 7302249; omega⟩ (fun r2 σ2 hw => ?_)
        refine j_comm ?_
        refine j_icmp_eq (pc := 486) C 557 dL_law_486 (by decide) (fun _ => ?_) (fun z => absurd hw.1 z)
        exact hend u.1 u.2.1 u.2.2.1 u.2.2.2 σ2 (by omega) hw.2
      by_cases z12 : v = 12
      · refine j_tableIn (pc := 32) C 491 dL_law_32 (by rw [z12]; decide) (by rw [z12]; decide) (by rw [z12]; rfl) (by decide) ?_
        have hw := H12 k x a0 a1 b σ (xs (x3 + 1).toNatClampNeg) (xs (x3 + 2).toNatClampNeg) (xs (x3 + 3).toNatClampNeg) hI (by omega)
        refine j_aload_n (pc := 491) C dL_law_491 1 rfl rfl ?_
        refine j_aload_n (pc := 492) C dL_law_492 0 rfl rfl ?_
        refine j_iload_n (pc := 493) C dL_law_493 3 rfl rfl ?_
        refine j_iconst (pc := 494) (v := 1) C dL_law_494 (by decide) ?_
        refine j_iadd (pc := 495) C dL_law_495 ?_
        refine j_sld (pc := 496) C hX hbl hbA (lw_ix hL hk4 (j := 1) (by decide) ex3 (by decide)) dL_law_496 ?_
        refine j_aload_n (pc := 497) C dL_law_497 0 rfl rfl ?_
        refine j_iload_n (pc := 498) C dL_law_498 3 rfl rfl ?_
        refine j_iconst (pc := 499) (v := 2) C dL_law_499 (by decide) ?_
        refine j_iadd (pc := 500) C dL_law_500 ?_
        refine j_sld (pc := 501) C hX hbl hbA (lw_ix hL hk4 (j := 2) (by decide) ex3 (by decide)) dL_law_501 ?_
        refine j_aload_n (pc := 502) C dL_law_502 0 rfl rfl ?_
        refine j_iload_n (pc := 503) C dL_law_503 3 rfl rfl ?_
        refine j_iconst (pc := 504) (v := 3) C dL_law_504 (by decide) ?_
        refine j_iadd (pc := 505) C dL_law_505 ?_
        refine j_sld (pc := 506) C hX hbl hbA (lw_ix hL hk4 (j := 3) (by decide) ex3 (by decide)) dL_law_506 ?_
        refine j_callFi (pc := 507) C gz_ok hgz 3 (mX6_turn hw) gL_law_X6_turn rfl rfl rfl (by decide +kernel) ⟨Nat.le_of_ble_eq_true rfl, Nat.le_of_ble_eq_true rfl⟩ 22 (e_at f0 f1 h f0 f1 ax cI cO a0 a1 x b) rfl rfl rfl (Nat.le_of_ble_eq_true rfl) dL_law_507 ⟨by show 62 + 525 * k + 0 ≤ 600000; omega, by show 45177 + 4200 * k + 0 ≤ 7302249; omega⟩ (fun r u hw => ?_)
        refine j_comm ?_
        refine j_widen (k := 62 + 525 * (k + 1)) (n := 45177 + 4200 * (k + 1)) (by omega) (by omega) ?_
        refine j_aload_n (pc := 510) C dL_law_510 2 rfl rfl ?_
        refine j_aload_n (pc := 511) C dL_law_511 0 rfl rfl ?_
        refine j_iload_n (pc := 512) C dL_law_512 3 rfl rfl ?_
        refine j_iconst (pc := 513) (v := 1) C dL_law_513 (by decide) ?_
        refine j_iadd (pc := 514) C dL_law_514 ?_
        refine j_sld (pc := 515) C hX hbl hbA (lw_ix hL hk4 (j := 1) (by decide) ex3 (by decide)) dL_law_515 ?_
        refine j_aload_n (pc := 516) C dL_law_516 0 rfl rfl ?_
        refine j_iload_n (pc := 517) C dL_law_517 3 rfl rfl ?_
        refine j_iconst (pc := 518) (v := 2) C dL_law_518 (by decide) ?_
        refine j_iadd (pc := 519) C dL_law_519 ?_
        refine j_sld (pc := 520) C hX hbl hbA (lw_ix hL hk4 (j := 2) (by decide) ex3 (by decide)) dL_law_520 ?_
        refine j_aload_n (pc := 521) C dL_law_521 0 rfl rfl ?_
        refine j_iload_n (pc := 522) C dL_law_522 3 rfl rfl ?_
        refine j_iconst (pc := 523) (v := 3) C dL_law_523 (by decide) ?_
        refine j_iadd (pc := 524) C dL_law_524 ?_
        refine j_sld (pc := 525) C hX hbl hbA (lw_ix hL hk4 (j := 3) (by decide) ex3 (by decide)) dL_law_525 ?_
        refine j_callFi (pc := 526) C jG0_ok trivial 3 (mX7_turn hw) gL_law_X7_turn rfl rfl rfl (by decide +kernel) ⟨Nat.le_of_ble_eq_true rfl, Nat.le_of_ble_eq_true rfl⟩ 0 (r_at0 a cI cJ cZ σ) rfl rfl rfl (Nat.le_of_ble_eq_true rfl) dL_law_526 ⟨by show 62 + 525 * (k + 1) + 0 ≤ 600000; omega, by show 45177 + 4200 * (k + 1) + 0 ≤ 7302249; omega⟩ (fun r2 σ2 hw => ?_)
        refine j_comm ?_
        refine j_icmp_eq (pc := 529) C 557 dL_law_529 (by decide) (fun _ => ?_) (fun z => absurd hw.1 z)
        exact hend u.1 u.2.1 u.2.2.1 u.2.2.2 σ2 (by omega) hw.2
      by_cases z13 : v = 13
      · refine j_tableIn (pc := 32) C 534 dL_law_32 (by rw [z13]; decide) (by rw [z13]; decide) (by rw [z13]; rfl) (by decide) ?_
        have hw := H13 k x a0 a1 b σ (xs (x3 + 1).toNatClampNeg) hI (by omega)
        refine j_aload_n (pc := 534) C dL_law_534 1 rfl rfl ?_
        refine j_aload_n (pc := 535) C dL_law_535 0 rfl rfl ?_
        refine j_iload_n (pc := 536) C dL_law_536 3 rfl rfl ?_
        refine j_iconst (pc := 537) (v := 1) C dL_law_537 (by decide) ?_
        refine j_iadd (pc := 538) C dL_law_538 ?_
        refine j_sld (pc := 539) C hX hbl hbA (lw_ix hL hk4 (j := 1) (by decide) ex3 (by decide)) dL_law_539 ?_
        refine j_callFi (pc := 540) C gz_ok hgz 1 (mX6_many hw) gL_law_X6_many rfl rfl rfl (by decide +kernel) ⟨Nat.le_of_ble_eq_true rfl, Nat.le_of_ble_eq_true rfl⟩ 22 (e_at f0 f1 h f0 f1 ax cI cO a0 a1 x b) rfl rfl rfl (Nat.le_of_ble_eq_true rfl) dL_law_540 ⟨by show 62 + 525 * k + 0 ≤ 600000; omega, by show 45177 + 4200 * k + 0 ≤ 7302249; omega⟩ (fun r u hw => ?_)
        refine j_comm ?_
        refine j_widen (k := 62 + 525 * (k + 1)) (n := 45177 + 4200 * (k + 1)) (by omega) (by omega) ?_
        refine j_aload_n (pc := 543) C dL_law_543 2 rfl rfl ?_
        refine j_aload_n (pc := 544) C dL_law_544 0 rfl rfl ?_
        refine j_iload_n (pc := 545) C dL_law_545 3 rfl rfl ?_
        refine j_iconst (pc := 546) (v := 1) C dL_law_546 (by decide) ?_
        refine j_iadd (pc := 547) C dL_law_547 ?_
        refine j_sld (pc := 548) C hX hbl hbA (lw_ix hL hk4 (j := 1) (by decide) ex3 (by decide)) dL_law_548 ?_
        refine j_callFi (pc := 549) C jG0_ok trivial 1 (mX7_many hw) gL_law_X7_many rfl rfl rfl (by decide +kernel) ⟨Nat.le_of_ble_eq_true rfl, Nat.le_of_ble_eq_true rfl⟩ 0 (r_at0 a cI cJ cZ σ) rfl rfl rfl (Nat.le_of_ble_eq_true rfl) dL_law_549 ⟨by show 62 + 525 * (k + 1) + 0 ≤ 600000; omega, by show 45177 + 4200 * (k + 1) + 0 ≤ 7302249; omega⟩ (fun r2 σ2 hw => ?_)
        refine j_comm ?_
        refine j_icmp_eq (pc := 552) C 557 dL_law_552 (by decide) (fun _ => ?_) (fun z => absurd hw.1 z)
        exact hend u.1 u.2.1 u.2.2.1 u.2.2.2 σ2 (by omega) hw.2
      have q0 := j_ne z0 0 (by decide)
      have q1 := j_ne z1 1 (by decide)
      have q2 := j_ne z2 2 (by decide)
      have q3 := j_ne z3 3 (by decide)
      have q4 := j_ne z4 4 (by decide)
      have q5 := j_ne z5 5 (by decide)
      have q6 := j_ne z6 6 (by decide)
      have q7 := j_ne z7 7 (by decide)
      have q8 := j_ne z8 8 (by decide)
      have q9 := j_ne z9 9 (by decide)
      have q10 := j_ne z10 10 (by decide)
      have q11 := j_ne z11 11 (by decide)
      have q12 := j_ne z12 12 (by decide)
      have q13 := j_ne z13 13 (by decide)
      refine j_tableOut (pc := 32) C 557 dL_law_32 (by omega) (by decide) ?_
      refine j_widen (k := 62 + 525 * (k + 1)) (n := 45177 + 4200 * (k + 1)) (by omega) (by omega) ?_
      exact hend _ _ _ _ _ (by omega) (Hd k x a0 a1 b σ hI)

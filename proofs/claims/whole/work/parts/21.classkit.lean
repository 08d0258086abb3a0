def jGains (j : Nat) : Int32 := if j = 0 then 125 else if j = 1 then 75 else 100
/-- what the class's methods need of the start: the table of gains, that nobody writes -/
def gz (A : Nat → Prop) (U : State) : Prop := va_Nw (.fieldLinkNest "ModelSender$Course" 28 "ModelSender" "CRUISE_GAINS" "[I" "ModelSender") U ∧ ∃ t : Nat, va_Z "ModelSender" "CRUISE_GAINS" "[I" (.ref t) A U U.heap ∧ va_T .int t 8 (fun j => .int (jGains j)) A U U.heap
theorem gz_ok : jG gz := by
  refine ⟨fun A A' s U hG hA hW hq => ?_, fun A U g mk a hG => ?_⟩
  · obtain ⟨h1, t, h2, h3⟩ := hG
    exact ⟨va_Nw.warmF hW h1, t, ((va_Z.moved hW.alike h2).kept hq).narrow hA, ((va_T.moved hW.alike h3).kept hq).narrow hA⟩
  · obtain ⟨h1, t, h2, h3⟩ := hG
    exact ⟨va_Nw.same rfl rfl h1, t, va_Z.moved (U := U.calling g mk a) (Vm.Alike.refl U.vm) h2, va_T.moved (U := U.calling g mk a) (Vm.Alike.refl U.vm) h3⟩
section JR5
variable {p : Program} {l : Launch} {e : Env} {R : Room} {s : State} {m : MethodId} {args : Array Value} {below : List Frame} {meth : Method} {c : Code} {cells slots : Nat} {Q : State → Prop} {D : va_G} {A : Nat → Prop} {nL : Nat} {cc : ByteArray} {own : String} {Ts : List Cond} {tys : List (ClassId × FieldType)} {ws : va_W} {lv : List (Nat × Value)} {pc : Nat} {st : List Value}
variable {f h : Nat → Nat} {cI cJ cZ cO : ClassId} {Y : va_W} {a : jSS} {b : jGS}
theorem j_opt {r : Option Nat} (hn : r = none → jJ p l e R s m args below meth c cells slots Q D A nL ws lv pc (.null :: st)) (hs : ∀ x : Nat, r = some x → jJ p l e R s m args below meth c cells slots Q D A nL ws lv pc (.ref x :: st)) : jJ p l e R s m args below meth c cells slots Q D A nL ws lv pc (va_rf r :: st) := by
  cases r with
  | none => exact hn rfl
  | some x => exact hs x rfl
theorem j_optL {r : Option Nat} {j : Nat} {lv1 lv2 : List (Nat × Value)} (hn : r = none → jJ p l e R s m args below meth c cells slots Q D A nL ws (lv1 ++ (j, .null) :: lv2) pc st) (hs : ∀ x : Nat, r = some x → jJ p l e R s m args below meth c cells slots Q D A nL ws (lv1 ++ (j, .ref x) :: lv2) pc st) : jJ p l e R s m args below meth c cells slots Q D A nL ws (lv1 ++ (j, va_rf r) :: lv2) pc st := by
  cases r with
  | none => exact hn rfl
  | some x => exact hs x rfl
theorem j_gets (C : jC p s m args meth c cc nL own Ts D tys A) {t : Nat} (hZ : va_Z "ModelSender" "CRUISE_GAINS" "[I" (.ref t) A s s.heap) (hN : va_Nw (.fieldLinkNest "ModelSender$Course" 28 "ModelSender" "CRUISE_GAINS" "[I" "ModelSender") s) (ho : own = "ModelSender$Course") (hdg : decode cc pc = .ok (.getstatic 28, 3)) (h : jJ p l e R s m args below meth c cells slots Q D A nL ws lv (pc + 3) (.ref t :: st)) : jJ p l e R s m args below meth c cells slots Q D A nL ws lv pc st :=
  fun H locs ls hP hD hS hl => va_getsN C.1.1 C.1.2.1 hZ hS (by have := C.1.2.2.2.1; rw [ho] at this; exact this) (va_Nw.use rfl hN) (fun _ z => z) hdg (h H locs ls hP hD hS hl)
theorem j_tlen (C : jC p s m args meth c cc nL own Ts D tys A) {t : Nat} (hT : va_T .int t 8 (fun j => .int (jGains j)) A s s.heap) (hdg : decode cc pc = .ok (.arraylength, 1)) (h : jJ p l e R s m args below meth c cells slots Q D A nL ws lv (pc + 1) (.int 8 :: st)) : jJ p l e R s m args below meth c cells slots Q D A nL ws lv pc (.ref t :: st) :=
  fun H locs ls hP hD hS hl => va_tlen C.1.1 C.1.2.1 hT hS (v := 8) rfl hdg (h H locs ls hP hD hS hl)
theorem j_tald (C : jC p s m args meth c cc nL own Ts D tys A) {t : Nat} (hT : va_T .int t 8 (fun j => .int (jGains j)) A s s.heap) {i : Int32} (hin : vp_in i 8) (hdg : decode cc pc = .ok (.iaload, 1)) (h : jJ p l e R s m args below meth c cells slots Q D A nL ws lv (pc + 1) (.int (jGains i.toNatClampNeg) :: st)) : jJ p l e R s m args below meth c cells slots Q D A nL ws lv pc (.int i :: .ref t :: st) :=
  fun H locs ls hP hD hS hl => va_ti C.1.1 C.1.2.1 hT hS hin rfl hdg (h H locs ls hP hD hS hl)
theorem j_aald (C : jC p s m args meth c cc nL own Ts D tys A) (q0 t0 : Nat) {cA : ClassId} {n q : Nat} {K : String} {g : Nat → Option Nat} (ha : ws[q0]? = some (q, .inl (cA, n, .inr (.inr (.inr (.inr g)))))) (ht : tys[t0]? = some (cA, .object K)) {i : Int32} (hin : vp_in i n) (hdg : decode cc pc = .ok (.aaload, 1)) (h : jJ p l e R s m args below meth c cells slots Q D A nL ws lv (pc + 1) (va_rf (g i.toNatClampNeg) :: st)) : jJ p l e R s m args below meth c cells slots Q D A nL ws lv pc (.int i :: .ref q :: st) :=
  fun H locs ls hP hD hS hl => va_aldq C.1.1 C.1.2.1 C.2.1 hP q0 t0 ha ht hin hdg (h H locs ls hP hD hS hl)
theorem j_aast (C : jC p s m args meth c cc nL own Ts D tys A) (q0 t0 : Nat) {cA : ClassId} {n q v : Nat} {g : Nat → Option Nat} (ha : ws[q0]? = some (q, .inl (cA, n, .inr (.inr (.inr (.inr g)))))) (ht : tys[t0]? = some (cA, .object RX2)) (hv : ∃ (k : Nat) (vs : List Value), ws[k]? = some (v, .inr (2, vs))) {i : Int32} (hin : vp_in i n) (hdg : decode cc pc = .ok (.aastore, 1)) (h : jJ p l e R s m args below meth c cells slots Q D A nL (ws.set q0 (q, .inl (cA, n, .inr (.inr (.inr (.inr (va_up g i.toNatClampNeg (some v)))))))) lv (pc + 1) st) : jJ p l e R s m args below meth c cells slots Q D A nL ws lv pc (.ref v :: .int i :: .ref q :: st) := by
  obtain ⟨k, vs, hk⟩ := hv
  exact fun H locs ls hP hD hS hl => va_astq (r := (RX2, TX2, 8)) C.1.1 C.1.2.1 C.2.1 hP hD hS q0 t0 k 2 ha ht hk rfl hin hdg (fun H1 locs1 hP1 hD1 hS1 => h H1 locs1 ls hP1 hD1 hS1 hl)
theorem j_aastN (C : jC p s m args meth c cc nL own Ts D tys A) (q0 t0 : Nat) {cA : ClassId} {n q : Nat} {K : String} {g : Nat → Option Nat} (ha : ws[q0]? = some (q, .inl (cA, n, .inr (.inr (.inr (.inr g)))))) (ht : tys[t0]? = some (cA, .object K)) {i : Int32} (hin : vp_in i n) (hdg : decode cc pc = .ok (.aastore, 1)) (h : jJ p l e R s m args below meth c cells slots Q D A nL (ws.set q0 (q, .inl (cA, n, .inr (.inr (.inr (.inr (va_up g i.toNatClampNeg none))))))) lv (pc + 1) st) : jJ p l e R s m args below meth c cells slots Q D A nL ws lv pc (.null :: .int i :: .ref q :: st) :=
  fun H locs ls hP hD hS hl => va_astqN C.1.1 C.1.2.1 C.2.1 hP hD hS q0 t0 ha ht hin hdg (fun H1 locs1 hP1 hD1 hS1 => h H1 locs1 ls hP1 hD1 hS1 hl)
theorem j_getL (C : jC p s m args meth c cc nL own Ts D tys A) {q index : Nat} (hq : q ∈ gLP b) (hin : ∀ w ∈ u_ws RX2 TX2 8, w ∈ Ts) (k : Nat) (hk : k < 8) (hw : Cond.fieldLink own index (TX2 k).1 (TX2 k).2.1 (TX2 k).2.2.1 ∈ Ts) {v : Value} (hv : (lfl b q)[k]? = some v) (hdg : decode cc pc = .ok (.getfield index, 3)) (h0 : jJ p l e R s m args below meth c cells slots Q D A nL (acells f cI cO (bY h cO Y b) a) lv (pc + 3) (v :: st)) : jJ p l e R s m args below meth c cells slots Q D A nL (acells f cI cO (bY h cO Y b) a) lv pc (.ref q :: st) := by
  obtain ⟨z, hz⟩ := c_pool f h cI cO Y a b hq
  exact j_get (ref := RX2) C hin z hz rfl k hk hw hv hdg h0
theorem j_putL (C : jC p s m args meth c cc nL own Ts D tys A) {b' : jGS} {q index : Nat} (hq : q ∈ gLP b) (hin : ∀ w ∈ u_ws RX2 TX2 8, w ∈ Ts) (k : Nat) (hk : k < 8) (hw : Cond.fieldLink own index (TX2 k).1 (TX2 k).2.1 (TX2 k).2.2.1 ∈ Ts) (hfin : (TX2 k).2.2.2 = false) {v : Value} (hn : narrow (tyX2 k) v = v) (hfit : fits (tyX2 k) v = true) (he : va_up (lcell b) q (.inr (2, (lfl b q).set k v)) = lcell b') (hg : gcells h cO b' = gcells h cO b) (hp : gLP b' = gLP b) (hdg : decode cc pc = .ok (.putfield index, 3)) (h0 : jJ p l e R s m args below meth c cells slots Q D A nL (acells f cI cO (bY h cO Y b') a) lv (pc + 3) st) : jJ p l e R s m args below meth c cells slots Q D A nL (acells f cI cO (bY h cO Y b) a) lv pc (v :: .ref q :: st) := by
  obtain ⟨z, hz⟩ := c_pool f h cI cO Y a b hq
  intro H locs ls hP hD hS hl
  refine va_put C.1.1 C.1.2.1 C.1.2.2.2.2 hin tyX2 tyX2_ok nmX2 C.1.2.2.2.1 C.2.1 hP hD hS z hz rfl k hk (C.1.2.2.2.2 _ hw) (fun _ z => z) hfin (tyX2_ok k hk) hn hfit hk hdg (fun H1 locs1 hP1 hD1 hS1 => ?_)
  have e := c_put hD hq hz he hg hp
  rw [e] at hP1 hD1
  exact h0 H1 locs1 ls hP1 hD1 hS1 hl
end JR5

def jTie (N fo0 fo1 gu : Nat) (I : Nat → jXS → jSS → jSS → jGS → jRS → Prop) : Prop :=
  (∀ (k : Nat) (x : jXS) (a0 a1 : jSS) (b : jGS) (σ : jRS) (p1 p2 p3 : Int32), I k x a0 a1 b σ → k < 512 → wX6_gate N x a0 a1 b p1 p2 p3 (fun r x2 z0 z1 zb => wX7_gate N σ p1 p2 p3 (fun r2 σ2 => r = r2 ∧ I (k + 1) x2 z0 z1 zb σ2))) ∧
  (∀ (k : Nat) (x : jXS) (a0 a1 : jSS) (b : jGS) (σ : jRS) (p1 : Int32), I k x a0 a1 b σ → k < 512 → wX6_guests N x a0 a1 b p1 (fun r x2 z0 z1 zb => wX7_guests N σ p1 (fun r2 σ2 => r = r2 ∧ I (k + 1) x2 z0 z1 zb σ2))) ∧
  (∀ (k : Nat) (x : jXS) (a0 a1 : jSS) (b : jGS) (σ : jRS) (p1 p2 : Int32), I k x a0 a1 b σ → k < 512 → wX6_stock N x a0 a1 b p1 p2 (fun r x2 z0 z1 zb => wX7_stock N σ p1 p2 (fun r2 σ2 => r = r2 ∧ I (k + 1) x2 z0 z1 zb σ2))) ∧
  (∀ (k : Nat) (x : jXS) (a0 a1 : jSS) (b : jGS) (σ : jRS) (p1 : Int32), I k x a0 a1 b σ → k < 512 → wX6_pass N 525 fo0 fo1 gu x a0 a1 b 0 p1 (fun r x2 z0 z1 zb => wX7_pass N σ p1 (fun r2 σ2 => r = r2 ∧ I (k + 1) x2 z0 z1 zb σ2))) ∧
  (∀ (k : Nat) (x : jXS) (a0 a1 : jSS) (b : jGS) (σ : jRS) (p1 : Int32), I k x a0 a1 b σ → k < 512 → wX6_ofGate N x a0 a1 b p1 (fun r x2 z0 z1 zb => wX7_ofGate N σ p1 (fun r2 σ2 => r = r2 ∧ I (k + 1) x2 z0 z1 zb σ2))) ∧
  (∀ (k : Nat) (x : jXS) (a0 a1 : jSS) (b : jGS) (σ : jRS) (p1 : Int32), I k x a0 a1 b σ → k < 512 → wX6_busy N x a0 a1 b p1 (fun r x2 z0 z1 zb => wX7_busy N σ p1 (fun r2 σ2 => r = r2 ∧ I (k + 1) x2 z0 z1 zb σ2))) ∧
  (∀ (k : Nat) (x : jXS) (a0 a1 : jSS) (b : jGS) (σ : jRS) (p1 p2 : Int32), I k x a0 a1 b σ → k < 512 → wX6_ofSender N x a0 a1 b p1 p2 (fun r x2 z0 z1 zb => wX7_ofSender N σ p1 p2 (fun r2 σ2 => r = r2 ∧ I (k + 1) x2 z0 z1 zb σ2))) ∧
  (∀ (k : Nat) (x : jXS) (a0 a1 : jSS) (b : jGS) (σ : jRS) (p1 p2 p3 : Int32), I k x a0 a1 b σ → k < 512 → wX6_sample N x a0 a1 b p1 p2 p3 (fun r x2 z0 z1 zb => wX7_sample N σ p1 p2 p3 (fun r2 σ2 => r = r2 ∧ I (k + 1) x2 z0 z1 zb σ2))) ∧
  (∀ (k : Nat) (x : jXS) (a0 a1 : jSS) (b : jGS) (σ : jRS) (p1 p2 : Int32), I k x a0 a1 b σ → k < 512 → wX6_best N x a0 a1 b p1 p2 (fun r x2 z0 z1 zb => wX7_best N σ p1 p2 (fun r2 σ2 => r = r2 ∧ I (k + 1) x2 z0 z1 zb σ2))) ∧
  (∀ (k : Nat) (x : jXS) (a0 a1 : jSS) (b : jGS) (σ : jRS) (p1 p2 p3 : Int32), I k x a0 a1 b σ → k < 512 → wX6_letter N x a0 a1 b p1 p2 p3 (fun r x2 z0 z1 zb => wX7_letter N σ p1 p2 p3 (fun r2 σ2 => r = r2 ∧ I (k + 1) x2 z0 z1 zb σ2))) ∧
  (∀ (k : Nat) (x : jXS) (a0 a1 : jSS) (b : jGS) (σ : jRS) (p1 p2 : Int32), I k x a0 a1 b σ → k < 512 → wX6_phase N x a0 a1 b p1 p2 (fun r x2 z0 z1 zb => wX7_phase N σ p1 p2 (fun r2 σ2 => r = r2 ∧ I (k + 1) x2 z0 z1 zb σ2))) ∧
  (∀ (k : Nat) (x : jXS) (a0 a1 : jSS) (b : jGS) (σ : jRS) (p1 p2 : Int32), I k x a0 a1 b σ → k < 512 → wX6_model N x a0 a1 b p1 p2 (fun r x2 z0 z1 zb => wX7_model N σ p1 p2 (fun r2 σ2 => r = r2 ∧ I (k + 1) x2 z0 z1 zb σ2))) ∧
  (∀ (k : Nat) (x : jXS) (a0 a1 : jSS) (b : jGS) (σ : jRS) (p1 p2 p3 : Int32), I k x a0 a1 b σ → k < 512 → wX6_turn N x a0 a1 b p1 p2 p3 (fun r x2 z0 z1 zb => wX7_turn N σ p1 p2 p3 (fun r2 σ2 => r = r2 ∧ I (k + 1) x2 z0 z1 zb σ2))) ∧
  (∀ (k : Nat) (x : jXS) (a0 a1 : jSS) (b : jGS) (σ : jRS) (p1 : Int32), I k x a0 a1 b σ → k < 512 → wX6_many N x a0 a1 b p1 (fun r x2 z0 z1 zb => wX7_many N σ p1 (fun r2 σ2 => r = r2 ∧ I (k + 1) x2 z0 z1 zb σ2))) ∧
  (∀ (k : Nat) (x : jXS) (a0 a1 : jSS) (b : jGS) (σ : jRS), I k x a0 a1 b σ → I (k + 1) x a0 a1 b σ)
theorem k_int {args : Array Value} {s : State} (h : (Cond.arrayClass .int).before args s = true) : ∃ c : ClassId, ArrOfT s c .int ∧ va_RA s c .int := by
  obtain ⟨c, k, comp, h1, h2, h3⟩ := Cond.arrayClass_spec h
  exact ⟨c, fun n z => ⟨(fun k h => by cases h), k, h2, comp, h3⟩, h1⟩
theorem k_long {args : Array Value} {s : State} (h : (Cond.arrayClass .long).before args s = true) : ∃ c : ClassId, ArrOfT s c .long ∧ va_RA s c .long := by
  obtain ⟨c, k, comp, h1, h2, h3⟩ := Cond.arrayClass_spec h
  exact ⟨c, fun n z => ⟨(fun k h => by cases h), k, h2, comp, h3⟩, h1⟩
theorem k_bool {args : Array Value} {s : State} (h : (Cond.arrayClass .boolean).before args s = true) : ∃ c : ClassId, ArrOfT s c .boolean ∧ va_RA s c .boolean := by
  obtain ⟨c, k, comp, h1, h2, h3⟩ := Cond.arrayClass_spec h
  exact ⟨c, fun n z => ⟨(fun k h => by cases h), k, h2, comp, h3⟩, h1⟩
theorem k_obj {args : Array Value} {s : State} {K : String} (h : (Cond.arrayOver (.object K)).before args s = true) : ∃ c : ClassId, ArrOfT s c (.object K) ∧ va_RA s c (.object K) := by
  obtain ⟨comp, c, k, h1, h2, h3, h4, h5⟩ := Cond.arrayOver_spec h
  exact ⟨c, fun n z => ⟨(fun k h => by cases h), k, h3, comp, h4⟩, k, comp, h3, h4, h1, h5⟩
theorem lw_gz {s : State} {b : Nat} (hts : ∀ w ∈ lw_tbl, w.before #[Value.ref b] s = true) (hgv : (Jvm.Cond.and given_1 narrow_1).before #[Value.ref b] s = true) : gz (fun q : Nat => s.heap.size ≤ q) s := by
  have hs := flat_of_before _ hgv
  have hA : ∀ a : Nat, a < s.heap.size → ¬ (fun q : Nat => s.heap.size ≤ q) a := fun a h => Nat.not_le.mpr h
  have harr : (Cond.arrayOf (Term.static "ModelSender" "CRUISE_GAINS" "[I") .int).before #[Value.ref b] s = true := hs _ (by decide +kernel)
  have hlen : (Term.length (Term.static "ModelSender" "CRUISE_GAINS" "[I")).eval #[Value.ref b] s none [] s = some (.int (Int32.ofNat 8)) := va_eqt (hs _ (by decide +kernel))
  have g0 : (Term.elem (Term.static "ModelSender" "CRUISE_GAINS" "[I") (.int (Int32.ofNat 0))).eval #[Value.ref b] s none [] s = some (.int 125) := va_eqt (hs _ (by decide +kernel))
  have g1 : (Term.elem (Term.static "ModelSender" "CRUISE_GAINS" "[I") (.int (Int32.ofNat 1))).eval #[Value.ref b] s none [] s = some (.int 75) := va_eqt (hs _ (by decide +kernel))
  have g2 : (Term.elem (Term.static "ModelSender" "CRUISE_GAINS" "[I") (.int (Int32.ofNat 2))).eval #[Value.ref b] s none [] s = some (.int 100) := va_eqt (hs _ (by decide +kernel))
  have g3 : (Term.elem (Term.static "ModelSender" "CRUISE_GAINS" "[I") (.int (Int32.ofNat 3))).eval #[Value.ref b] s none [] s = some (.int 100) := va_eqt (hs _ (by decide +kernel))
  have g4 : (Term.elem (Term.static "ModelSender" "CRUISE_GAINS" "[I") (.int (Int32.ofNat 4))).eval #[Value.ref b] s none [] s = some (.int 100) := va_eqt (hs _ (by decide +kernel))
  have g5 : (Term.elem (Term.static "ModelSender" "CRUISE_GAINS" "[I") (.int (Int32.ofNat 5))).eval #[Value.ref b] s none [] s = some (.int 100) := va_eqt (hs _ (by decide +kernel))
  have g6 : (Term.elem (Term.static "ModelSender" "CRUISE_GAINS" "[I") (.int (Int32.ofNat 6))).eval #[Value.ref b] s none [] s = some (.int 100) := va_eqt (hs _ (by decide +kernel))
  have g7 : (Term.elem (Term.static "ModelSender" "CRUISE_GAINS" "[I") (.int (Int32.ofNat 7))).eval #[Value.ref b] s none [] s = some (.int 100) := va_eqt (hs _ (by decide +kernel))
  obtain ⟨t, ht, hT⟩ := va_Tof (A := fun q : Nat => s.heap.size ≤ q) (N := 8) (f := fun j => .int (jGains j)) (by decide) harr hlen (fun j hj => by
    rcases (show j = 0 ∨ j = 1 ∨ j = 2 ∨ j = 3 ∨ j = 4 ∨ j = 5 ∨ j = 6 ∨ j = 7 by omega) with rfl | rfl | rfl | rfl | rfl | rfl | rfl | rfl
    · exact g0
    · exact g1
    · exact g2
    · exact g3
    · exact g4
    · exact g5
    · exact g6
    · exact g7) hA
  exact ⟨va_Nw.of rfl (hts _ (List.mem_append_right _ (List.mem_of_getElem? (i := 402) (by decide +kernel)))), t, va_Zof (hts _ (List.mem_append_right _ (List.mem_of_getElem? (i := 403) (by decide +kernel)))) (hts _ (List.mem_append_right _ (List.mem_of_getElem? (i := 1) (by decide +kernel)))) ht hA, hT⟩
theorem lw_gk {s : State} {b : Nat} {A : Nat → Prop} (hts : ∀ w ∈ lw_tbl, w.before #[Value.ref b] s = true) : gk A s :=
  ⟨va_AO.of (hts _ (List.mem_append_right _ (List.mem_of_getElem? (i := 25) (by decide +kernel)))), va_Nw.of rfl (hts _ (List.mem_append_right _ (List.mem_of_getElem? (i := 20) (by decide +kernel)))), va_Nw.of rfl (hts _ (List.mem_append_right _ (List.mem_of_getElem? (i := 110) (by decide +kernel)))), va_Nw.of rfl (hts _ (List.mem_append_right _ (List.mem_of_getElem? (i := 116) (by decide +kernel)))), va_Nw.of rfl (hts _ (List.mem_append_right _ (List.mem_of_getElem? (i := 133) (by decide +kernel)))), va_Nw.of rfl (hts _ (List.mem_append_right _ (List.mem_of_getElem? (i := 157) (by decide +kernel))))⟩
set_option maxHeartbeats 8000000 in
set_option maxRecDepth 100000 in
theorem law_start {p : Program} {e : Env} {s : State} {m : MethodId} {below : List Frame} {meth : Method} {c : Code} (l : Launch) {b L : Nat} {xs : Nat → Int32} (hL : L ≤ 2048) (C0 : lw_At p s m meth c b L xs)
    (hI : ∀ fo0 fo1 gu : Nat, fo0 ≠ fo1 → ∃ (N : Nat) (I : Nat → jXS → jSS → jSS → jGS → jRS → Prop), I 0 xInit aInit aInit (bInit gu) rInit ∧ jTie N fo0 fo1 gu I) : W p l e room_1 s m #[Value.ref b] below meth c s.heap [] 0 0 (lw_Z below #[Value.ref b] s) (entryFrame m ([Value.ref b] : List Value).toArray 4) := by
  obtain ⟨hx, hb, hr, hml, hown, hts, hX, hbl, hlocks, hgv⟩ := id C0
  have hgz := lw_gz hts hgv
  have hgk : gk (fun q : Nat => s.heap.size ≤ q) s := lw_gk hts
  obtain ⟨c0, iS0, hKn0⟩ := u_known (C := RX0) (T := TX0) (N := 12) (n := 12) hts inX0 (hts (.instantiable RX0 12) (List.mem_append_right _ (List.mem_of_getElem? (i := 156) (by decide +kernel))))
  obtain ⟨c1, iS1, hKn1⟩ := u_known (C := RX1) (T := TX1) (N := 12) (n := 12) hts inX1 (hts (.instantiable RX1 12) (List.mem_append_right _ (List.mem_of_getElem? (i := 19) (by decide +kernel))))
  obtain ⟨c2, iS2, hKn2⟩ := u_known (C := RX2) (T := TX2) (N := 8) (n := 8) hts inX2 (hts (.instantiable RX2 8) (List.mem_append_right _ (List.mem_of_getElem? (i := 26) (by decide +kernel))))
  obtain ⟨c3, iS3, hKn3⟩ := u_known (C := RX3) (T := TX3) (N := 2) (n := 2) hts inX3 (hts (.instantiable RX3 2) (List.mem_append_right _ (List.mem_of_getElem? (i := 115) (by decide +kernel))))
  obtain ⟨c4, iS4, hKn4⟩ := u_known (C := RX4) (T := TX4) (N := 5) (n := 5) hts inX4 (hts (.instantiable RX4 5) (List.mem_append_right _ (List.mem_of_getElem? (i := 132) (by decide +kernel))))
  obtain ⟨c5, iS5, hKn5⟩ := u_known (C := RX5) (T := TX5) (N := 16) (n := 16) hts inX5 (hts (.instantiable RX5 16) (List.mem_append_right _ (List.mem_of_getElem? (i := 109) (by decide +kernel))))
  obtain ⟨c6, iS6, hKn6⟩ := u_known (C := RX6) (T := TX6) (N := 6) (n := 6) hts inX6 (hts (.instantiable RX6 6) (List.mem_append_right _ (List.mem_of_getElem? (i := 11) (by decide +kernel))))
  obtain ⟨c7, iS7, hKn7⟩ := u_known (C := RX7) (T := TX7) (N := 50) (n := 50) hts inX7 (hts (.instantiable RX7 50) (List.mem_append_right _ (List.mem_of_getElem? (i := 541) (by decide +kernel))))
  obtain ⟨dC, dI, hKc⟩ : ∃ (dC : Nat → ClassId) (dI : Nat → Nat → Nat), ∀ (k : Nat) (q : vw_C), vwCl[k]? = some q → u_Kn s q.1 q.2.1 q.2.2 (dC k) (dI k) := by
    refine ⟨fun k => if k = 0 then c0 else if k = 1 then c1 else if k = 2 then c2 else if k = 3 then c3 else if k = 4 then c4 else if k = 5 then c5 else if k = 6 then c6 else c7, fun k => if k = 0 then iS0 else if k = 1 then iS1 else if k = 2 then iS2 else if k = 3 then iS3 else if k = 4 then iS4 else if k = 5 then iS5 else if k = 6 then iS6 else iS7, ?_⟩
    intro k q hq
    match k, hq with
    | 0, hq => cases hq; exact hKn0
    | 1, hq => cases hq; exact hKn1
    | 2, hq => cases hq; exact hKn2
    | 3, hq => cases hq; exact hKn3
    | 4, hq => cases hq; exact hKn4
    | 5, hq => cases hq; exact hKn5
    | 6, hq => cases hq; exact hKn6
    | 7, hq => cases hq; exact hKn7
    | k + 8, hq => simp [vwCl] at hq
  obtain ⟨cI, hcI⟩ := k_int (hts _ (List.mem_append_right _ (List.mem_of_getElem? (i := 154) (by decide +kernel))))
  obtain ⟨cJ, hcJ⟩ := k_long (hts _ (List.mem_append_right _ (List.mem_of_getElem? (i := 698) (by decide +kernel))))
  obtain ⟨cZ, hcZ⟩ := k_bool (hts _ (List.mem_append_right _ (List.mem_of_getElem? (i := 697) (by decide +kernel))))
  obtain ⟨cO, hcO⟩ := k_obj (K := "ModelSender$Letter") (hts _ (List.mem_append_right _ (List.mem_of_getElem? (i := 25) (by decide +kernel))))
  have hK : va_K (dC, dI) vwCl (jT cI cJ cZ cO) s := by
    refine ⟨hKc, fun k q hq => ?_⟩
    match k, hq with
    | 0, hq => cases hq; exact hcI
    | 1, hq => cases hq; exact hcJ
    | 2, hq => cases hq; exact hcZ
    | 3, hq => cases hq; exact hcO
    | k + 4, hq => simp [jT] at hq
  have C : jC p s m #[Value.ref b] meth c code 4 R_law wsL_law (dC, dI) (jT cI cJ cZ cO) (fun q : Nat => s.heap.size ≤ q) := ⟨⟨hx, hb, hml, hown, fun w h => hts w (wsL_law_in w h)⟩, hK, fun _ h => h, hlocks⟩
  have hP : va_P (dC, dI) vwCl [] s.heap := fun k q h => by simp at h
  have hD : va_D (fun q : Nat => s.heap.size ≤ q) [] := ⟨fun i j p q h => by simp at h, fun k q h => by simp at h⟩
  rw [lg_entry_eq]
  have key : jJ p l e room_1 s m #[Value.ref b] below meth c 0 0 (lw_Z below #[Value.ref b] s) (dC, dI) (fun q : Nat => s.heap.size ≤ q) 4 [] [(0, .ref b)] 0 [] := by
    refine j_new (index := 7) (K := RX6) (T := TX6) (N := 6) (ci := 6) (fs := [.null, .null, .null, .int 0, .int 0, .int 0]) (pc := 0) C (inlX6) tyX6 tyX6_ok (by decide +kernel) (by decide +kernel) (by decide +kernel) rfl (fun j hj => by rcases (show j = 0 ∨ j = 1 ∨ j = 2 ∨ j = 3 ∨ j = 4 ∨ j = 5 by omega) with rfl | rfl | rfl | rfl | rfl | rfl <;> rfl) (Nat.le_of_ble_eq_true rfl) (Nat.le_of_ble_eq_true rfl) dL_law_0 (fun ax => ?_)
    refine j_dup (pc := 3) C dL_law_3 rfl ?_
    refine j_ctor (pc := 4) C gk_ok hgk 0 (mX6_init (q := ax)) gL_law_X6_init rfl rfl rfl (by decide +kernel) (by decide +kernel) (by decide +kernel) rfl (by decide +kernel) ⟨(Nat.le_of_ble_eq_true rfl), (Nat.le_of_ble_eq_true rfl)⟩ rfl rfl (Nat.le_of_ble_eq_true rfl) dL_law_4 ⟨(Nat.le_of_ble_eq_true rfl), (Nat.le_of_ble_eq_true rfl)⟩ (fun u hu => ?_)
    obtain ⟨f0, f1, h⟩ := u
    refine j_ws (ws' := mF f0 f1 h ax cI cO (xInit, aInit, aInit, bInit (h 2))) rfl ?_
    refine j_astore_n (pc := 7) (lv' := [(0, .ref b), (1, .ref ax)]) C [1, 0] dL_law_7 rfl (by decide) rfl ?_
    refine j_new (index := 10) (K := RX7) (T := TX7) (N := 50) (ci := 7) (fs := [.int 0, .int 0, .int 0, .int 0, .int 0, .int 0, .int 0, .int 0, .int 0, .int 0, .null, .null, .int 0, .null, .int 0, .int 0, .null, .null, .null, .null, .null, .null, .null, .null, .null, .null, .null, .null, .null, .null, .null, .null, .null, .null, .null, .null, .null, .null, .null, .null, .null, .null, .null, .null, .null, .null, .null, .null, .null, .null]) (pc := 8) C (inlX7) tyX7 tyX7_ok (by decide +kernel) (by decide +kernel) (by decide +kernel) rfl (fun j hj => by rcases (show j = 0 ∨ j = 1 ∨ j = 2 ∨ j = 3 ∨ j = 4 ∨ j = 5 ∨ j = 6 ∨ j = 7 ∨ j = 8 ∨ j = 9 ∨ j = 10 ∨ j = 11 ∨ j = 12 ∨ j = 13 ∨ j = 14 ∨ j = 15 ∨ j = 16 ∨ j = 17 ∨ j = 18 ∨ j = 19 ∨ j = 20 ∨ j = 21 ∨ j = 22 ∨ j = 23 ∨ j = 24 ∨ j = 25 ∨ j = 26 ∨ j = 27 ∨ j = 28 ∨ j = 29 ∨ j = 30 ∨ j = 31 ∨ j = 32 ∨ j = 33 ∨ j = 34 ∨ j = 35 ∨ j = 36 ∨ j = 37 ∨ j = 38 ∨ j = 39 ∨ j = 40 ∨ j = 41 ∨ j = 42 ∨ j = 43 ∨ j = 44 ∨ j = 45 ∨ j = 46 ∨ j = 47 ∨ j = 48 ∨ j = 49 by omega) with rfl | rfl | rfl | rfl | rfl | rfl | rfl | rfl | rfl | rfl | rfl | rfl | rfl | rfl | rfl | rfl | rfl | rfl | rfl | rfl | rfl | rfl | rfl | rfl | rfl | rfl | rfl | rfl | rfl | rfl | rfl | rfl | rfl | rfl | rfl | rfl | rfl | rfl | rfl | rfl | rfl | rfl | rfl | rfl | rfl | rfl | rfl | rfl | rfl | rfl <;> rfl) (Nat.le_of_ble_eq_true rfl) (Nat.le_of_ble_eq_true rfl) dL_law_8 (fun am => ?_)
    refine j_dup (pc := 11) C dL_law_11 rfl ?_
    refine j_ctor (pc := 12) C gk_ok hgk 0 (mX7_init (q := am)) gL_law_X7_init rfl rfl rfl (by decide +kernel) (by decide +kernel) (by decide +kernel) rfl (by decide +kernel) ⟨(Nat.le_of_ble_eq_true rfl), (Nat.le_of_ble_eq_true rfl)⟩ rfl rfl (Nat.le_of_ble_eq_true rfl) dL_law_12 ⟨(Nat.le_of_ble_eq_true rfl), (Nat.le_of_ble_eq_true rfl)⟩ (fun a ha => ?_)
    subst ha
    refine j_astore_n (pc := 15) (lv' := [(0, .ref b), (1, .ref ax), (2, .ref (a 0))]) C [1, 2, 0] dL_law_15 rfl (by decide) rfl ?_
    refine j_iconst (pc := 16) (v := 0) C dL_law_16 (by decide) ?_
    refine j_istore_n (pc := 17) (lv' := [(0, .ref b), (1, .ref ax), (2, .ref (a 0)), (3, .int 0)]) C [1, 2, 3, 0] dL_law_17 rfl (by decide) rfl ?_
    refine j_comm ?_
    obtain ⟨N, I, hI0, T0, T1, T2, T3, T4, T5, T6, T7, T8, T9, T10, T11, T12, T13, Td⟩ := hI (f0 0) (f1 0) (h 2) hu
    exact law_loop I T0 T1 T2 T3 T4 T5 T6 T7 T8 T9 T10 T11 T12 T13 Td C hr hX hbl hL hgz 513 0 0 xInit aInit aInit (bInit (h 2)) rInit (by omega) (by omega) (by decide) hI0
  exact key s.heap [] _ hP hD va_S.rf (lv_entry ([.ref b]) (Nat.le_of_ble_eq_true rfl))

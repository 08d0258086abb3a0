/-! busy: both count a greatest divisor -/
theorem half_mod {y r : Nat} (h0 : 0 < r) (h : r < y) : 2 * (y % r) < y := by
  have h1 := Nat.div_add_mod y r
  have h2 := Nat.mod_lt y h0
  have h3 : 1 ≤ y / r := Nat.div_pos (by omega) h0
  have h4 : r * 1 ≤ r * (y / r) := Nat.mul_le_mul_left r h3
  omega
theorem gcd_step (x y : Nat) : Nat.gcd y (x % y) = Nat.gcd x y := by
  rw [Nat.gcd_comm x y, Nat.gcd_rec y x, Nat.gcd_comm]
theorem gd_0 {N n x it : Nat} {P : Int32 → Unit → Prop} (hit : it < 64) (h : P (nI x) ()) : wX6_greatestDivisor_7 N (n + 1) () (nI x) (nI 0) (nI it) P := by
  unfold wX6_greatestDivisor_7
  refine pk_le 64 it (fun g => by omega) (fun _ => ⟨fun _ => h, fun hh => absurd nI_0 hh⟩)
theorem gd_S {N n x y it : Nat} {P : Int32 → Unit → Prop} (hit : it < 64) (hx : x < 2 ^ 31) (hy0 : 0 < y) (hy : y < 2 ^ 31) (h : wX6_greatestDivisor_7 N n () (nI y) (nI (x % y)) (nI (it + 1)) P) : wX6_greatestDivisor_7 N (n + 1) () (nI x) (nI y) (nI it) P := by
  unfold wX6_greatestDivisor_7
  refine pk_le 64 it (fun g => by omega) (fun _ => ?_)
  refine pk_eq y 0 (fun g => by omega) (fun _ => ⟨?_, fun x5 e5 x4 e4 => ?_⟩)
  · exact fun g => by
      have := congrArg Int32.toInt g
      rw [nI_toInt hy] at this
      have h0 : (0 : Int32).toInt = 0 := rfl
      rw [h0] at this
      omega
  · rw [pk_rem hx hy0 hy] at e5
    rw [nI_1] at e4
    subst e5 e4
    exact h
theorem gd_all {N : Nat} {P : Int32 → Unit → Prop} : ∀ (k x y it n : Nat), y < 2 ^ k → x < 2 ^ 31 → y < 2 ^ 31 → it + 2 * k + 1 ≤ 64 → 2 * k + 1 ≤ n → P (nI (Nat.gcd x y)) () → wX6_greatestDivisor_7 N n () (nI x) (nI y) (nI it) P := by
  intro k
  induction k with
  | zero =>
    intro x y it n h1 h2 h3 h4 h5 h6
    obtain ⟨n, rfl⟩ : ∃ q, n = q + 1 := ⟨n - 1, by omega⟩
    have : y = 0 := by omega
    subst this
    rw [Nat.gcd_zero_right] at h6
    exact gd_0 (by omega) h6
  | succ k ih =>
    intro x y it n h1 h2 h3 h4 h5 h6
    obtain ⟨n, rfl⟩ : ∃ q, n = q + 1 + 1 := ⟨n - 2, by omega⟩
    by_cases hy : y = 0
    · subst hy
      rw [Nat.gcd_zero_right] at h6
      exact gd_0 (by omega) h6
    · have hm := Nat.mod_lt x (show 0 < y by omega)
      refine gd_S (by omega) h2 (by omega) h3 ?_
      rw [← gcd_step] at h6
      by_cases hr : x % y = 0
      · rw [hr] at h6 ⊢
        rw [Nat.gcd_zero_right] at h6
        exact gd_0 (by omega) h6
      · have h7 := half_mod (show 0 < x % y by omega) hm
        rw [← gcd_step] at h6
        rw [Nat.pow_succ] at h1
        refine gd_S (by omega) h3 (by omega) (by omega) (ih _ _ _ _ (by omega) (by omega) (by omega) (by omega) (by omega) h6)
def wBz (σ : jRS) (x1 x2 : Int32) (post : Int64 → jRS → Prop) : Prop := ((¬ (σ.1 0 0) = 0) → (((¬ x1 = 0) → ((¬ x2 = 0) ∧ post (((σ.1 0 0) / x2).toInt64) σ)) ∧ ((x1 = 0) → ((¬ x2 = 0) ∧ post (((σ.1 0 14) / x2).toInt64) σ)))) ∧ (((σ.1 0 0) = 0) → (post x1.toInt64 σ))
theorem bz_0 {N n x : Nat} {σ : jRS} {p : Int32} {P : Int64 → jRS → Prop} (h : wBz σ p (nI x) P) : wX7_busy_23 N (n + 1) σ p (nI x) (nI 0) P := by
  unfold wX7_busy_23
  exact pk_le 0 0 (fun _ => h) (fun g => by omega)
theorem nI_nz {y : Nat} (h0 : 0 < y) (hy : y < 2 ^ 31) : ¬ nI y = 0 := fun g => by
  have := congrArg Int32.toInt g
  rw [nI_toInt hy] at this
  have h0 : (0 : Int32).toInt = 0 := rfl
  rw [h0] at this
  omega
theorem bz_S {N n x y : Nat} {σ : jRS} {p : Int32} {P : Int64 → jRS → Prop} (hx : x < 2 ^ 31) (hy0 : 0 < y) (hy : y < 2 ^ 31) (h : wX7_busy_23 N n σ p (nI y) (nI (x % y)) P) : wX7_busy_23 N (n + 1) σ p (nI x) (nI y) P := by
  unfold wX7_busy_23
  refine pk_le y 0 (fun g => by omega) (fun _ => ⟨nI_nz hy0 hy, fun x5 e5 => ?_⟩)
  rw [pk_rem hx hy0 hy] at e5
  subst e5
  exact h
theorem bz_all {N : Nat} {σ : jRS} {p : Int32} {P : Int64 → jRS → Prop} : ∀ (k x y n : Nat), y < 2 ^ k → x < 2 ^ 31 → y < 2 ^ 31 → 2 * k + 1 ≤ n → wBz σ p (nI (Nat.gcd x y)) P → wX7_busy_23 N n σ p (nI x) (nI y) P := by
  intro k
  induction k with
  | zero =>
    intro x y n h1 h2 h3 h5 h6
    obtain ⟨n, rfl⟩ : ∃ q, n = q + 1 := ⟨n - 1, by omega⟩
    have : y = 0 := by omega
    subst this
    rw [Nat.gcd_zero_right] at h6
    exact bz_0 h6
  | succ k ih =>
    intro x y n h1 h2 h3 h5 h6
    obtain ⟨n, rfl⟩ : ∃ q, n = q + 1 + 1 := ⟨n - 2, by omega⟩
    by_cases hy : y = 0
    · subst hy
      rw [Nat.gcd_zero_right] at h6
      exact bz_0 h6
    · have hm := Nat.mod_lt x (show 0 < y by omega)
      refine bz_S h2 (by omega) h3 ?_
      rw [← gcd_step] at h6
      by_cases hr : x % y = 0
      · rw [hr] at h6 ⊢
        rw [Nat.gcd_zero_right] at h6
        exact bz_0 h6
      · have h7 := half_mod (show 0 < x % y by omega) hm
        rw [← gcd_step] at h6
        rw [Nat.pow_succ] at h1
        refine bz_S h3 (by omega) (by omega) (ih _ _ _ (by omega) (by omega) (by omega) (by omega) h6)
theorem t_busy {N fo0 fo1 gu k : Nat} {x : jXS} {a0 a1 : jSS} {b : jGS} {σ : jRS} {p1 : Int32} (hN : 8002 ≤ N) (hk : k < 512) (h : JI fo0 fo1 gu k x a0 a1 b σ) : wX6_busy N x a0 a1 b p1 (fun r x2 z0 z1 zb => wX7_busy N σ p1 (fun r2 σ2 => r = r2 ∧ JI fo0 fo1 gu (k + 1) x2 z0 z1 zb σ2)) := by
  have hs := h.suc
  obtain ⟨t, m, lf, s, d, al, L, ql, w, rm, dl, hd, o, A, h1, h2, h3, h4⟩ := h
  obtain ⟨q1, q2, q3, q4, q5, q6, ⟨bt, q7, q8⟩, q9⟩ := h4
  have q5' : x 5 = nI bt := by rw [q5]; exact q8
  have ht : t < 2 ^ 20 := by omega
  have hg : Nat.gcd bt t < 2 ^ 31 := by
    by_cases g : 0 < t
    · have := Nat.gcd_le_right bt g; omega
    · have e1 : t = 0 := by omega
      have e2 : bt = 0 := by omega
      subst e1 e2
      rw [Nat.gcd_zero_right]
      omega
  have ref : ∀ P, wBz σ p1 (nI (Nat.gcd bt t)) P → ¬ jwithin p1 0 1 = 0 → wX7_busy N σ p1 P := fun P hP hw => by
    unfold wX7_busy
    intro r er
    refine ⟨fun _ x2 e2 x3 e3 => ?_, fun hh => absurd (by rw [← er]; exact hh) hw⟩
    rw [q8] at e2
    rw [q2] at e3
    subst e2 e3
    exact bz_all 20 bt t N ht (by omega) (by omega) (by omega) hP
  unfold wX6_busy
  intro r er
  refine ⟨fun hr => ?_, fun hr => ?_⟩
  · rw [q5', q3]
    unfold wX6_greatestDivisor
    rw [← nI_0]
    refine gd_all 20 bt t 0 N ht (by omega) (by omega) (by omega) (by omega) ?_
    rw [nI_0]
    rw [er] at hr
    refine ⟨fun hn => ?_, fun hz => ?_⟩
    · have ht0 : 0 < t := by
        by_cases g : t = 0
        · have e2 : bt = 0 := by omega
          rw [g, e2, Nat.gcd_zero_right] at hn
          exact absurd nI_0 hn
        · omega
      have hn0 := nI_nz ht0 (by omega)
      refine ⟨fun hp => ⟨hn, ref _ ⟨fun _ => ⟨fun _ => ⟨hn, ?_, hs⟩, fun hh => absurd hh hp⟩, fun hh => absurd (by rw [← q2]; exact hh) hn0⟩ hr⟩, fun hp => ⟨hn, ref _ ⟨fun _ => ⟨fun hh => absurd hp hh, fun _ => ⟨hn, ?_, hs⟩⟩, fun hh => absurd (by rw [← q2]; exact hh) hn0⟩ hr⟩⟩
      · rw [q2]
      · rw [q8]
    · have ht0 : t = 0 := by
        by_cases g : Nat.gcd bt t = 0
        · exact Nat.eq_zero_of_gcd_eq_zero_right g
        · exact absurd hz (nI_nz (by omega) hg)
      refine ref _ ⟨fun hh => absurd (by rw [q2, ht0, nI_0]) hh, fun _ => ⟨rfl, hs⟩⟩ hr
  · unfold wX7_busy
    intro r2 er2
    rw [← er] at er2
    subst er2
    exact ⟨fun hh => absurd hr hh, fun _ => ⟨rfl, hs⟩⟩
/-! gate -/
theorem RT.gate {gu t1 ql w rm dl hd rm' dl' : Nat} {fo k m lf s d al o : Nat → Nat} {L : Nat → Nat → Nat} {A : Nat → jSS} {b : jGS} {σ : jRS} {p1 : Int32} (h : RT fo gu t1 k m lf s d al L ql w rm dl hd o A b σ) (g1 : rm' ≤ 60) (g2 : 1 ≤ dl') (g3 : dl' ≤ 200) : RT fo gu t1 k m lf s d al L ql w rm' dl' hd o A (gP (gP (gP b 0 p1) 1 (nI rm')) 2 (nI dl')) (rP (rP (rP σ 0 1 p1) 0 2 (nI rm')) 0 3 (nI dl')) := by
  obtain ⟨h1, h2, h3, h4, h5, h6, h7, h8⟩ := h
  have R : ∀ k j, ¬ (k = 0 ∧ (j = 1 ∨ j = 2 ∨ j = 3)) → (rP (rP (rP σ 0 1 p1) 0 2 (nI rm')) 0 3 (nI dl')).1 k j = σ.1 k j := fun k j g => by simp only [rP_rd]; rw [if_neg (by omega), if_neg (by omega), if_neg (by omega)]
  obtain ⟨u1, u2, u3, u4, u5, u6, u7, u8⟩ := h2
  refine ⟨fun i hi => (h1 i hi).cg (fun kk j g => R kk j (by have := g.1; omega)) rfl rfl (R 13 i (by omega)) (fun _ _ => rfl) (fun _ g => g) (fun _ _ => rfl), ⟨by rw [R 0 8 (by omega)]; exact u1, u2, ?_, g1, ?_, g2, g3, by rw [R 0 5 (by omega)]; exact u8⟩, ⟨fun kk hk => ?_, h3.2⟩, ?_, ?_, h6, h7, h8⟩
  · simp only [rP_rd]; simp
  · simp only [rP_rd]; simp
  · obtain ⟨q1, q2, q3⟩ := h3.1 kk hk
    refine ⟨q1, ?_, fun g => ?_⟩
    · unfold qof at q2 ⊢; rw [R 0 5 (by omega), R 10 _ (by omega)]; exact q2
    · have := q3 g
      unfold qnum at this ⊢; rw [R 0 6 (by omega), R 11 _ (by omega), R 17 _ (by omega)]; exact this
  · obtain ⟨c1, c2, c3, c4, c5⟩ := h4
    refine ⟨?_, ?_, c3, c4, c5⟩
    · simp only [b_IP]; simpa using c1
    · simp only [b_IP]; simpa using c2
  · unfold GS at h5 ⊢
    rw [R 0 7 (by omega), R 0 9 (by omega), R 13 2 (by omega), R 0 12 (by omega)]
    simp only [b_IP, rP_rd]
    simp
    exact ⟨h5.2.2.2.1, h5.2.2.2.2.1, h5.2.2.2.2.2.1, h5.2.2.2.2.2.2⟩
theorem t_gate {N fo0 fo1 gu k : Nat} {x : jXS} {a0 a1 : jSS} {b : jGS} {σ : jRS} {p1 p2 p3 : Int32} (h : JI fo0 fo1 gu k x a0 a1 b σ) : wX6_gate N x a0 a1 b p1 p2 p3 (fun r x2 z0 z1 zb => wX7_gate N σ p1 p2 p3 (fun r2 σ2 => r = r2 ∧ JI fo0 fo1 gu (k + 1) x2 z0 z1 zb σ2)) := by
  have hs := h.suc
  obtain ⟨t, m, lf, s, d, al, L, ql, w, rm, dl, hd, o, A, h1, h2, h3, h4⟩ := h
  unfold wX6_gate wX7_gate
  intro r1 e1
  refine ⟨fun z1 => fun r e => ⟨fun _ => ⟨rfl, hs⟩, fun hh => absurd (by rw [e, ← e1]; exact z1) hh⟩, fun z1 r2 e2 => ⟨fun z2 => fun r e => ⟨fun hh => absurd (by rw [e1, ← e]; exact hh) z1, fun _ r' e' => ⟨fun _ => ⟨rfl, hs⟩, fun hh => absurd (by rw [e', ← e2]; exact z2) hh⟩⟩, fun z2 r3 e3 => ⟨fun z3 b1 f1 b2 f2 b3 f3 => ?_, fun z3 => fun r e => ⟨fun hh => absurd (by rw [e1, ← e]; exact hh) z1, fun _ r' e' => ⟨fun hh => absurd (by rw [e2, ← e']; exact hh) z2, fun _ r'' e'' => ⟨fun hh => absurd (by rw [e'', ← e3]; exact z3) hh, fun _ => ⟨rfl, hs⟩⟩⟩⟩⟩⟩⟩
  intro r e
  refine ⟨fun hh => absurd (by rw [e1, ← e]; exact hh) z1, fun _ r' e' => ⟨fun hh => absurd (by rw [e2, ← e']; exact hh) z2, fun _ r'' e'' => ⟨fun _ s1 k1 s2 k2 s3 k3 => ⟨rfl, ?_⟩, fun hh => absurd (by rw [e3, ← e'']; exact hh) z3⟩⟩⟩
  obtain ⟨rm', i1, i2, i3⟩ := within_n (v := p2) (lo := 1) (hi := 60) (by omega) (by omega) (by rw [e2] at z2; exact z2)
  obtain ⟨dl', j1, j2, j3⟩ := within_n (v := p3) (lo := 1) (hi := 200) (by omega) (by omega) (by rw [e3] at z3; exact z3)
  subst i3 j3 f1 f2 f3 k1 k2 k3
  obtain ⟨q1, q2, q3, q4, q5, q6, q7, q8, q9⟩ := h4
  have R : ∀ j, ¬ (j = 1 ∨ j = 2 ∨ j = 3) → (rP (rP (rP σ 0 1 p1) 0 2 (nI rm')) 0 3 (nI dl')).1 0 j = σ.1 0 j := fun j g => by simp only [rP_rd]; rw [if_neg (by omega), if_neg (by omega), if_neg (by omega)]
  exact ⟨t, m, lf, s, d, al, L, ql, w, rm', dl', hd, o, A, h1, h2, by omega, q1.gate i2 j1 j2, by rw [R 0 (by omega)]; exact q2, q3, by rw [R 4 (by omega)]; exact q4, by rw [R 14 (by omega)]; exact q5, by rw [R 4 (by omega)]; exact q6, by rw [R 14 (by omega)]; exact q7, by rw [R 15 (by omega)]; exact q8, q9⟩
/-! guests -/
theorem t_guests {N fo0 fo1 gu k : Nat} {x : jXS} {a0 a1 : jSS} {b : jGS} {σ : jRS} {p1 : Int32} (h : JI fo0 fo1 gu k x a0 a1 b σ) : wX6_guests N x a0 a1 b p1 (fun r x2 z0 z1 zb => wX7_guests N σ p1 (fun r2 σ2 => r = r2 ∧ JI fo0 fo1 gu (k + 1) x2 z0 z1 zb σ2)) := by
  have hs := h.suc
  obtain ⟨t, m, lf, s, d, al, L, ql, w, rm, dl, hd, o, A, h1, h2, h3, h4⟩ := h
  unfold wX6_guests wX7_guests
  intro r1 e1
  refine ⟨fun z1 v ev x' ex' r e => ⟨fun _ v' ev' s' es' => ⟨?_, ?_⟩, fun hh => absurd (by rw [e1, ← e]; exact hh) z1⟩, fun z1 r e => ⟨fun hh => absurd (by rw [e, ← e1]; exact z1) hh, fun _ => ⟨rfl, hs⟩⟩⟩
  · rw [ev, ev']; exact h4.2.2.2.1
  · obtain ⟨ev2, i1, i2, i3⟩ := within_n (v := p1) (lo := 0) (hi := 200) (by omega) (by omega) (by rw [e1] at z1; exact z1)
    obtain ⟨q1, q2, q3, q4, q5, q6, q7, q8, q9⟩ := h4
    have R : ∀ k j, ¬ (k = 0 ∧ j = 4) → (rP σ 0 4 p1).1 k j = σ.1 k j := fun k j g => by simp only [rP_rd]; rw [if_neg (by omega)]
    have R4 : (rP σ 0 4 p1).1 0 4 = p1 := by simp only [rP_rd]; simp
    subst ex' es'
    exact ⟨t, m, lf, s, d, al, L, ql, w, rm, dl, hd, o, A, h1, h2, by omega, q1.row0 (fun k j g => R k j (by omega)) rfl, by rw [R 0 0 (by omega)]; exact q2, by rw [pk_un (by omega)]; exact q3, by rw [R4]; exact pk_us, by rw [pk_un (by omega), R 0 14 (by omega)]; exact q5, ⟨ev2, i2, by rw [R4]; exact i3⟩, by rw [R 0 14 (by omega)]; exact q7, by rw [R 0 15 (by omega)]; exact q8, q9⟩
/-! stock -/
theorem KN.stock {i m d : Nat} {a : jSS} {σ : jRS} {v : Int32} (h : KN i m d a σ) : KN i m d (aP a 0 3 v) (rP σ 23 i v) := by
  obtain ⟨r, T, tn, mk, p, ca, M, e, V, W, dt, hB, hD, hc⟩ := h
  obtain ⟨k1, k2, k3, k4, k5, k6, k7, k8, k9, k10, k11, k12, k13, k14, k15, k16, lm, k17, k18⟩ := hB
  have R : ∀ k j, k ≠ 23 → (rP σ 23 i v).1 k j = σ.1 k j := fun k j g => by simp only [rP_rd]; rw [if_neg (by omega)]
  have Ar : ∀ k j, ¬ (k = 0 ∧ j = 3) → (aP a 0 3 v).1 k j = a.1 k j := fun k j g => by simp only [aP_rd]; rw [if_neg g]
  refine ⟨r, T, tn, mk, p, ca, M, e, V, W, dt, ⟨k1.mv ?_ (fun k j g => Ar k j (by omega)) (fun k j g => R k j (by omega)) (by rw [R 34 i (by omega)]; exact k1.2.1.2.2.2.1), k2, k3, k4.upd12 (fun k j g1 g2 g3 g4 g5 => Ar k j (by omega)), k5.upd (fun k j g => R k j (by omega)), k6, by rw [R 30 i (by omega)]; exact k7, k8, by rw [R 28 i (by omega)]; exact k9, k10, k11, by rw [R 29 i (by omega)]; exact k12, k13, k14, k15, by rw [R 25 i (by omega)]; exact k16, lm, k17, by rw [R 27 i (by omega)]; exact k18⟩, ⟨hD.1, fun j hj => by rw [R 19 _ (by omega)]; exact hD.2.1 j hj, hD.2.2⟩, hc⟩
  have := k1.1
  unfold SR at this ⊢
  simp only [aP_rd, rP_rd, aP_2, rP_2]
  grind
theorem RT.stock {gu t1 i ql w rm dl hd : Nat} {fo m lf s d al o : Nat → Nat} {L : Nat → Nat → Nat} {A : Nat → jSS} {b : jGS} {σ : jRS} {v : Int32} (hi : i < 2) (h : RT fo gu t1 (fun _ => 0) m lf s d al L ql w rm dl hd o A b σ) : RT fo gu t1 (fun _ => 0) m lf s d al L ql w rm dl hd o (va_up A i (aP (A i) 0 3 v)) b (rP σ 23 i v) := by
  obtain ⟨h1, h2, h3, h4, h5, h6, h7, h8⟩ := h
  have R : ∀ k j, ¬ (k = 23 ∧ j = i) → (rP σ 23 i v).1 k j = σ.1 k j := fun k j g => by simp only [rP_rd]; rw [if_neg g]
  refine ⟨fun i' hi' => ?_, h2.cg (fun j _ => R 0 j (by omega)), ⟨fun k hk => ?_, h3.2⟩, h4, h5.cg (fun k j g => R k j (by omega)), h6, h7, h8⟩
  · by_cases he : i' = i
    · subst he
      rw [va_up_self]
      obtain ⟨s1, s2, s3, s4, s5, s6, s7⟩ := h1 i' hi'
      refine ⟨?_, s2.stock, s3.cg rfl (fun _ g => g) (fun _ _ => rfl), fun j hj => ?_, s5, ?_, by rw [R 24 i' (by omega)]; exact s7.1, ?_⟩
      · obtain ⟨h16, hm2, hlf, ⟨nu, hn1, hn2⟩, hdu, hnl, hbo⟩ := s1
        exact ⟨by rw [R 16 i' (by omega)]; exact h16, hm2, hlf, ⟨nu, fun j hj => by rw [R 17 _ (by omega)]; exact hn1 j hj, hn2⟩, fun j hj => by rw [R 22 _ (by omega)]; exact hdu j hj, fun j g1 g2 => by rw [R 22 _ (by omega)]; exact hnl j g1 g2, fun j hj => by rw [R 21 _ (by omega)]; exact hbo j hj⟩
      · rw [R 17 _ (by omega), R 18 _ (by omega), R 19 _ (by omega), R 20 _ (by omega), R 21 _ (by omega), R 22 _ (by omega)]
        exact s4 j hj
      · simp only [aP_rd]; rw [if_neg (by omega), R 13 i' (by omega)]; exact s6
      · simp only [aP_rd]; rw [if_neg (by omega)]; exact s7.2
    · rw [va_up_ne _ _ he]
      refine (h1 i' hi').cg (fun k j g => R k j (fun g2 => ?_)) rfl rfl (R 13 i' (by omega)) (fun _ _ => rfl) (fun _ g => g) (fun _ _ => rfl)
      exact own_ne (fun g => he g.symm) (show own i k j by rw [g2.1, g2.2]; exact own_s (by omega) (by omega) (by omega) (by omega)) g
  · obtain ⟨q1, q2, q3⟩ := h3.1 k hk
    refine ⟨q1, ?_, fun g => ?_⟩
    · unfold qof at q2 ⊢; rw [R 0 5 (by omega), R 10 _ (by omega)]; exact q2
    · have := q3 g
      unfold qnum at this ⊢; rw [R 0 6 (by omega), R 11 _ (by omega), R 17 _ (by omega)]; exact this
theorem q_stock {N i : Nat} {σ : jRS} {p2 : Int32} {post : Int32 → jRS → Prop} (hi : i < 2) (h : ∀ r : Int32, r = jwithin p2 1 5000 → ((¬ r = 0) → ((σ.1 23 i + p2 ≤ 100000 → post (σ.1 23 i + p2) (rP σ 23 i (σ.1 23 i + p2))) ∧ (¬ σ.1 23 i + p2 ≤ 100000 → post (-4) σ))) ∧ (r = 0 → post (-2) σ)) : wX7_stock N σ (nI i) p2 post := by
  simp only [wX7_stock, ci hi]
  intro r er
  refine ⟨fun _ r2 er2 => ⟨fun z => ⟨vi hi, fun c => ⟨vi hi, fun v ev => ⟨vi hi, fun s es => ⟨vi hi, ?_⟩⟩⟩, fun c => ((h r2 er2).1 z).2 c⟩, fun z => (h r2 er2).2 z⟩, fun hh => absurd (by rw [← er]; exact hh) (jSi hi)⟩
  subst es ev
  have := ((h r2 er2).1 z).1 c
  have hv : (rP σ 23 i (σ.1 23 i + p2)).1 23 i = σ.1 23 i + p2 := by simp only [rP_rd]; simp
  rw [hv]
  exact this
theorem JI.stock {fo0 fo1 gu k i : Nat} {x : jXS} {a0 a1 : jSS} {b : jGS} {σ : jRS} {v : Int32} (hi : i < 2) (h : JI fo0 fo1 gu k x a0 a1 b σ) : JI fo0 fo1 gu (k + 1) x (if i = 0 then aP a0 0 3 v else a0) (if i = 0 then a1 else aP a1 0 3 v) b (rP σ 23 i v) := by
  obtain ⟨t, m, lf, s, d, al, L, ql, w, rm, dl, hd, o, A, h1, h2, h3, h4⟩ := h
  obtain ⟨q1, q2, q3, q4, q5, q6, q7, q8, q9⟩ := h4
  have R : ∀ j, (rP σ 23 i v).1 0 j = σ.1 0 j := fun j => by simp only [rP_rd]; rw [if_neg (by omega)]
  refine ⟨t, m, lf, s, d, al, L, ql, w, rm, dl, hd, o, va_up A i (aP (A i) 0 3 v), ?_, ?_, by omega, q1.stock hi, by rw [R]; exact q2, q3, by rw [R]; exact q4, by rw [R]; exact q5, by rw [R]; exact q6, by rw [R]; exact q7, by rw [R]; exact q8, q9⟩
  · rcases (show i = 0 ∨ i = 1 by omega) with e | e
    · subst e; rw [va_up_self, if_pos rfl, h1]
    · subst e; rw [va_up_ne _ _ (by omega), if_neg (by omega), h1]
  · rcases (show i = 0 ∨ i = 1 by omega) with e | e
    · subst e; rw [va_up_ne _ _ (by omega), if_pos rfl, h2]
    · subst e; rw [va_up_self, if_neg (by omega), h2]
theorem t_stock {N fo0 fo1 gu k : Nat} {x : jXS} {a0 a1 : jSS} {b : jGS} {σ : jRS} {p1 p2 : Int32} (h : JI fo0 fo1 gu k x a0 a1 b σ) : wX6_stock N x a0 a1 b p1 p2 (fun r x2 z0 z1 zb => wX7_stock N σ p1 p2 (fun r2 σ2 => r = r2 ∧ JI fo0 fo1 gu (k + 1) x2 z0 z1 zb σ2)) := by
  have hs := h.suc
  obtain ⟨t, _, _, _, hk⟩ := h.kn
  have e0 : a0.1 0 3 = σ.1 23 0 := by
    obtain ⟨m, lf, s, d, al, L, g, _⟩ := hk 0 (by omega)
    obtain ⟨r, T, tn, mk, p, ca, M, e, V, W, dt, g1, _⟩ := g.kb
    exact g1.1.1.1
  have e1 : a1.1 0 3 = σ.1 23 1 := by
    obtain ⟨m, lf, s, d, al, L, g, _⟩ := hk 1 (by omega)
    obtain ⟨r, T, tn, mk, p, ca, M, e, V, W, dt, g1, _⟩ := g.kb
    exact g1.1.1.1
  unfold wX6_stock
  refine ⟨fun hp r er => ?_, fun hp0 => ⟨fun hp r er => ?_, fun hp1 => ?_⟩⟩
  · rw [hp, ← nI_0, e0]
    refine ⟨fun z => ⟨fun c v ev a ea => q_stock (by omega) (fun r2 er2 => ⟨fun _ => ⟨fun _ => ⟨?_, ?_⟩, fun hh => absurd c hh⟩, fun hh => absurd (by rw [er, ← er2]; exact hh) z⟩), fun c => q_stock (by omega) (fun r2 er2 => ⟨fun _ => ⟨fun hh => absurd hh c, fun _ => ⟨rfl, hs⟩⟩, fun hh => absurd (by rw [er, ← er2]; exact hh) z⟩)⟩, fun z => q_stock (by omega) (fun r2 er2 => ⟨fun hh => absurd (by rw [er2, ← er]; exact z) hh, fun _ => ⟨rfl, hs⟩⟩)⟩
    · rw [ea, ev]; simp only [aP_rd]; simp
    · subst ea ev
      exact h.stock (i := 0) (by omega)
  · rw [hp, show (1 : Int32) = nI 1 from rfl, e1]
    refine ⟨fun z => ⟨fun c v ev a ea => q_stock (by omega) (fun r2 er2 => ⟨fun _ => ⟨fun _ => ⟨?_, ?_⟩, fun hh => absurd c hh⟩, fun hh => absurd (by rw [er, ← er2]; exact hh) z⟩), fun c => q_stock (by omega) (fun r2 er2 => ⟨fun _ => ⟨fun hh => absurd hh c, fun _ => ⟨rfl, hs⟩⟩, fun hh => absurd (by rw [er, ← er2]; exact hh) z⟩)⟩, fun z => q_stock (by omega) (fun r2 er2 => ⟨fun hh => absurd (by rw [er2, ← er]; exact z) hh, fun _ => ⟨rfl, hs⟩⟩)⟩
    · rw [ea, ev]; simp only [aP_rd]; simp
    · subst ea ev
      exact h.stock (i := 1) (by omega)
  · unfold wX7_stock
    intro r er
    rw [jSn hp0 hp1] at er
    exact ⟨fun hh => absurd er hh, fun _ => ⟨rfl, hs⟩⟩

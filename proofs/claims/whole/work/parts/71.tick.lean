/-! a tick -/
theorem RT.row0 {gu t1 ql w rm dl hd : Nat} {fo k m lf s d al o : Nat → Nat} {L : Nat → Nat → Nat} {A : Nat → jSS} {b : jGS} {σ σ' : jRS} (h : RT fo gu t1 k m lf s d al L ql w rm dl hd o A b σ) (hR : ∀ k j, ¬ (k = 0 ∧ (j = 0 ∨ j = 4 ∨ j = 14 ∨ j = 15)) → σ'.1 k j = σ.1 k j) (h2 : σ'.2 = σ.2) : RT fo gu t1 k m lf s d al L ql w rm dl hd o A b σ' := by
  obtain ⟨h1, h2', h3, h4, h5, h6, h7, h8⟩ := h
  refine ⟨fun i hi => (h1 i hi).cg (fun kk j g => hR kk j (by have := g.1; omega)) (by rw [h2]) rfl (hR 13 i (by omega)) (fun _ _ => rfl) (fun _ g => g) (fun _ _ => rfl), h2'.cg (fun j g => hR 0 j (by omega)), ⟨fun kk hk => ?_, h3.2⟩, h4, ?_, h6, h7, h8⟩
  · obtain ⟨q1, q2, q3⟩ := h3.1 kk hk
    refine ⟨q1, ?_, fun g => ?_⟩
    · unfold qof at q2 ⊢; rw [hR 0 5 (by omega), hR 10 _ (by omega)]; exact q2
    · have := q3 g
      unfold qnum at this ⊢; rw [hR 0 6 (by omega), hR 11 _ (by omega), hR 17 _ (by omega)]; exact this
  · unfold GS at h5 ⊢
    rw [hR 0 1 (by omega), hR 0 2 (by omega), hR 0 3 (by omega), hR 0 7 (by omega), hR 0 9 (by omega), hR 13 2 (by omega), hR 0 12 (by omega)]
    exact h5
def IV (fo : Nat → Nat) (gu t : Nat) (m lf s d al : Nat → Nat) (L : Nat → Nat → Nat) (ql w rm dl hd : Nat) (o : Nat → Nat) (x : jXS) (A : Nat → jSS) (b : jGS) (σ : jRS) : Prop := RT fo gu t (fun _ => 0) m lf s d al L ql w rm dl hd o A b σ ∧ σ.1 0 0 = nI t ∧ x 3 = nI t ∧ x 4 = σ.1 0 4 ∧ x 5 = σ.1 0 14 ∧ (∃ ev, ev ≤ 200 ∧ σ.1 0 4 = nI ev) ∧ (∃ bt, bt ≤ t ∧ σ.1 0 14 = nI bt) ∧ σ.1 0 15 = nI (d 0 + d 1) ∧ ∀ i, i < 2 → d i + lf i ≤ t ∧ s i ≤ 16 * t
/-- what a guest's tick does, if it is one -/
def wGc (N gu : Nat) (A0 : jSS) (b : jGS) (x : jXS) (Q : jSS → jGS → Prop) : Prop := (((x 4) ≤ 0) → Q A0 b) ∧ ((¬ (x 4) ≤ 0) → ((¬ x 4 = 0) ∧ ((¬ ((x 3) - (x 3) / (x 4) * (x 4)) = 0) → Q A0 b) ∧ ((((x 3) - (x 3) / (x 4) * (x 4)) = 0) → (wX1_admitGuest N gu A0 b (x 3) Q))))
theorem p_gtick {N gu t t1 ql w rm dl hd : Nat} {fo k m lf s d al o : Nat → Nat} {L : Nat → Nat → Nat} {A : Nat → jSS} {b : jGS} {σ : jRS} {x : jXS} (hnow : σ.1 0 0 = nI t) (hx3 : x 3 = nI t) (hx4 : x 4 = σ.1 0 4) (hev : ∃ ev, ev ≤ 200 ∧ σ.1 0 4 = nI ev) (h : RT fo gu t1 k m lf s d al L ql w rm dl hd o A b σ) : ∃ (ql' w' : Nat) (o' : Nat → Nat) (b' : jGS) (σ' : jRS), RT fo gu t1 k m lf s d al L ql' w' rm dl hd o' A b' σ' ∧ (∀ j, ¬ (5 ≤ j ∧ j ≤ 9) → j ≠ 12 → σ'.1 0 j = σ.1 0 j) ∧ (∀ P : jSS → jGS → Prop, P (A 0) b' → wGc N gu (A 0) b x P) ∧ ∀ post, wX7_ticks_75 N σ' post → wX7_ticks_33 N σ post := by
  obtain ⟨ev, e1, e2⟩ := hev
  by_cases he : ev = 0
  · refine ⟨ql, w, o, b, σ, h, fun _ _ _ => rfl, fun P hP => ?_, fun post hp => ?_⟩
    · unfold wGc
      rw [hx4, e2, he]
      exact ⟨fun _ => hP, fun hh => absurd (by decide) hh⟩
    · unfold wX7_ticks_33
      rw [e2, he]
      exact ⟨fun _ => hp, fun hh => absurd (by decide) hh⟩
  · by_cases hz : nI t - nI t / nI ev * nI ev = 0
    · obtain ⟨ql', w', o', b', σ', g1, g2, g3, g4⟩ := p_guest (N := N) hnow h
      refine ⟨ql', w', o', b', σ', g1, g2, fun P hP => ?_, fun post hp => ?_⟩
      · unfold wGc
        rw [hx4, e2, hx3]
        exact ⟨fun hh => absurd hh (nI_nle (by omega) (by omega)), fun _ => ⟨nI_ne0 (by omega) (by omega), fun hh => absurd hz hh, fun _ => g3 P hP⟩⟩
      · unfold wX7_ticks_33
        rw [e2, hnow]
        exact ⟨fun hh => absurd hh (nI_nle (by omega) (by omega)), fun _ => ⟨nI_ne0 (by omega) (by omega), fun hh => absurd hz hh, fun _ => g4 post hp⟩⟩
    · refine ⟨ql, w, o, b, σ, h, fun _ _ _ => rfl, fun P hP => ?_, fun post hp => ?_⟩
      · unfold wGc
        rw [hx4, e2, hx3]
        exact ⟨fun hh => absurd hh (nI_nle (by omega) (by omega)), fun _ => ⟨nI_ne0 (by omega) (by omega), fun _ => hP, fun hh => absurd hh hz⟩⟩
      · unfold wX7_ticks_33
        rw [e2, hnow]
        exact ⟨fun hh => absurd hh (nI_nle (by omega) (by omega)), fun _ => ⟨nI_ne0 (by omega) (by omega), fun _ => hp, fun hh => absurd hh hz⟩⟩
theorem p_sendsI {N i t ql w rm dl : Nat} {m lf s d al o : Nat → Nat} {σ : jRS} (hi : i < 2) (hN : 10 ≤ N) (hd : d i + 300 < 2 ^ 30) (hs : s i + 9 < 2 ^ 30) (hnow : σ.1 0 0 = nI t) (hRA : RA (t + 1) m lf s d al ql w rm dl o σ) : ∃ (ql' w' : Nat) (m' s' al' o' : Nat → Nat) (σ' : jRS), RA (t + 1) m' lf s' d al' ql' w' rm dl o' σ' ∧ al i ≤ al' i ∧ (∀ i', i' ≠ i → al' i' = al i') ∧ (∀ i', s' i' ≤ s i' + 8) ∧ (∀ j, ¬ (5 ≤ j ∧ j ≤ 9) → σ'.1 0 j = σ.1 0 j) ∧ (∀ post, post σ' → wX7_sendsAll N σ (nI i) post) ∧ ∀ (fo : Nat → Nat) (gu : Nat) (A : Nat → jSS) (b : jGS) (L : Nat → Nat → Nat) (hd : Nat), RT fo gu (t + 1) (fun _ => 0) m lf s d al L ql w rm dl hd o A b σ → ∀ post : jSS → jGS → Prop, (∀ (a' : jSS) (b' : jGS) (L' : Nat → Nat → Nat), RT fo gu (t + 1) (fun _ => 0) m' lf s' d al' L' ql' w' rm dl hd o' (va_up A i a') b' σ' → post a' b') → wX5_sendAll N (al' i - al i) (fo i) (A i) b 0 (nI t) post := by
  obtain ⟨ql', w', m', s', al', o', σ', z1, z2, z3, z4, z5, z6, z7⟩ := p_sendAll (N := N) hi hd N 0 1 ql w m s al o σ (by omega) (by omega) (by omega) (by omega) hnow rfl hRA
  refine ⟨ql', w', m', s', al', o', σ', z1, z2, z3, fun i' => by have := z4 i'; omega, z5, fun post hp => ?_, fun fo gu A b L hd hRT post hpost => ?_⟩
  · unfold wX7_sendsAll
    have := z6 post hp
    rw [nI_0] at this
    exact this
  · unfold wX5_sendAll
    have hSR := hRT.sr hi
    unfold SR at hSR
    have e30 : (A i).1 3 0 = σ.1 39 i := by grind
    have e12 : (A i).1 0 12 = σ.1 30 i := by grind
    have e13 : (A i).1 0 13 = σ.1 31 i := by grind
    refine c_window ?_
    rw [e30, e12, e13]
    have := z7 fo gu A b L hd (al' i - al i) 0 (by omega) hRT post hpost
    rw [nI_0] at this
    exact this
set_option maxRecDepth 4000 in
theorem p_tick {N gu t ql w rm dl hd : Nat} {fo m lf s d al o : Nat → Nat} {L : Nat → Nat → Nat} {x : jXS} {A : Nat → jSS} {b : jGS} {σ : jRS} (hN : 8002 ≤ N) (ht : t ≤ 1100000) (h : IV fo gu t m lf s d al L ql w rm dl hd o x A b σ) : ∃ al' : Nat → Nat, al 0 ≤ al' 0 ∧ al 1 ≤ al' 1 ∧ al' 0 ≤ 262 ∧ al' 1 ≤ 262 ∧ ∀ post : Int32 → jXS → jSS → jSS → jGS → Prop, (∀ (m' lf' s' d' : Nat → Nat) (L' : Nat → Nat → Nat) (ql' w' hd' : Nat) (o' : Nat → Nat) (x' : jXS) (A' : Nat → jSS) (b' : jGS) (σ' : jRS), (∀ q, q σ' → wX7_ticks N σ q) → IV fo gu (t + 1) m' lf' s' d' al' L' ql' w' rm dl hd' o' x' A' b' σ' → d 0 + d 1 ≤ d' 0 + d' 1 → post (nI (d' 0 + d' 1 - (d 0 + d 1))) x' (A' 0) (A' 1) b') → wX6_runTick N (al' 0 - al 0 + (al' 1 - al 1)) (fo 0) (fo 1) gu x (A 0) (A 1) b 0 post := by
  obtain ⟨h1, h2, h3, h4, h5, h6, h7, h8, h9⟩ := h
  obtain ⟨b0, b1⟩ := h9 0 (by omega)
  obtain ⟨b2, b3⟩ := h9 1 (by omega)
  have n10 : (1 : Nat) ≠ 0 := by omega
  have n01 : (0 : Nat) ≠ 1 := by omega
  -- answers of sender 0
  obtain ⟨m0, l0, d0, a0, σ1, L0, r1, r2, r3, r4, r5, r6, r7⟩ := p_takes (N := N) (i := 0) (D := 1100000) (by omega) hN (by omega) (by omega) h2 (by omega) rfl h1
  -- answers of sender 1
  obtain ⟨m1, l1, d1, a1, σ2, L1, q1, q2, q3, q4, q5, q6, q7⟩ := p_takes (N := N) (i := 1) (D := 1100000) (by omega) hN (by omega) (by omega) (by rw [r5 0 (by omega)]; exact h2) (by rw [va_up_ne _ _ n10, va_up_ne _ _ n10]; omega) (by rw [va_up_ne _ _ n10]) r1
  simp only [va_up_ne _ _ n10] at q2 q3 q4 q6
  have d2 : σ2.1 0 0 = nI t := by rw [q5 0 (by omega), r5 0 (by omega)]; exact h2
  -- a letter leaves
  obtain ⟨ql3, w3, hd3, lf3, o3, A3, b3', σ3, u1, u2, u3, u4, u5⟩ := p_release (N := N) (x := x) hN (by omega) d2 (fun i hi => by
    rcases (show i = 0 ∨ i = 1 by omega) with e | e
    · subst e; rw [va_up_ne _ _ n01, va_up_self, va_up_ne _ _ n01, va_up_self]
    · subst e; rw [va_up_self, va_up_self]) (fun i hi => by have := h9 i hi; omega) q1
  have d3 : σ3.1 0 0 = nI t := by rw [u3 0 (by omega) (by omega) (by omega) (by omega)]; exact d2
  have e3 : ∀ j, j ≠ 5 → j ≠ 6 → j ≠ 7 → j ≠ 8 → j ≠ 15 → σ3.1 0 j = σ.1 0 j := fun j g1 g2 g3 g4 g5 => by rw [u3 j g1 g2 g3 g4, q5 j g5, r5 j g5]
  -- guests
  obtain ⟨ql4, w4, o4, b4, σ4, v1, v2, v3, v4⟩ := p_gtick (N := N) (x := x) d3 h3 (by rw [e3 4 (by omega) (by omega) (by omega) (by omega) (by omega)]; exact h4) (by rw [e3 4 (by omega) (by omega) (by omega) (by omega) (by omega)]; exact h6) u1
  have d4 : σ4.1 0 0 = nI t := by rw [v2 0 (by omega) (by omega)]; exact d3
  -- sending
  have k0 : va_up (va_up d 0 d0) 1 d1 0 = d0 := by rw [va_up_ne _ _ n01, va_up_self]
  have k1 : va_up (va_up d 0 d0) 1 d1 1 = d1 := by rw [va_up_self]
  obtain ⟨ql5, w5, m5, s5, al5, o5, σ5, f1, f2, f3, f4, f5, f6, f7⟩ := p_sendsI (N := N) (i := 0) (t := t) (by omega) (by omega) (by rw [k0]; omega) (by omega) d4 v1.ra
  have d5 : σ5.1 0 0 = nI t := by rw [f5 0 (by omega)]; exact d4
  have s51 := f4 1
  obtain ⟨ql6, w6, m6, s6, al6, o6, σ6, g1, g2, g3, g4, g5, g6, g7⟩ := p_sendsI (N := N) (i := 1) (t := t) (by omega) (by omega) (by rw [k1]; omega) (by omega) d5 f1
  have al61 : al5 1 = al 1 := f3 1 n10
  have al60 : al6 0 = al5 0 := g3 0 n01
  have e6 : ∀ j, ¬ (5 ≤ j ∧ j ≤ 9) → j ≠ 12 → j ≠ 15 → σ6.1 0 j = σ.1 0 j := fun j w1 w2 w3 => by rw [g5 j w1, f5 j w1, v2 j w1 w2, e3 j (by omega) (by omega) (by omega) (by omega) w3]
  have e615 : σ6.1 0 15 = nI (d0 + d1) := by
    rw [g5 15 (by omega), f5 15 (by omega), v2 15 (by omega) (by omega), u3 15 (by omega) (by omega) (by omega) (by omega), q4, r4, h8, nI_add, nI_add]
    congr 1
    omega
  obtain ⟨bt, t1, t2⟩ := h7
  refine ⟨al6, by omega, by omega, (g1.1 0 (by omega)).2.2.1, (g1.1 1 (by omega)).2.2.1, fun post hpost => ?_⟩
  unfold wX6_runTick
  rw [h3]
  refine r6 _ (q6 _ (fun x1 ex1 => ?_))
  have hA0 : (va_up (va_up A 0 a0) 1 a1) 0 = a0 := by rw [va_up_ne _ _ n01, va_up_self]
  have hA1 : (va_up (va_up A 0 a0) 1 a1) 1 = a1 := by rw [va_up_self]
  rw [hA0, hA1] at u4
  refine u4 _ ?_
  have ex1' : x1 = nI (d0 + d1 - (d 0 + d 1)) := by
    rw [ex1, pk_sub (by omega), pk_sub (by omega), nI_add]
    congr 1
    omega
  subst ex1'
  have hG := v3 (fun a_67 b_68 => wX6_runTick_65 N (al6 0 - al 0 + (al6 1 - al 1)) (fo 0) (fo 1) gu x a_67 (A3 1) b_68 0 (nI (d0 + d1 - (d 0 + d 1))) post) ?_
  · unfold wGc at hG
    exact hG
  · unfold wX6_runTick_65
    refine ⟨al5 0 - al 0, by omega, ?_⟩
    rw [h3]
    refine f7 fo gu A3 b4 _ hd3 v1 _ (fun a5 b5 L5 hR5 => ⟨al6 1 - al5 1, by omega, ?_⟩)
    have hA31 : (va_up A3 0 a5) 1 = A3 1 := by rw [va_up_ne _ _ n10]
    have := g7 fo gu (va_up A3 0 a5) b5 L5 hd3 hR5
    rw [hA31] at this
    refine this _ (fun a6 b6 L6 hR6 => ?_)
    have hB0 : (va_up (va_up A3 0 a5) 1 a6) 0 = a5 := by rw [va_up_ne _ _ n01, va_up_self]
    have hB1 : (va_up (va_up A3 0 a5) 1 a6) 1 = a6 := by rw [va_up_self]
    -- the end of the tick
    have fin : ∀ (x' : jXS) (y : Nat), y ≤ 1 → x' 3 = nI (t + 1) → x' 4 = x 4 → x' 5 = nI (bt + y) → (∀ q, q (rP (rP σ6 0 14 (nI (bt + y))) 0 0 (nI (t + 1))) → wX7_ticks N σ q) → post (nI (d0 + d1 - (d 0 + d 1))) x' a5 a6 b6 := by
      intro x' y hy x3 x4 x5 hre
      have key := hpost m6 lf3 s6 (va_up (va_up d 0 d0) 1 d1) L6 ql6 w6 hd3 o6 x' (va_up (va_up A3 0 a5) 1 a6) b6 (rP (rP σ6 0 14 (nI (bt + y))) 0 0 (nI (t + 1))) hre ?_ (by rw [k0, k1]; omega)
      · rw [k0, k1, hB0, hB1] at key
        exact key
      · have rr : ∀ k j, ¬ (k = 0 ∧ (j = 0 ∨ j = 14)) → (rP (rP σ6 0 14 (nI (bt + y))) 0 0 (nI (t + 1))).1 k j = σ6.1 k j := fun k j g => by simp only [rP_rd]; rw [if_neg (by omega), if_neg (by omega)]
        refine ⟨hR6.row0 (fun k j g => rr k j (by omega)) rfl, ?_, x3, ?_, ?_, ?_, ⟨bt + y, by omega, ?_⟩, ?_, fun i hi => ?_⟩
        · simp only [rP_rd]; simp
        · rw [x4, rr 0 4 (by omega), e6 4 (by omega) (by omega) (by omega)]; exact h4
        · rw [x5]; simp only [rP_rd]; simp
        · rw [rr 0 4 (by omega), e6 4 (by omega) (by omega) (by omega)]; exact h6
        · simp only [rP_rd]; simp
        · rw [rr 0 15 (by omega), e615, k0, k1]
        · have w1 := u2 i hi
          have w2 := f4 i
          have w3 := g4 i
          rcases (show i = 0 ∨ i = 1 by omega) with e | e
          · subst e
            rw [va_up_ne _ _ n01, va_up_self] at w1
            rw [k0]
            refine ⟨by omega, by omega⟩
          · subst e
            rw [va_up_self] at w1
            rw [k1]
            refine ⟨by omega, by omega⟩
    have href : ∀ q, wX7_ticks_75 N σ4 q → wX7_ticks N σ q := fun q hq => by
      unfold wX7_ticks
      have e1 := r7 (fun s_44 => wX7_takesAll N s_44 1 (fun s_46 => (((s_46.1 0 5) = 3) → (wX7_ticks_33 N s_46 q)) ∧ ((¬ (s_46.1 0 5) = 3) → (((¬ (s_46.1 0 7) = (s_46.1 0 0)) → (wX7_ticks_33 N s_46 q)) ∧ (((s_46.1 0 7) = (s_46.1 0 0)) → (wX7_leaves N s_46 (fun s_50 => wX7_ticks_33 N s_50 q))))))) (q7 _ (u5 (fun s => wX7_ticks_33 N s q) (v4 q hq)))
      rw [nI_0] at e1
      exact e1
    have href2 : ∀ q, ((((σ6.1 0 5) = 3) → (wX7_ticks_103 N σ6 0 (σ6.1 0 14) q)) ∧ ((¬ (σ6.1 0 5) = 3) → (wX7_ticks_103 N σ6 1 (σ6.1 0 14) q))) → wX7_ticks N σ q := fun q hq => href q (by
      unfold wX7_ticks_75
      have e1 := f6 (fun s_31 => wX7_sendsAll N s_31 1 (fun s_33 => (((s_33.1 0 5) = 3) → (wX7_ticks_103 N s_33 0 (s_33.1 0 14) q)) ∧ ((¬ (s_33.1 0 5) = 3) → (wX7_ticks_103 N s_33 1 (s_33.1 0 14) q)))) (g6 _ hq)
      rw [nI_0] at e1
      exact e1)
    have e614 : σ6.1 0 14 = nI bt := by rw [e6 14 (by omega) (by omega) (by omega)]; exact t2
    have e600 : σ6.1 0 0 = nI t := by rw [g5 0 (by omega)]; exact d5
    have hsrv := hR6.2.1.srv hR6.2.2.1
    have h103 : ∀ (y : Nat) (y0 : Int32) q, y0 = nI y → q (rP (rP σ6 0 14 (nI (bt + y))) 0 0 (nI (t + 1))) → wX7_ticks_103 N σ6 y0 (σ6.1 0 14) q := fun y y0 q ey hq => by
      unfold wX7_ticks_103
      intro v ev s1 es v2 ev2 s2 es2
      rw [e614, ey, nI_add] at ev
      have ev2' : v2 = nI (t + 1) := by rw [ev2, es]; simp only [rP_rd]; rw [if_neg (by omega), e600, nI_1]
      subst ev ev2' es2 es
      exact hq
    have x5 : x 5 = nI bt := by rw [h5]; exact t2
    refine ⟨fun hn => ?_, fun q hq v ev x' ex' => ?_⟩
    · unfold wX6_runTick_115
      intro v ev x' ex'
      rw [h3, nI_1] at ev
      subst ev ex'
      refine fin _ 0 (by omega) ?_ ?_ ?_ (fun q hq => href2 q ⟨fun _ => h103 0 0 q nI_0.symm hq, fun hh => ?_⟩)
      · exact pk_us
      · exact pk_un (by omega)
      · rw [pk_un (by omega)]; exact x5
      · exfalso
        apply hh
        rw [hsrv]
        by_cases g : ql6 = 0
        · exact g
        · exfalso
          have := hR6.2.2.2.1.2.2.2.2 0 (by omega)
          unfold qcl at this
          rw [if_pos rfl, hn] at this
          exact absurd this (by simp)
    · unfold wX6_runTick_115
      intro v2 ev2 x2 ex2
      rw [x5, nI_1] at ev
      have ev2' : v2 = nI (t + 1) := by rw [ev2, ex', pk_un (by omega), h3, nI_1]
      subst ev ev2' ex2 ex'
      refine fin _ 1 (by omega) ?_ ?_ ?_ (fun q2 hq2 => href2 q2 ⟨fun hh => ?_, fun _ => h103 1 1 q2 rfl hq2⟩)
      · exact pk_us
      · rw [pk_un (by omega), pk_un (by omega)]
      · rw [pk_un (by omega)]; exact pk_us
      · exfalso
        have := hR6.2.2.2.1.2.2.2.1 (hsrv.1 hh)
        rw [this] at hq
        exact absurd hq (by simp)

/-! all that a sender sends in a tick -/
theorem va_up2 {α : Type} (f : Nat → α) (i : Nat) (x y : α) : va_up (va_up f i x) i y = va_up f i y := by
  funext j
  unfold va_up
  by_cases h : j = i
  · rw [if_pos h, if_pos h]
  · rw [if_neg h, if_neg h, if_neg h]
theorem RT.sr {gu t1 ql w rm dl hd : Nat} {fo k m lf s d al o : Nat → Nat} {L : Nat → Nat → Nat} {A : Nat → jSS} {b : jGS} {σ : jRS} (h : RT fo gu t1 k m lf s d al L ql w rm dl hd o A b σ) {i : Nat} (hi : i < 2) : SR i (A i) σ := by
  obtain ⟨r, T, tn, mk, p, ca, M, e, V, W, dt, hB, hD, hc⟩ := (h.1 i hi).2.1
  exact hB.1.1
theorem jmax1n {n : Nat} (h : n < 2 ^ 31) : jmax 1 (nI n) = nI (max 1 n) := jmax_n (a := 1) (by omega) h
/-- a change of the limit -/
theorem KN.lim {i m d lm : Nat} {a : jSS} {σ : jRS} (h : KN i m d a σ) (hl : lm < 2 ^ 31) : KN i m d (aP a 0 9 (nI lm)) (rP σ 27 i (nI lm)) := by
  obtain ⟨r, T, tn, mk, p, ca, M, e, V, W, dt, hB, hD, hc⟩ := h
  obtain ⟨k1, k2, k3, k4, k5, k6, k7, k8, k9, k10, k11, k12, k13, k14, k15, k16, lm0, k17, k18⟩ := hB
  have R : ∀ k j, k ≠ 27 → (rP σ 27 i (nI lm)).1 k j = σ.1 k j := fun k j g => by simp only [rP_rd]; rw [if_neg (by omega)]
  have Ar : ∀ k j, ¬ (k = 0 ∧ j = 9) → (aP a 0 9 (nI lm)).1 k j = a.1 k j := fun k j g => by simp only [aP_rd]; rw [if_neg g]
  refine ⟨r, T, tn, mk, p, ca, M, e, V, W, dt, ⟨k1.mv ?_ (fun k j g => Ar k j (by omega)) (fun k j g => R k j (by omega)) (by rw [R 34 i (by omega)]; exact k1.2.1.2.2.2.1), k2, k3, k4.upd12 (fun k j g1 g2 g3 g4 g5 => Ar k j (by omega)), k5.upd (fun k j g => R k j (by omega)), k6, by rw [R 30 i (by omega)]; exact k7, k8, by rw [R 28 i (by omega)]; exact k9, k10, k11, by rw [R 29 i (by omega)]; exact k12, k13, k14, k15, by rw [R 25 i (by omega)]; exact k16, lm, hl, ?_⟩, ⟨hD.1, fun j hj => by rw [R 19 _ (by omega)]; exact hD.2.1 j hj, hD.2.2⟩, hc⟩
  · have := k1.1
    unfold SR at this ⊢
    simp only [aP_rd, rP_rd, aP_2, rP_2]
    grind
  · simp only [rP_rd]; simp
theorem RA.lim {t1 i ql w rm dl lm : Nat} {m lf s d al o : Nat → Nat} {σ : jRS} (hi : i < 2) (h : RA t1 m lf s d al ql w rm dl o σ) (hl : lm < 2 ^ 31) : RA t1 m lf s d al ql w rm dl o (rP σ 27 i (nI lm)) := by
  obtain ⟨h1, h2, h3⟩ := h
  have R : ∀ k j, ¬ (k = 27 ∧ j = i) → (rP σ 27 i (nI lm)).1 k j = σ.1 k j := fun k j g => by simp only [rP_rd]; rw [if_neg g]
  refine ⟨fun i' hi' => ?_, h2.cg (fun j _ => R 0 j (by omega)), ⟨fun k hk => ?_, h3.2⟩⟩
  · obtain ⟨b1, b2, b3, b4, b5, ⟨M', hM', hM2'⟩, ⟨lm', hlm', hlm2'⟩, b8⟩ := h1 i' hi'
    refine ⟨?_, b2, b3, by rw [R 24 i' (by omega)]; exact b4, by rw [R 25 i' (by omega)]; exact b5, ⟨M', hM', by rw [R 30 i' (by omega)]; exact hM2'⟩, ?_, ?_⟩
    · obtain ⟨h16, hm2, hlf, ⟨nu, hn1, hn2⟩, hdu, hnl, hbo⟩ := b1
      exact ⟨by rw [R 16 i' (by omega)]; exact h16, hm2, hlf, ⟨nu, fun j hj => by rw [R 17 _ (by omega)]; exact hn1 j hj, hn2⟩, fun j hj => by rw [R 22 _ (by omega)]; exact hdu j hj, fun j g1 g2 => by rw [R 22 _ (by omega)]; exact hnl j g1 g2, fun j hj => by rw [R 21 _ (by omega)]; exact hbo j hj⟩
    · by_cases he : i' = i
      · subst he; exact ⟨lm, hl, by simp only [rP_rd]; simp⟩
      · exact ⟨lm', hlm', by rw [R 27 i' (by omega)]; exact hlm2'⟩
    · unfold PS at b8 ⊢
      rw [R 39 i' (by omega), R 40 i' (by omega)]
      exact b8
  · obtain ⟨q1, q2, q3⟩ := h3.1 k hk
    refine ⟨q1, ?_, fun g => ?_⟩
    · unfold qof at q2 ⊢; rw [R 0 5 (by omega), R 10 _ (by omega)]; exact q2
    · have := q3 g
      unfold qnum at this ⊢; rw [R 0 6 (by omega), R 11 _ (by omega), R 17 _ (by omega)]; exact this
theorem RT.lim {gu t1 i ql w rm dl hd lm : Nat} {fo m lf s d al o : Nat → Nat} {L : Nat → Nat → Nat} {A : Nat → jSS} {b : jGS} {σ : jRS} (hi : i < 2) (h : RT fo gu t1 (fun _ => 0) m lf s d al L ql w rm dl hd o A b σ) (hl : lm < 2 ^ 31) : RT fo gu t1 (fun _ => 0) m lf s d al L ql w rm dl hd o (va_up A i (aP (A i) 0 9 (nI lm))) b (rP σ 27 i (nI lm)) := by
  have hra := h.ra.lim hi hl
  obtain ⟨h1, h2, h3, h4, h5, h6, h7, h8⟩ := h
  have R : ∀ k j, ¬ (k = 27 ∧ j = i) → (rP σ 27 i (nI lm)).1 k j = σ.1 k j := fun k j g => by simp only [rP_rd]; rw [if_neg g]
  refine ⟨fun i' hi' => ?_, hra.2.1, hra.2.2, h4, h5.cg (fun k j g => R k j (by omega)), h6, h7, h8⟩
  by_cases he : i' = i
  · subst he
    rw [va_up_self]
    obtain ⟨s1, s2, s3, s4, s5, s6, s7⟩ := h1 i' hi'
    refine ⟨(hra.1 i' hi').1, s2.lim hl, s3.cg rfl (fun _ g => g) (fun _ _ => rfl), fun j hj => ?_, s5, ?_, by rw [R 24 i' (by omega)]; exact s7.1, ?_⟩
    · rw [R 17 _ (by omega), R 18 _ (by omega), R 19 _ (by omega), R 20 _ (by omega), R 21 _ (by omega), R 22 _ (by omega)]
      exact s4 j hj
    · simp only [aP_rd]; rw [if_neg (by omega), R 13 i' (by omega)]; exact s6
    · simp only [aP_rd]; rw [if_neg (by omega)]; exact s7.2
  · rw [va_up_ne _ _ he]
    refine (h1 i' hi').cg (fun k j g => R k j (fun g2 => ?_)) rfl rfl (R 13 i' (by omega)) (fun _ _ => rfl) (fun _ g => g) (fun _ _ => rfl)
    exact own_ne (fun g => he g.symm) (show own i k j by rw [g2.1, g2.2]; exact own_s (by omega) (by omega) (by omega) (by omega)) g
/-- after the last letter of a tick -/
theorem p_exit {N i t ql w rm dl : Nat} {m lf s d al o : Nat → Nat} {σ : jRS} {win : Int64} (hi : i < 2) (hnow : σ.1 0 0 = nI t) (hd : d i + 300 < 2 ^ 30) (hwin : jwin (σ.1 39 i) (σ.1 30 i) (σ.1 31 i) = win) (h : RA (t + 1) m lf s d al ql w rm dl o σ) : ∃ σ' : jRS, RA (t + 1) m lf s d al ql w rm dl o σ' ∧ (∀ j, σ'.1 0 j = σ.1 0 j) ∧ (∀ post, post σ' → wX7_sendsAll_43 N σ (nI i) post) ∧ ∀ (fo : Nat → Nat) (gu : Nat) (A : Nat → jSS) (b : jGS) (L : Nat → Nat → Nat) (hd B nU : Nat), RT fo gu (t + 1) (fun _ => 0) m lf s d al L ql w rm dl hd o A b σ → ∀ post : jSS → jGS → Prop, (∀ (a' : jSS) (b' : jGS) (L' : Nat → Nat → Nat), RT fo gu (t + 1) (fun _ => 0) m lf s d al L' ql w rm dl hd o (va_up A i a') b' σ' → post a' b') → wX5_sendAll_53 N B (fo i) (A i) b nU (nI t) win post := by
  obtain ⟨a1, a2, a3, a4, a5, a6, a7, a8⟩ := h.1 i hi
  have hm := a1.2.1
  by_cases c : σ.1 23 i = 0 ∧ ¬ jfree (σ.1 16 i) win (σ.2 i) (nI t) = 0
  · have hb : max 1 (d i + m i) < 2 ^ 31 := by omega
    refine ⟨rP σ 27 i (nI (max 1 (d i + m i))), h.lim hi hb, fun j => by simp only [rP_rd]; rw [if_neg (by omega)], fun post hp => ?_, fun fo gu A b L hd B nU hRT post hpost => ?_⟩
    · simp only [wX7_sendsAll_43, ci hi]
      refine ⟨vi hi, fun hh => absurd c.1 hh, fun _ => q_open hi ?_⟩
      rw [hwin, hnow]
      refine ⟨fun hh => absurd hh c.2, fun _ => ⟨vi hi, vi hi, fun x4 e4 => ?_⟩⟩
      rw [a5, a1.1, nI_add] at e4
      subst e4
      have tl : ∀ y0, y0 = nI (max 1 (d i + m i)) → wX7_sendsAll_92 N σ y0 (nI i) post := by
        intro y0 ey
        simp only [wX7_sendsAll_92, ci hi]
        refine ⟨vi hi, fun s2 es => ?_⟩
        subst ey es
        exact hp
      exact pk_le 1 (d i + m i) (fun g => tl _ (by rw [Nat.max_eq_right g])) (fun g => tl 1 (by rw [Nat.max_eq_left (by omega)]; rfl))
    · have hSR := hRT.sr hi
      unfold SR at hSR
      have e3 : (A i).1 0 3 = σ.1 23 i := by grind
      have e11 : (A i).1 1 1 = σ.1 16 i := by grind
      have e7 : (A i).1 0 7 = σ.1 25 i := by grind
      have en : (A i).2.1 = σ.2 i := by grind
      unfold wX5_sendAll_53
      rw [e3]
      refine ⟨fun hh => absurd c.1 hh, fun _ => c_free ?_⟩
      rw [e11, en]
      refine ⟨fun hh => absurd hh c.2, fun _ v ev a2 e2 => hpost _ _ L ?_⟩
      rw [e7, a5, a1.1, nI_add, jmax1n (by omega)] at ev
      subst ev e2
      exact hRT.lim hi hb
  · refine ⟨σ, h, fun _ => rfl, fun post hp => ?_, fun fo gu A b L hd B nU hRT post hpost => ?_⟩
    · simp only [wX7_sendsAll_43, ci hi]
      refine ⟨vi hi, fun _ => hp, fun h0 => q_open hi ?_⟩
      rw [hwin, hnow]
      exact ⟨fun _ => hp, fun hh => absurd ⟨h0, hh⟩ c⟩
    · have hSR := hRT.sr hi
      unfold SR at hSR
      have e3 : (A i).1 0 3 = σ.1 23 i := by grind
      have e11 : (A i).1 1 1 = σ.1 16 i := by grind
      have en : (A i).2.1 = σ.2 i := by grind
      unfold wX5_sendAll_53
      rw [e3]
      have hpp : post (A i) b := hpost (A i) b L (by rw [va_eta]; exact hRT)
      refine ⟨fun _ => hpp, fun h0 => c_free ?_⟩
      rw [e11, en]
      exact ⟨fun _ => hpp, fun hh => absurd ⟨h0, hh⟩ c⟩
theorem p_sendAll {N i t rm dl : Nat} {lf d : Nat → Nat} {win : Int64} (hi : i < 2) (hd : d i + 300 < 2 ^ 30) : ∀ (n it mr ql w : Nat) (m s al o : Nat → Nat) (σ : jRS), it ≤ 8 → 9 ≤ it + n → mr ≤ 1 → s i + (8 - it) + 1 < 2 ^ 30 → σ.1 0 0 = nI t → jwin (σ.1 39 i) (σ.1 30 i) (σ.1 31 i) = win → RA (t + 1) m lf s d al ql w rm dl o σ → ∃ (ql' w' : Nat) (m' s' al' o' : Nat → Nat) (σ' : jRS), RA (t + 1) m' lf s' d al' ql' w' rm dl o' σ' ∧ al i ≤ al' i ∧ (∀ i', i' ≠ i → al' i' = al i') ∧ (∀ i', s' i' ≤ s i' + (8 - it)) ∧ (∀ j, ¬ (5 ≤ j ∧ j ≤ 9) → σ'.1 0 j = σ.1 0 j) ∧ (∀ post, post σ' → wX7_sendsAll_4 N n σ (nI i) (nI it) (nI mr) post) ∧ ∀ (fo : Nat → Nat) (gu : Nat) (A : Nat → jSS) (b : jGS) (L : Nat → Nat → Nat) (hd B nU : Nat), nU + (al' i - al i) ≤ B → RT fo gu (t + 1) (fun _ => 0) m lf s d al L ql w rm dl hd o A b σ → ∀ post : jSS → jGS → Prop, (∀ (a' : jSS) (b' : jGS) (L' : Nat → Nat → Nat), RT fo gu (t + 1) (fun _ => 0) m' lf s' d al' L' ql' w' rm dl hd o' (va_up A i a') b' σ' → post a' b') → wX5_sendAll_11 N B (fo i) n (A i) b nU (nI t) win (nI mr) (nI it) post := by
  intro n
  induction n with
  | zero => intro it mr ql w m s al o σ g1 g2; omega
  | succ n ih =>
    intro it mr ql w m s al o σ g1 g2 g3 g4 hnow hwin hRA
    by_cases hc : mr = 0 ∨ it = 8 ∨ σ.1 23 i ≤ 0 ∨ jfree (σ.1 16 i) win (σ.2 i) (nI t) = 0
    · obtain ⟨σ', e1, e2, e3, e4⟩ := p_exit (N := N) hi hnow hd hwin hRA
      refine ⟨ql, w, m, s, al, o, σ', e1, by omega, fun _ _ => rfl, fun _ => by omega, fun j _ => e2 j, fun post hp => ?_, fun fo gu A b L hd B nU hB hRT post hpost => ?_⟩
      · have hx := e3 post hp
        unfold wX7_sendsAll_4
        refine ⟨fun _ => hx, fun h1 => ⟨fun _ => hx, fun h2 => ?_⟩⟩
        rw [ci hi]
        refine ⟨vi hi, fun _ => hx, fun h3 => q_open hi ?_⟩
        rw [hwin, hnow]
        refine ⟨fun _ => hx, fun h4 => ?_⟩
        rcases hc with c | c | c | c
        · rw [c] at h1; exact absurd nI_0 h1
        · rw [c] at h2; exact absurd (by decide) h2
        · exact absurd c h3
        · exact absurd c h4
      · have hx := e4 fo gu A b L hd B nU hRT post hpost
        have hSR := hRT.sr hi
        unfold SR at hSR
        have e3' : (A i).1 0 3 = σ.1 23 i := by grind
        have e11 : (A i).1 1 1 = σ.1 16 i := by grind
        have en : (A i).2.1 = σ.2 i := by grind
        unfold wX5_sendAll_11
        refine ⟨fun _ => hx, fun h1 => ⟨fun _ => hx, fun h2 => ?_⟩⟩
        rw [e3']
        refine ⟨fun _ => hx, fun h3 => c_free ?_⟩
        rw [e11, en]
        refine ⟨fun _ => hx, fun h4 => ?_⟩
        rcases hc with c | c | c | c
        · rw [c] at h2; exact absurd nI_0 h2
        · rw [c] at h1; exact absurd (by decide) h1
        · exact absurd c h3
        · exact absurd c h4
    · have hmr : mr = 1 := by
        by_cases g : mr = 0
        · exact absurd (.inl g) hc
        · omega
      have hit : it < 8 := by
        by_cases g : it = 8
        · exact absurd (.inr (.inl g)) hc
        · omega
      have hst : ¬ σ.1 23 i ≤ 0 := fun g => hc (.inr (.inr (.inl g)))
      have hfr : ¬ jfree (σ.1 16 i) win (σ.2 i) (nI t) = 0 := fun g => hc (.inr (.inr (.inr g)))
      obtain ⟨r, w1, σ1, p1, p2, p3, p4, p5, p6⟩ := p_send (N := N) hi hnow (by omega) hRA
      obtain ⟨ql', w', m', s', al', o', σ', z1, z2, z3, z4, z5, z6, z7⟩ := ih (it + 1) r (ql + r) w1 _ _ _ _ σ1 (by omega) (by omega) p1 (by rw [va_up_self]; omega) (by rw [p3 0 (by omega)]; exact hnow) (by rw [p4 39 (by omega), p4 30 (by omega), p4 31 (by omega)]; exact hwin) p2
      have h10 : ¬ nI 1 = 0 := by decide
      rw [va_up_self] at z2
      refine ⟨ql', w', m', s', al', o', σ', z1, by omega, fun i' h => by rw [z3 i' h, va_up_ne _ _ h], fun i' => ?_, fun j h => by rw [z5 j h, p3 j h], fun post hp => ?_, fun fo gu A b L hd B nU hB hRT post hpost => ?_⟩
      · have := z4 i'
        by_cases he : i' = i
        · subst he; rw [va_up_self] at this; omega
        · rw [va_up_ne _ _ he] at this; omega
      · unfold wX7_sendsAll_4
        rw [hmr]
        refine ⟨fun hh => absurd hh h10, fun _ => ?_⟩
        refine pk_le 8 it (fun g => by omega) (fun _ => ?_)
        rw [ci hi]
        refine ⟨vi hi, fun hh => absurd hh hst, fun _ => q_open hi ?_⟩
        rw [hwin, hnow]
        refine ⟨fun hh => absurd hh hfr, fun _ => p5 _ (fun x2 e2 => ?_)⟩
        rw [nI_1] at e2
        subst e2
        exact z6 post hp
      · have hSR := hRT.sr hi
        unfold SR at hSR
        have e3' : (A i).1 0 3 = σ.1 23 i := by grind
        have e11 : (A i).1 1 1 = σ.1 16 i := by grind
        have en : (A i).2.1 = σ.2 i := by grind
        unfold wX5_sendAll_11
        rw [hmr]
        refine pk_le 8 it (fun g => by omega) (fun _ => ⟨fun hh => absurd hh h10, fun _ => ?_⟩)
        rw [e3']
        refine ⟨fun hh => absurd hh hst, fun _ => c_free ?_⟩
        rw [e11, en]
        refine ⟨fun hh => absurd hh hfr, fun _ => ⟨max (al i) (m i + 1) - al i, by omega, ?_⟩⟩
        refine p6 fo gu A b L hd hRT _ (fun a' b' L' hR => ?_)
        intro x6 e6
        rw [nI_1] at e6
        subst e6
        have := z7 fo gu (va_up A i a') b' L' hd B (nU + (max (al i) (m i + 1) - al i)) (by rw [va_up_self]; omega) hR post (fun a2 b2 L2 h2 => hpost a2 b2 L2 (by rw [va_up2] at h2; exact h2))
        rw [va_up_self] at this
        exact this

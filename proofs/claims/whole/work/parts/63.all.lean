/-! all of it: both senders, the gate -/
theorem own_ne {i i' k j : Nat} (h : i ≠ i') (h1 : own i k j) : ¬ own i' k j := by
  intro h2
  unfold own at h1 h2
  obtain ⟨h3, h4⟩ := h1
  obtain ⟨h5, h6⟩ := h2
  by_cases c1 : k = 48 ∨ k = 49
  · rw [if_pos c1] at h4 h6; omega
  · rw [if_neg c1] at h4 h6
    by_cases c2 : 17 ≤ k ∧ k ≤ 22
    · rw [if_pos c2] at h4 h6; omega
    · rw [if_neg c2] at h4 h6
      by_cases c3 : k = 37 ∨ k = 38
      · rw [if_pos c3] at h4 h6; omega
      · rw [if_neg c3] at h4 h6; omega
theorem own_t {i k j : Nat} (h : k = 48 ∨ k = 49) (hj : j < 12) : own i k (12 * i + j) := by
  refine ⟨by omega, ?_⟩
  rw [if_pos h]; omega
theorem own_q {i k j : Nat} (h : k = 37 ∨ k = 38) (hj : j < 8192) : own i k (8192 * i + j) := by
  refine ⟨by omega, ?_⟩
  rw [if_neg (by omega), if_neg (by omega), if_pos h]; omega
theorem KN.cg {i m d : Nat} {a a' : jSS} {σ σ' : jRS} (h : KN i m d a σ) (hm : m ≤ 262) (hR : ∀ k j, own i k j → k ≠ 17 → k ≠ 18 → k ≠ 20 → k ≠ 21 → k ≠ 22 → σ'.1 k j = σ.1 k j) (hR2 : σ'.2 i = σ.2 i) (hA : ∀ k j, ¬ (k = 0 ∧ j = 5) → a'.1 k j = a.1 k j) (hA2 : a'.2.1 = a.2.1) : KN i m d a' σ' := by
  obtain ⟨r, T, tn, mk, p, ca, M, e, V, W, dt, hB, hD, hc⟩ := h
  obtain ⟨k1, k2, k3, k4, k5, k6, k7, k8, k9, k10, k11, k12, k13, k14, k15, k16, lm, k17, k18⟩ := hB
  have hs : ∀ k, 16 ≤ k → ¬ (k = 48 ∨ k = 49) → ¬ (17 ≤ k ∧ k ≤ 22) → ¬ (k = 37 ∨ k = 38) → σ'.1 k i = σ.1 k i := fun k g1 g2 g3 g4 => hR k i (own_s g1 g2 g3 g4) (by omega) (by omega) (by omega) (by omega) (by omega)
  refine ⟨r, T, tn, mk, p, ca, M, e, V, W, dt, ⟨⟨?_, ?_, ?_⟩, k2, k3, k4.upd12 (fun k j g1 g2 g3 g4 g5 => hA k j (by omega)), ⟨by rw [hs 35 (by omega) (by omega) (by omega) (by omega)]; exact k5.1, by rw [hs 36 (by omega) (by omega) (by omega) (by omega)]; exact k5.2.1, fun j g1 g2 => ?_⟩, k6, by rw [hs 30 (by omega) (by omega) (by omega) (by omega)]; exact k7, k8, by rw [hs 28 (by omega) (by omega) (by omega) (by omega)]; exact k9, k10, k11, by rw [hs 29 (by omega) (by omega) (by omega) (by omega)]; exact k12, k13, k14, k15, by rw [hs 25 (by omega) (by omega) (by omega) (by omega)]; exact k16, lm, k17, by rw [hs 27 (by omega) (by omega) (by omega) (by omega)]; exact k18⟩, ⟨hD.1, fun j hj => ?_, hD.2.2⟩, hc⟩
  · have := k1.1
    unfold SR at this ⊢
    rw [hA2, hR2]
    rw [hs 23 (by omega) (by omega) (by omega) (by omega), hs 24 (by omega) (by omega) (by omega) (by omega), hs 34 (by omega) (by omega) (by omega) (by omega), hs 25 (by omega) (by omega) (by omega) (by omega), hs 26 (by omega) (by omega) (by omega) (by omega), hs 27 (by omega) (by omega) (by omega) (by omega), hs 28 (by omega) (by omega) (by omega) (by omega), hs 29 (by omega) (by omega) (by omega) (by omega), hs 30 (by omega) (by omega) (by omega) (by omega), hs 31 (by omega) (by omega) (by omega) (by omega), hs 32 (by omega) (by omega) (by omega) (by omega), hs 16 (by omega) (by omega) (by omega) (by omega), hs 39 (by omega) (by omega) (by omega) (by omega), hs 40 (by omega) (by omega) (by omega) (by omega), hs 41 (by omega) (by omega) (by omega) (by omega), hs 42 (by omega) (by omega) (by omega) (by omega), hs 44 (by omega) (by omega) (by omega) (by omega), hs 45 (by omega) (by omega) (by omega) (by omega), hs 46 (by omega) (by omega) (by omega) (by omega)]
    rw [hA 0 3 (by omega), hA 0 4 (by omega), hA 0 6 (by omega), hA 0 7 (by omega), hA 0 8 (by omega), hA 0 9 (by omega), hA 0 10 (by omega), hA 0 11 (by omega), hA 0 12 (by omega), hA 0 13 (by omega), hA 0 14 (by omega), hA 1 1 (by omega), hA 3 0 (by omega), hA 3 1 (by omega), hA 3 2 (by omega), hA 3 3 (by omega), hA 3 5 (by omega), hA 3 6 (by omega), hA 3 7 (by omega)]
    exact this
  · have := k1.2.1
    unfold CR at this ⊢
    rw [hs 43 (by omega) (by omega) (by omega) (by omega), hs 34 (by omega) (by omega) (by omega) (by omega), hs 39 (by omega) (by omega) (by omega) (by omega), hs 40 (by omega) (by omega) (by omega) (by omega), hs 42 (by omega) (by omega) (by omega) (by omega), hs 44 (by omega) (by omega) (by omega) (by omega), hA 3 0 (by omega), hA 3 4 (by omega)]
    exact this
  · obtain ⟨t1, t2, t3⟩ := k1.2.2
    refine ⟨by rw [hA 3 8 (by omega), hA 3 9 (by omega)]; exact t1, by rw [hs 47 (by omega) (by omega) (by omega) (by omega)]; exact t2, fun j g1 g2 => ?_⟩
    rw [hA 7 _ (by omega), hA 8 _ (by omega), hR 48 _ (own_t (by omega) g2) (by omega) (by omega) (by omega) (by omega) (by omega), hR 49 _ (own_t (by omega) g2) (by omega) (by omega) (by omega) (by omega) (by omega)]
    exact t3 j g1 g2
  · rw [hR 37 _ (own_q (by omega) (by omega)) (by omega) (by omega) (by omega) (by omega) (by omega), hR 38 _ (own_q (by omega) (by omega)) (by omega) (by omega) (by omega) (by omega) (by omega)]
    exact k5.2.2 j g1 g2
  · rw [hR 19 _ (own_l (by omega) (by omega) (by omega)) (by omega) (by omega) (by omega) (by omega) (by omega)]
    exact hD.2.1 j hj
theorem LA.cg {i t k m lf s : Nat} {σ σ' : jRS} (h : LA i t k m lf s σ) (hR : ∀ k j, own i k j → σ'.1 k j = σ.1 k j) : LA i t k m lf s σ' := by
  obtain ⟨h16, hm2, hlf, ⟨nu, hn1, hn2⟩, hdu, hnl, hbo⟩ := h
  refine ⟨by rw [hR 16 i (own_s (by omega) (by omega) (by omega) (by omega))]; exact h16, hm2, hlf, ⟨nu, fun j hj => ?_, hn2⟩, fun j hj => ?_, fun j g1 g2 => ?_, fun j hj => ?_⟩
  · rw [hR 17 _ (own_l (by omega) (by omega) (by omega))]; exact hn1 j hj
  · rw [hR 22 _ (own_l (by omega) (by omega) (by omega))]; exact hdu j hj
  · rw [hR 22 _ (own_l (by omega) (by omega) (by omega))]; exact hnl j g1 g2
  · rw [hR 21 _ (own_l (by omega) (by omega) (by omega))]; exact hbo j hj
theorem LF.cg {i m : Nat} {L : Nat → Nat} {b b' : jGS} {σ σ' : jRS} (h : LF i m L b σ) (hm : m ≤ 512) (hR : ∀ k j, own i k j → σ'.1 k j = σ.1 k j) (hB : ∀ j, j < m → gF b' (L j) = gF b (L j)) : LF i m L b' σ' := by
  intro j hj
  rw [hB j hj, hR 17 _ (own_l (by omega) (by omega) (by omega)), hR 18 _ (own_l (by omega) (by omega) (by omega)), hR 19 _ (own_l (by omega) (by omega) (by omega)), hR 20 _ (own_l (by omega) (by omega) (by omega)), hR 21 _ (own_l (by omega) (by omega) (by omega)), hR 22 _ (own_l (by omega) (by omega) (by omega))]
  exact h j hj
theorem LK.cg {fo al : Nat} {L : Nat → Nat} {a a' : jSS} {b b' : jGS} (h : LK fo al L a b) (hA : a'.2.2 = a.2.2) (hP : ∀ q, q ∈ gLP b → q ∈ gLP b') (hO : ∀ j, j < al → gO b' (L j) = gO b (L j)) : LK fo al L a' b' := by
  obtain ⟨h1, h2, h3, h4⟩ := h
  refine ⟨h1, fun j hj => ?_, fun j g1 g2 => by rw [hA]; exact h3 j g1 g2, h4⟩
  rw [hA, hO j hj]
  exact ⟨(h2 j hj).1, hP _ (h2 j hj).2.1, (h2 j hj).2.2⟩
def SI (i fo t k m lf s d al : Nat) (L : Nat → Nat) (a : jSS) (b : jGS) (σ : jRS) : Prop := LA i t k m lf s σ ∧ KN i m d a σ ∧ LK fo al L a b ∧ LF i m L b σ ∧ m ≤ al ∧ a.1 0 5 = σ.1 13 i ∧ σ.1 24 i = nI s ∧ ∃ ls, ls ≤ s ∧ a.1 0 6 = nI ls
theorem SI.cg {i fo t k m lf s d al : Nat} {L : Nat → Nat} {a a' : jSS} {b b' : jGS} {σ σ' : jRS} (h : SI i fo t k m lf s d al L a b σ) (hR : ∀ k j, own i k j → σ'.1 k j = σ.1 k j) (hR2 : σ'.2 i = σ.2 i) (hA : a' = a) (h13 : σ'.1 13 i = σ.1 13 i) (hB : ∀ j, j < al → gF b' (L j) = gF b (L j)) (hP : ∀ q, q ∈ gLP b → q ∈ gLP b') (hO : ∀ j, j < al → gO b' (L j) = gO b (L j)) : SI i fo t k m lf s d al L a' b' σ' := by
  subst hA
  obtain ⟨h1, h2, h3, h4, h5, h6, h7⟩ := h
  have hm := h1.2.1
  exact ⟨h1.cg hR, h2.cg (by omega) (fun k j g _ _ _ _ _ => hR k j g) hR2 (fun _ _ _ => rfl) rfl, h3.cg rfl hP hO, h4.cg (by omega) hR (fun j hj => hB j (by omega)), h5, by rw [h13]; exact h6, by rw [hR 24 i (own_s (by omega) (by omega) (by omega) (by omega))]; exact h7.1, h7.2⟩
def RT (fo : Nat → Nat) (gu t : Nat) (k m lf s d al : Nat → Nat) (L : Nat → Nat → Nat) (ql w rm dl hd : Nat) (o : Nat → Nat) (A : Nat → jSS) (b : jGS) (σ : jRS) : Prop := (∀ i, i < 2 → SI i (fo i) t (k i) (m i) (lf i) (s i) (d i) (al i) (L i) (A i) b σ) ∧ QS ql w rm dl σ ∧ QA ql o lf m σ ∧ QC gu ql w hd o lf L b ∧ GS b σ ∧ gu ∈ gLP b ∧ gO b gu = none ∧ fo 0 ≠ fo 1
theorem fo_ne {fo : Nat → Nat} (h : fo 0 ≠ fo 1) {i i' : Nat} (hi : i < 2) (hi' : i' < 2) (hn : i ≠ i') : fo i ≠ fo i' := by
  rcases (show (i = 0 ∧ i' = 1) ∨ (i = 1 ∧ i' = 0) by omega) with ⟨rfl, rfl⟩ | ⟨rfl, rfl⟩
  · exact h
  · exact fun g => h g.symm
theorem QS.cg {ql w rm dl : Nat} {σ σ' : jRS} (h : QS ql w rm dl σ) (hR : ∀ j, j = 2 ∨ j = 3 ∨ j = 5 ∨ j = 8 → σ'.1 0 j = σ.1 0 j) : QS ql w rm dl σ' := by
  unfold QS at h ⊢
  rw [hR 8 (by omega), hR 2 (by omega), hR 3 (by omega), hR 5 (by omega)]
  exact h
theorem GS.cg {b : jGS} {σ σ' : jRS} (h : GS b σ) (hR : ∀ k j, (k = 0 ∧ j ≠ 15) ∨ (k = 13 ∧ j = 2) → σ'.1 k j = σ.1 k j) : GS b σ' := by
  unfold GS at h ⊢
  rw [hR 0 1 (by omega), hR 0 2 (by omega), hR 0 3 (by omega), hR 0 7 (by omega), hR 0 9 (by omega), hR 13 2 (by omega), hR 0 12 (by omega)]
  exact h
/-- a sender takes what is due, all kept -/
theorem p_takes {N i gu t D ql w rm dl hd : Nat} {fo k m lf s d al o : Nat → Nat} {L : Nat → Nat → Nat} {A : Nat → jSS} {b : jGS} {σ : jRS} (hi : i < 2) (hN : 8002 ≤ N) (ht : t < 2 ^ 30) (hDD : 1000 * D < 2 ^ 31) (hnow : σ.1 0 0 = nI t) (hD : d i + lf i ≤ D) (hk : k i = 0) (h : RT fo gu t k m lf s d al L ql w rm dl hd o A b σ) : ∃ m' lf' d' a' σ' L', RT fo gu t (va_up k i lf') (va_up m i m') (va_up lf i lf') s (va_up d i d') al (va_up L i L') ql w rm dl hd o (va_up A i a') b σ' ∧ d' + lf' = d i + lf i ∧ lf' ≤ lf i ∧ σ'.1 0 15 = σ.1 0 15 + nI (d' - d i) ∧ (∀ j, j ≠ 15 → σ'.1 0 j = σ.1 0 j) ∧ (∀ P : Int32 → jSS → jGS → Prop, P (nI d' - nI (d i)) a' b → wX5_takeDue N (A i) b (nI t) P) ∧ ∀ post, post σ' → wX7_takesAll N σ (nI i) post := by
  obtain ⟨h1, h2, h3, h4, h5, h6, h7, h8⟩ := h
  obtain ⟨s1, s2, s3, s4, s5, s6, s7⟩ := h1 i hi
  rw [hk] at s1
  have hm := s1.2.1
  obtain ⟨m', lf', d', a', σ', L', z1, z2, z3, z4, z5, z6, z7, z8, z9, z10, z11, z12, z13, z14, z15⟩ := p_due (N := N) (x2 := nI (d i)) (b := b) hi hN ht hDD N 0 0 (m i) (lf i) (d i) (A i) σ (L i) (by omega) (by omega) (by omega) hD hnow s1 s2 s3 s5 s4
  have hrow : ∀ k j, k < 16 → ¬ (k = 0 ∧ j = 15) → σ'.1 k j = σ.1 k j := fun k j g1 g2 => z9.1 k j (fun g => by unfold own at g; omega) g2
  refine ⟨m', lf', d', a', σ', L', ⟨fun i' hi' => ?_, h2.cg (fun j g => hrow 0 j (by omega) (by omega)), ⟨fun k' hk' => ?_, fun i' hi' => ?_⟩, ⟨h4.1, h4.2.1, h4.2.2.1, h4.2.2.2.1, fun k' hk' => ?_⟩, h5.cg (fun k j g => hrow k j (by omega) (by omega)), h6, h7, h8⟩, z7, z8, z10, fun j hj => hrow 0 j (by omega) (by omega), fun P hP => ?_, fun post hp => ?_⟩
  · by_cases he : i' = i
    · subst he
      simp only [va_up_self]
      exact ⟨z1, z2, z3, z4, z5, by rw [z12 5 (by omega), hrow 13 i' (by omega) (by omega)]; exact s6, by rw [(z11 i').2]; exact s7.1, by rw [z12 6 (by omega)]; exact s7.2⟩
    · simp only [va_up_ne _ _ he]
      exact (h1 i' hi').cg (fun k j g => z9.1 k j (own_ne he g) (fun g2 => by unfold own at g; omega)) (z9.2 i' he) rfl (hrow 13 i' (by omega) (by omega)) (fun _ _ => rfl) (fun _ g => g) (fun _ _ => rfl)
  · obtain ⟨q1, q2, q3⟩ := h3.1 k' hk'
    refine ⟨q1, ?_, fun g => ?_⟩
    · have e : qof σ' k' = qof σ k' := by unfold qof; rw [hrow 0 5 (by omega) (by omega), hrow 10 _ (by omega) (by omega)]
      rw [e]; exact q2
    · have e : qnum σ' k' = qnum σ k' := by unfold qnum; rw [hrow 0 6 (by omega) (by omega), hrow 11 _ (by omega) (by omega)]
      rw [e, q3 g]
      by_cases he : o k' = i
      · rw [he, va_up_self]
        have hlt := cn_lt hk' he
        have hsum := h3.2 i hi
        exact (z13 (cn o i k') (by omega)).2.symm
      · rw [va_up_ne _ _ he]
        exact (z9.1 17 _ (own_ne he (own_l (by omega) (by omega) (by
          have hlt := cn_lt hk' (rfl : o k' = o k')
          have hsum := h3.2 (o k') g
          have hmm := (h1 (o k') g).1.2.1
          omega))) (by omega)).symm
  · by_cases he : i' = i
    · subst he
      rw [va_up_self, va_up_self]
      have := h3.2 i' hi'
      omega
    · rw [va_up_ne _ _ he, va_up_ne _ _ he]; exact h3.2 i' hi'
  · have h9 := h4.2.2.2.2 k' hk'
    rw [h9]
    by_cases h2' : o k' = 2
    · rw [if_pos h2', if_pos h2']
    · rw [if_neg h2', if_neg h2']
      by_cases he : o k' = i
      · rw [he, va_up_self, va_up_self]
        have hlt := cn_lt hk' he
        have hsum := h3.2 i hi
        rw [(z13 (cn o i k') (by omega)).1]
      · rw [va_up_ne _ _ he, va_up_ne _ _ he]
  · unfold wX5_takeDue
    intro x2 e2
    rw [s2.m.2.1] at e2
    subst e2
    exact z14 P hP
  · unfold wX7_takesAll
    exact z15 post hp

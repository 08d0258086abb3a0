/-! questions to a sender -/
theorem wc0 {x : Int32} {n : Nat} (hn : n < 2 ^ 30) (h : x < 0 ∨ nI n ≤ x) : jwithin x 0 (nI n - 1) = 0 := by
  unfold jwithin
  by_cases c : x < 0
  · rw [if_pos c]
  · rw [if_neg c, if_pos]
    rcases h with h | h
    · exact absurd h c
    · have e1 := Int32.le_iff_toInt_le.1 h
      rw [nI_toInt (by omega)] at e1
      rw [Int32.lt_iff_toInt_lt, show (1 : Int32) = nI 1 from rfl, pk_sub_toInt hn (by omega)]
      omega
theorem wc1 {j n : Nat} (hn : n < 2 ^ 30) (h : j < n) : jwithin (nI j) 0 (nI n - 1) = 1 := by
  unfold jwithin
  rw [if_neg (nI_pos (by omega)), show (1 : Int32) = nI 1 from rfl, pk_sub (by omega), if_neg (nI_nlt (by omega) (by omega))]

def wPh (N : Nat) (a : jSS) (now x2 : Int32) (post : Int32 → jSS → Prop) : Prop := ∀ r_13 : Int32, r_13 = jwithin x2 0 1 → ((¬ r_13 = 0) → ((((a.1 3 0) = 2) → (((¬ x2 = 0) → (post (now - (a.1 3 2)) a)) ∧ ((x2 = 0) → (post (a.1 3 1) a)))) ∧ ((¬ (a.1 3 0) = 2) → (post ((-9)) a)))) ∧ ((r_13 = 0) → (post ((-2)) a))
theorem v_ph {N i : Nat} {a : jSS} {σ : jRS} {now x2 : Int32} (hi : i < 2) (hS : SR i a σ) (hnow : σ.1 0 0 = now) : ∃ v, (∀ P : Int32 → jSS → Prop, P v a → wPh N a now x2 P) ∧ ∀ post : Int32 → jRS → Prop, post v σ → wX7_phase N σ (nI i) x2 post := by
  unfold SR at hS
  have e30 : a.1 3 0 = σ.1 39 i := by grind
  have e31 : a.1 3 0 = 2 → a.1 3 1 = σ.1 40 i := by grind
  have e32 : a.1 3 0 = 2 → a.1 3 2 = σ.1 41 i := by grind
  have go : ∀ v, (∀ P : Int32 → jSS → Prop, P v a → wPh N a now x2 P) → (∀ post : Int32 → jRS → Prop, post v σ → (∀ r_12 : Int32, r_12 = jwithin x2 0 1 → ((¬ r_12 = 0) → (vp_in (nI i) 2 ∧ (((σ.1 39 i) = 2) → (((¬ x2 = 0) → (vp_in (nI i) 2 ∧ post ((σ.1 0 0) - (σ.1 41 i)) σ)) ∧ ((x2 = 0) → (vp_in (nI i) 2 ∧ post (σ.1 40 i) σ)))) ∧ ((¬ (σ.1 39 i) = 2) → (post ((-9)) σ)))) ∧ ((r_12 = 0) → (post ((-2)) σ)))) → ∃ v, (∀ P : Int32 → jSS → Prop, P v a → wPh N a now x2 P) ∧ ∀ post : Int32 → jRS → Prop, post v σ → wX7_phase N σ (nI i) x2 post := by
    intro v h1 h2
    refine ⟨v, h1, fun post hp => ?_⟩
    simp only [wX7_phase, ci hi]
    exact fun r er => ⟨fun _ => h2 post hp, fun hh => absurd (by rw [← er]; exact hh) (jSi hi)⟩
  by_cases c1 : jwithin x2 0 1 = 0
  · refine go (-2) (fun P hP => ?_) (fun post hp r er => ?_)
    · unfold wPh
      intro r er
      rw [c1] at er
      exact ⟨fun hh => absurd er hh, fun _ => hP⟩
    · rw [c1] at er
      exact ⟨fun hh => absurd er hh, fun _ => hp⟩
  · by_cases c2 : σ.1 39 i = 2
    · by_cases c3 : x2 = 0
      · refine go (a.1 3 1) (fun P hP => ?_) (fun post hp r er => ?_)
        · unfold wPh
          exact fun r er => ⟨fun _ => ⟨fun _ => ⟨fun hh => absurd c3 hh, fun _ => hP⟩, fun hh => absurd (by rw [e30]; exact c2) hh⟩, fun hh => absurd (by rw [← er]; exact hh) c1⟩
        · exact ⟨fun _ => ⟨vi hi, fun _ => ⟨fun hh => absurd c3 hh, fun _ => ⟨vi hi, by rw [← e31 (by rw [e30]; exact c2)]; exact hp⟩⟩, fun hh => absurd c2 hh⟩, fun hh => absurd (by rw [← er]; exact hh) c1⟩
      · refine go (now - a.1 3 2) (fun P hP => ?_) (fun post hp r er => ?_)
        · unfold wPh
          exact fun r er => ⟨fun _ => ⟨fun _ => ⟨fun _ => hP, fun hh => absurd hh c3⟩, fun hh => absurd (by rw [e30]; exact c2) hh⟩, fun hh => absurd (by rw [← er]; exact hh) c1⟩
        · exact ⟨fun _ => ⟨vi hi, fun _ => ⟨fun _ => ⟨vi hi, by rw [← e32 (by rw [e30]; exact c2), hnow]; exact hp⟩, fun hh => absurd hh c3⟩, fun hh => absurd c2 hh⟩, fun hh => absurd (by rw [← er]; exact hh) c1⟩
    · refine go (-9) (fun P hP => ?_) (fun post hp r er => ?_)
      · unfold wPh
        exact fun r er => ⟨fun _ => ⟨fun hh => absurd (by rw [e30] at hh; exact hh) c2, fun _ => hP⟩, fun hh => absurd (by rw [← er]; exact hh) c1⟩
      · exact ⟨fun _ => ⟨vi hi, fun hh => absurd hh c2, fun _ => hp⟩, fun hh => absurd (by rw [← er]; exact hh) c1⟩

theorem t_phase {N fo0 fo1 gu k : Nat} {x : jXS} {a0 a1 : jSS} {b : jGS} {σ : jRS} {p1 p2 : Int32} (hN : 8002 ≤ N) (hk5 : k < 512) (h : JI fo0 fo1 gu k x a0 a1 b σ) : wX6_phase N x a0 a1 b p1 p2 (fun r x2 z0 z1 zb => wX7_phase N σ p1 p2 (fun r2 σ2 => r = r2 ∧ JI fo0 fo1 gu (k + 1) x2 z0 z1 zb σ2)) := by
  have hs := h.suc
  obtain ⟨t, h3, h0, hk, hK⟩ := h.kn
  obtain ⟨m0, lf0, s0, d0, al0, L0, k0, kd0⟩ := hK 0 (by omega)
  obtain ⟨m1, lf1, s1, d1, al1, L1, k1, kd1⟩ := hK 1 (by omega)
  rw [if_pos rfl, if_pos rfl] at k0
  rw [if_neg (by omega), if_neg (by omega)] at k1
  obtain ⟨v0, f0, g0⟩ := v_ph (N := N) (i := 0) (now := x 3) (x2 := p2) (by omega) k0.ps.1 (by rw [h0, h3])
  obtain ⟨v1, f1, g1⟩ := v_ph (N := N) (i := 1) (now := x 3) (x2 := p2) (by omega) k1.ps.1 (by rw [h0, h3])
  rw [nI_0] at g0
  unfold wX6_phase
  refine ⟨fun c => ?_, fun c => ⟨fun c1 => ?_, fun c1 => ?_⟩⟩
  · subst c
    exact f0 (fun r z0 => wX7_phase N σ 0 p2 (fun r2 σ2 => r = r2 ∧ JI fo0 fo1 gu (k + 1) x z0 a1 b σ2)) (g0 _ ⟨rfl, hs⟩)
  · subst c1
    exact f1 (fun r z1 => wX7_phase N σ 1 p2 (fun r2 σ2 => r = r2 ∧ JI fo0 fo1 gu (k + 1) x a0 z1 b σ2)) (g1 _ ⟨rfl, hs⟩)
  · unfold wX7_phase
    intro r er
    rw [jSn c c1] at er
    exact ⟨fun hh => absurd er hh, fun _ => ⟨rfl, hs⟩⟩

def wMd (N : Nat) (a : jSS) (now x2 : Int32) (post : Int32 → jSS → Prop) : Prop := ((x2 = 0) → (∀ r_22 : Int32, r_22 = jasNumber (a.1 3 5) → post r_22 a)) ∧ ((¬ x2 = 0) → (((x2 = 1) → (post (a.1 3 6) a)) ∧ ((¬ x2 = 1) → (((x2 = 2) → (post (a.1 3 7) a)) ∧ ((¬ x2 = 2) → (((x2 = 3) → (post (now - (a.1 0 14)) a)) ∧ ((¬ x2 = 3) → (((x2 = 4) → (wX0_ticksToEnd N a now (fun r_27 a_28 => post r_27 a_28))) ∧ ((¬ x2 = 4) → (post ((-2)) a))))))))))
theorem v_end {N i t : Nat} {a : jSS} {σ : jRS} (hi : i < 2) (ht : t < 2 ^ 30) (hS : SR i a σ) (hC : CR i a σ) (hnow : σ.1 0 0 = nI t) : ∃ v, (∀ P : Int32 → jSS → Prop, P v a → wX0_ticksToEnd N a (nI t) P) ∧ ∀ post : Int32 → jRS → Prop, post v σ → wX7_untilEnd N σ (nI i) post := by
  unfold SR at hS
  have e30 : a.1 3 0 = σ.1 39 i := by grind
  by_cases c1 : σ.1 39 i = 3
  · rcases hC.1 (by rw [e30]; exact c1) with ⟨d1, d2⟩ | ⟨d1, d2, d3, en, d4, d5⟩
    · refine ⟨-9, fun P hP => ?_, fun post hp => ?_⟩
      · unfold wX0_ticksToEnd
        exact ⟨fun _ => hP, fun _ => ⟨fun _ => hP, fun hh => absurd d1 hh⟩⟩
      · simp only [wX7_untilEnd, ci hi]
        exact ⟨vi hi, fun _ => hp, fun _ => ⟨vi hi, fun hh => absurd d2 hh, fun _ => hp⟩⟩
    · by_cases c2 : en ≤ t
      · refine ⟨0, fun P hP => ?_, fun post hp => ?_⟩
        · unfold wX0_ticksToEnd
          refine ⟨fun hh => absurd (by rw [e30]; exact c1) hh, fun _ => ⟨fun hh => absurd hh d2, fun _ m em => ?_⟩⟩
          have : m = 0 := by
            rw [em, d1, d5]
            unfold jmax
            rw [if_neg]
            intro g
            rw [Int32.lt_iff_toInt_lt] at g
            have h2 : (nI en - nI t).toInt = (en : Int) - t := pk_sub_toInt (by omega) ht
            rw [h2] at g
            simp at g
            omega
          rw [this]; exact hP
        · simp only [wX7_untilEnd, ci hi, hnow, d5]
          exact ⟨vi hi, fun hh => absurd c1 hh, fun _ => ⟨vi hi, fun _ => ⟨vi hi, fun _ => hp, fun hh => absurd (nI_le c2 (by omega)) hh⟩, fun hh => absurd hh (n_ne9 (by omega))⟩⟩
      · refine ⟨nI en - nI t, fun P hP => ?_, fun post hp => ?_⟩
        · unfold wX0_ticksToEnd
          refine ⟨fun hh => absurd (by rw [e30]; exact c1) hh, fun _ => ⟨fun hh => absurd hh d2, fun _ m em => ?_⟩⟩
          have : m = nI en - nI t := by
            rw [em, d1, d5, pk_sub (by omega)]
            unfold jmax
            rw [if_pos]
            rw [← nI_0]
            exact nI_lt (by omega) (by omega)
          rw [this]; exact hP
        · simp only [wX7_untilEnd, ci hi, hnow, d5]
          exact ⟨vi hi, fun hh => absurd c1 hh, fun _ => ⟨vi hi, fun _ => ⟨vi hi, fun hh => absurd hh (nI_ge (by omega) (by omega)), fun _ => ⟨vi hi, hp⟩⟩, fun hh => absurd hh (n_ne9 (by omega))⟩⟩
  · refine ⟨-9, fun P hP => ?_, fun post hp => ?_⟩
    · unfold wX0_ticksToEnd
      exact ⟨fun _ => hP, fun hh => absurd (by rw [e30] at hh; exact hh) c1⟩
    · simp only [wX7_untilEnd, ci hi]
      exact ⟨vi hi, fun _ => hp, fun hh => absurd hh c1⟩
theorem v_md {N i t : Nat} {a : jSS} {σ : jRS} {now x2 : Int32} (hi : i < 2) (ht : t < 2 ^ 30) (hS : SR i a σ) (hC : CR i a σ) (hn : now = nI t) (hnow : σ.1 0 0 = now) : ∃ v, (∀ P : Int32 → jSS → Prop, P v a → wMd N a now x2 P) ∧ ∀ post : Int32 → jRS → Prop, post v σ → wX7_model N σ (nI i) x2 post := by
  obtain ⟨ve, hec, her⟩ := v_end (N := N) hi ht hS hC (by rw [hnow, hn])
  rw [← hn] at hec
  unfold SR at hS
  have e35 : a.1 3 5 = σ.1 44 i := by grind
  by_cases c0 : x2 = 0
  · refine ⟨jasNumber (a.1 3 5), fun P hP => ?_, fun post hp => ?_⟩
    · unfold wMd
      exact ⟨fun _ => (fun r er => by rw [er]; exact hP), fun hh => absurd c0 hh⟩
    · simp only [wX7_model, ci hi]
      exact (fun r er => ⟨fun _ => ⟨fun _ => ⟨vi hi, fun hz => by unfold jasNumber at hp; rw [e35, if_pos hz] at hp; exact hp, fun hz => by unfold jasNumber at hp; rw [e35, if_neg hz] at hp; exact hp⟩, fun hh => absurd c0 hh⟩, fun hh => absurd (by rw [← er]; exact hh) (jSi hi)⟩)
  · skip
    by_cases c1 : x2 = 1
    · refine ⟨a.1 3 6, fun P hP => ?_, fun post hp => ?_⟩
      · unfold wMd
        exact ⟨fun hh => absurd hh c0, fun _ => ⟨fun _ => hP, fun hh => absurd c1 hh⟩⟩
      · simp only [wX7_model, ci hi]
        exact (fun r er => ⟨fun _ => ⟨fun hh => absurd hh c0, fun _ => ⟨fun _ => ⟨vi hi, by rw [← (show a.1 3 6 = σ.1 45 i by grind)]; exact hp⟩, fun hh => absurd c1 hh⟩⟩, fun hh => absurd (by rw [← er]; exact hh) (jSi hi)⟩)
    · skip
      by_cases c2 : x2 = 2
      · refine ⟨a.1 3 7, fun P hP => ?_, fun post hp => ?_⟩
        · unfold wMd
          exact ⟨fun hh => absurd hh c0, fun _ => ⟨fun hh => absurd hh c1, fun _ => ⟨fun _ => hP, fun hh => absurd c2 hh⟩⟩⟩
        · simp only [wX7_model, ci hi]
          exact (fun r er => ⟨fun _ => ⟨fun hh => absurd hh c0, fun _ => ⟨fun hh => absurd hh c1, fun _ => ⟨fun _ => ⟨vi hi, by rw [← (show a.1 3 7 = σ.1 46 i by grind)]; exact hp⟩, fun hh => absurd c2 hh⟩⟩⟩, fun hh => absurd (by rw [← er]; exact hh) (jSi hi)⟩)
      · skip
        by_cases c3 : x2 = 3
        · refine ⟨now - a.1 0 14, fun P hP => ?_, fun post hp => ?_⟩
          · unfold wMd
            exact ⟨fun hh => absurd hh c0, fun _ => ⟨fun hh => absurd hh c1, fun _ => ⟨fun hh => absurd hh c2, fun _ => ⟨fun _ => hP, fun hh => absurd c3 hh⟩⟩⟩⟩
          · simp only [wX7_model, ci hi]
            exact (fun r er => ⟨fun _ => ⟨fun hh => absurd hh c0, fun _ => ⟨fun hh => absurd hh c1, fun _ => ⟨fun hh => absurd hh c2, fun _ => ⟨fun _ => ⟨vi hi, by rw [← (show a.1 0 14 = σ.1 32 i by grind), hnow]; exact hp⟩, fun hh => absurd c3 hh⟩⟩⟩⟩, fun hh => absurd (by rw [← er]; exact hh) (jSi hi)⟩)
        · skip
          by_cases c4 : x2 = 4
          · refine ⟨ve, fun P hP => ?_, fun post hp => ?_⟩
            · unfold wMd
              exact ⟨fun hh => absurd hh c0, fun _ => ⟨fun hh => absurd hh c1, fun _ => ⟨fun hh => absurd hh c2, fun _ => ⟨fun hh => absurd hh c3, fun _ => ⟨fun _ => (hec P hP), fun hh => absurd c4 hh⟩⟩⟩⟩⟩
            · simp only [wX7_model, ci hi]
              exact (fun r er => ⟨fun _ => ⟨fun hh => absurd hh c0, fun _ => ⟨fun hh => absurd hh c1, fun _ => ⟨fun hh => absurd hh c2, fun _ => ⟨fun hh => absurd hh c3, fun _ => ⟨fun _ => (her post hp), fun hh => absurd c4 hh⟩⟩⟩⟩⟩, fun hh => absurd (by rw [← er]; exact hh) (jSi hi)⟩)
          · skip
            refine ⟨(-2), fun P hP => ?_, fun post hp => ?_⟩
            · unfold wMd
              exact ⟨fun hh => absurd hh c0, fun _ => ⟨fun hh => absurd hh c1, fun _ => ⟨fun hh => absurd hh c2, fun _ => ⟨fun hh => absurd hh c3, fun _ => ⟨fun hh => absurd hh c4, fun _ => hP⟩⟩⟩⟩⟩
            · simp only [wX7_model, ci hi]
              exact (fun r er => ⟨fun _ => ⟨fun hh => absurd hh c0, fun _ => ⟨fun hh => absurd hh c1, fun _ => ⟨fun hh => absurd hh c2, fun _ => ⟨fun hh => absurd hh c3, fun _ => ⟨fun hh => absurd hh c4, fun _ => hp⟩⟩⟩⟩⟩, fun hh => absurd (by rw [← er]; exact hh) (jSi hi)⟩)

theorem t_model {N fo0 fo1 gu k : Nat} {x : jXS} {a0 a1 : jSS} {b : jGS} {σ : jRS} {p1 p2 : Int32} (hN : 8002 ≤ N) (hk5 : k < 512) (h : JI fo0 fo1 gu k x a0 a1 b σ) : wX6_model N x a0 a1 b p1 p2 (fun r x2 z0 z1 zb => wX7_model N σ p1 p2 (fun r2 σ2 => r = r2 ∧ JI fo0 fo1 gu (k + 1) x2 z0 z1 zb σ2)) := by
  have hs := h.suc
  obtain ⟨t, h3, h0, hk, hK⟩ := h.kn
  obtain ⟨m0, lf0, s0, d0, al0, L0, k0, kd0⟩ := hK 0 (by omega)
  obtain ⟨m1, lf1, s1, d1, al1, L1, k1, kd1⟩ := hK 1 (by omega)
  rw [if_pos rfl, if_pos rfl] at k0
  rw [if_neg (by omega), if_neg (by omega)] at k1
  obtain ⟨v0, f0, g0⟩ := v_md (N := N) (i := 0) (t := t) (now := x 3) (x2 := p2) (by omega) (by omega) k0.ps.1 k0.ps.2.2.1 h3 (by rw [h0, h3])
  obtain ⟨v1, f1, g1⟩ := v_md (N := N) (i := 1) (t := t) (now := x 3) (x2 := p2) (by omega) (by omega) k1.ps.1 k1.ps.2.2.1 h3 (by rw [h0, h3])
  rw [nI_0] at g0
  unfold wX6_model
  refine ⟨fun c => ?_, fun c => ⟨fun c1 => ?_, fun c1 => ?_⟩⟩
  · subst c
    exact f0 (fun r z0 => wX7_model N σ 0 p2 (fun r2 σ2 => r = r2 ∧ JI fo0 fo1 gu (k + 1) x z0 a1 b σ2)) (g0 _ ⟨rfl, hs⟩)
  · subst c1
    exact f1 (fun r z1 => wX7_model N σ 1 p2 (fun r2 σ2 => r = r2 ∧ JI fo0 fo1 gu (k + 1) x a0 z1 b σ2)) (g1 _ ⟨rfl, hs⟩)
  · unfold wX7_model
    intro r er
    rw [jSn c c1] at er
    exact ⟨fun hh => absurd er hh, fun _ => ⟨rfl, hs⟩⟩

def wTn (N : Nat) (a : jSS) (x2 x3 : Int32) (post : Int32 → jSS → Prop) : Prop := ∀ r_17 : Int32, r_17 = jwithin x2 0 ((a.1 3 9) - 1) → ((¬ r_17 = 0) → (((x3 = 0) → (vp_in x2 12 ∧ post (a.1 7 x2.toNatClampNeg) a)) ∧ ((¬ x3 = 0) → (((x3 = 1) → (vp_in x2 12 ∧ post (a.1 8 x2.toNatClampNeg) a)) ∧ ((¬ x3 = 1) → (post ((-2)) a)))))) ∧ ((r_17 = 0) → (post ((-1)) a))
theorem v_tn {N i tn : Nat} {a : jSS} {σ : jRS} {x2 x3 : Int32} (hi : i < 2) (htn : tn < 2 ^ 30) (hT : TR i tn a σ) : ∃ v, (∀ P : Int32 → jSS → Prop, P v a → wTn N a x2 x3 P) ∧ ∀ post : Int32 → jRS → Prop, post v σ → wX7_turn N σ (nI i) x2 x3 post := by
  obtain ⟨⟨_, t1⟩, t2, t3⟩ := hT
  -- the reference's head
  have hr : ∀ post : Int32 → jRS → Prop, (∀ r_16 : Int32, r_16 = jwithin x2 0 (nI (min tn 12) - 1) → ((¬ r_16 = 0) → (((¬ x3 = 0) → (((¬ x3 = 1) → (post ((-2)) σ)) ∧ ((x3 = 1) → (vp_in ((12 * nI i) + x2) 24 ∧ post (σ.1 49 ((12 * nI i) + x2).toNatClampNeg) σ)))) ∧ ((x3 = 0) → (vp_in ((12 * nI i) + x2) 24 ∧ post (σ.1 48 ((12 * nI i) + x2).toNatClampNeg) σ)))) ∧ ((r_16 = 0) → (post ((-1)) σ))) → wX7_turn N σ (nI i) x2 x3 post := by
    intro post h
    have h29 : wX7_turn_29 N σ (nI i) x2 x3 (nI (min tn 12)) post := by
      unfold wX7_turn_29
      exact fun r er => ⟨fun hh => absurd (by rw [← er]; exact hh) (jSi hi), fun _ => h⟩
    simp only [wX7_turn, wX7_turn_27, ci hi, t2]
    refine fun r er => ⟨fun hh => absurd (by rw [← er]; exact hh) (jSi hi), fun _ => ⟨vi hi, ?_⟩⟩
    refine pk_le 12 tn (fun g => ?_) (fun g => ⟨vi hi, ?_⟩)
    · rw [Nat.min_eq_right g] at h29; exact h29
    · rw [Nat.min_eq_left (by omega)] at h29; exact h29
  have hc : ∀ P : Int32 → jSS → Prop, (∀ r_17 : Int32, r_17 = jwithin x2 0 (nI (min tn 12) - 1) → ((¬ r_17 = 0) → (((x3 = 0) → (vp_in x2 12 ∧ P (a.1 7 x2.toNatClampNeg) a)) ∧ ((¬ x3 = 0) → (((x3 = 1) → (vp_in x2 12 ∧ P (a.1 8 x2.toNatClampNeg) a)) ∧ ((¬ x3 = 1) → (P ((-2)) a)))))) ∧ ((r_17 = 0) → (P ((-1)) a))) → wTn N a x2 x3 P := by
    intro P h
    unfold wTn
    rw [t1]
    exact h
  rcases pk_ix x2 (n := min tn 12) (by omega) with g | g | ⟨j, g, rfl⟩
  · refine ⟨-1, fun P hP => hc P (fun r er => ?_), fun post hp => hr post (fun r er => ?_)⟩
    · rw [wc0 (by omega) (.inl g)] at er; exact ⟨fun hh => absurd er hh, fun _ => hP⟩
    · rw [wc0 (by omega) (.inl g)] at er; exact ⟨fun hh => absurd er hh, fun _ => hp⟩
  · refine ⟨-1, fun P hP => hc P (fun r er => ?_), fun post hp => hr post (fun r er => ?_)⟩
    · rw [wc0 (by omega) (.inr g)] at er; exact ⟨fun hh => absurd er hh, fun _ => hP⟩
    · rw [wc0 (by omega) (.inr g)] at er; exact ⟨fun hh => absurd er hh, fun _ => hp⟩
  · have h10 : ¬ (1 : Int32) = 0 := by decide
    obtain ⟨v1, v2⟩ := t3 j (by omega) (by omega)
    have hin : vp_in (nI j) 12 := vp_in_nI (by omega) (by omega)
    have hcl : (nI j).toNatClampNeg = j := cl (by omega)
    have hin2 : vp_in ((12 * nI i) + nI j) 24 := by rw [n12]; exact vp_in_nI (by omega) (by omega)
    have hcl2 : ((12 * nI i) + nI j).toNatClampNeg = 12 * i + j := by rw [n12]; exact cl (by omega)
    by_cases c0 : x3 = 0
    · refine ⟨σ.1 48 (12 * i + j), fun P hP => hc P (fun r er => ?_), fun post hp => hr post (fun r er => ?_)⟩
      · rw [wc1 (by omega) g] at er
        refine ⟨fun _ => ⟨fun _ => ?_, fun hh => absurd c0 hh⟩, fun hh => absurd (by rw [er] at hh; exact hh) h10⟩
        refine ⟨hin, ?_⟩
        rw [hcl, v1]; exact hP
      · rw [wc1 (by omega) g] at er
        refine ⟨fun _ => ⟨fun hh => absurd c0 hh, fun _ => ⟨hin2, ?_⟩⟩, fun hh => absurd (by rw [er] at hh; exact hh) h10⟩
        rw [hcl2]; exact hp
    · by_cases c1 : x3 = 1
      · refine ⟨σ.1 49 (12 * i + j), fun P hP => hc P (fun r er => ?_), fun post hp => hr post (fun r er => ?_)⟩
        · rw [wc1 (by omega) g] at er
          refine ⟨fun _ => ⟨fun hh => absurd hh c0, fun _ => ⟨fun _ => ?_, fun hh => absurd c1 hh⟩⟩, fun hh => absurd (by rw [er] at hh; exact hh) h10⟩
          refine ⟨hin, ?_⟩
          rw [hcl, v2]; exact hP
        · rw [wc1 (by omega) g] at er
          refine ⟨fun _ => ⟨fun _ => ⟨fun hh => absurd c1 hh, fun _ => ⟨hin2, ?_⟩⟩, fun hh => absurd hh c0⟩, fun hh => absurd (by rw [er] at hh; exact hh) h10⟩
          rw [hcl2]; exact hp
      · refine ⟨-2, fun P hP => hc P (fun r er => ?_), fun post hp => hr post (fun r er => ?_)⟩
        · rw [wc1 (by omega) g] at er
          exact ⟨fun _ => ⟨fun hh => absurd hh c0, fun _ => ⟨fun hh => absurd hh c1, fun _ => hP⟩⟩, fun hh => absurd (by rw [er] at hh; exact hh) h10⟩
        · rw [wc1 (by omega) g] at er
          exact ⟨fun _ => ⟨fun _ => ⟨fun _ => hp, fun hh => absurd hh c1⟩, fun hh => absurd hh c0⟩, fun hh => absurd (by rw [er] at hh; exact hh) h10⟩
theorem SI.db {i fo t k m lf s d al : Nat} {L : Nat → Nat} {a : jSS} {b : jGS} {σ : jRS} (h : SI i fo t k m lf s d al L a b σ) (hd : d ≤ 2 ^ 24) : ∃ tn, tn < 2 ^ 30 ∧ TR i tn a σ := by
  obtain ⟨q1, q2, q3, tn, q4, q5⟩ := h.ps
  exact ⟨tn, by omega, q5⟩


theorem t_turn {N fo0 fo1 gu k : Nat} {x : jXS} {a0 a1 : jSS} {b : jGS} {σ : jRS} {p1 p2 p3 : Int32} (hN : 8002 ≤ N) (hk5 : k < 512) (h : JI fo0 fo1 gu k x a0 a1 b σ) : wX6_turn N x a0 a1 b p1 p2 p3 (fun r x2 z0 z1 zb => wX7_turn N σ p1 p2 p3 (fun r2 σ2 => r = r2 ∧ JI fo0 fo1 gu (k + 1) x2 z0 z1 zb σ2)) := by
  have hs := h.suc
  obtain ⟨t, h3, h0, hk, hK⟩ := h.kn
  obtain ⟨m0, lf0, s0, d0, al0, L0, k0, kd0⟩ := hK 0 (by omega)
  obtain ⟨m1, lf1, s1, d1, al1, L1, k1, kd1⟩ := hK 1 (by omega)
  rw [if_pos rfl, if_pos rfl] at k0
  rw [if_neg (by omega), if_neg (by omega)] at k1
  have hdb : d0 ≤ 2 ^ 24 ∧ d1 ≤ 2 ^ 24 := ⟨by omega, by omega⟩
  obtain ⟨tn0, x01, x02⟩ := k0.db hdb.1
  obtain ⟨tn1, x11, x12⟩ := k1.db hdb.2
  obtain ⟨v0, f0, g0⟩ := v_tn (N := N) (i := 0) (x2 := p2) (x3 := p3) (by omega) x01 x02
  obtain ⟨v1, f1, g1⟩ := v_tn (N := N) (i := 1) (x2 := p2) (x3 := p3) (by omega) x11 x12
  rw [nI_0] at g0
  unfold wX6_turn
  refine ⟨fun c => ?_, fun c => ⟨fun c1 => ?_, fun c1 => ?_⟩⟩
  · subst c
    exact f0 (fun r z0 => wX7_turn N σ 0 p2 p3 (fun r2 σ2 => r = r2 ∧ JI fo0 fo1 gu (k + 1) x z0 a1 b σ2)) (g0 _ ⟨rfl, hs⟩)
  · subst c1
    exact f1 (fun r z1 => wX7_turn N σ 1 p2 p3 (fun r2 σ2 => r = r2 ∧ JI fo0 fo1 gu (k + 1) x a0 z1 b σ2)) (g1 _ ⟨rfl, hs⟩)
  · unfold wX7_turn wX7_turn_27 wX7_turn_29
    intro r er
    rw [jSn c c1] at er
    refine ⟨fun _ r2 er2 => ?_, fun hh => absurd er hh⟩
    rw [jSn c c1] at er2
    exact ⟨fun _ => ⟨rfl, hs⟩, fun hh => absurd er2 hh⟩

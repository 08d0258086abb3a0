/-! the course, third: PROBE, and what follows an answer -/
theorem p_turn4 {N i tn : Nat} {a : jSS} {σ : jRS} {st now : Int32} (hi : i < 2) (hN : 20 ≤ N) (htn : tn < 2 ^ 30) (h1 : SR i a σ) (h2 : CR4 i σ) (h3 : TR i tn a σ) (hnow : σ.1 0 0 = now) (hst : ¬ st = 3) (hst2 : st = 0 ∨ st = 1) : ∃ (a1 : jSS) (σ1 : jRS), CS i (tn + 1) a1 σ1 ∧ AF a a1 ∧ RF σ σ1 ∧ FR i σ σ1 ∧ a1.1 3 0 = st ∧ (∀ post, post a1 → wX0_enter N a st now post) ∧ (∀ post, post σ1 → wX7_comesTo N σ (nI i) st post) := by
  obtain ⟨a1, σ1, g1, g2, g3, g4, g5, g6, g7, g8, g9, g10, -⟩ := p_enter (N := N) (st := st) hi hN htn h3 hnow
  refine ⟨a1, σ1, ⟨?_, ?_, g1⟩, ⟨fun k j q1 q2 q3 q4 => g3 k j (by omega) (by omega) q2 q3, g4⟩, ⟨fun k j q1 q2 => g6 k j (by omega) (by omega) (by omega) (by omega), g7⟩, g2, g5, g9, g10⟩
  · have hs2 : ¬ a1.1 3 0 = 2 := by rcases hst2 with h | h <;> rw [g5, h] <;> decide
    unfold SR at h1 ⊢
    rw [g4, g7]
    grind
  · unfold CR4 at h2
    unfold CR
    grind
theorem now_ne {t : Nat} (ht : t < 2 ^ 30) : ¬ nI t + 200 = -1 ∧ ¬ nI t + 200 = -9 := by
  have e : nI t + 200 = nI (t + 200) := by rw [show (200 : Int32) = nI 200 from by decide, nI_add]
  rw [e]
  constructor
  · intro h
    have := congrArg Int32.toInt h
    rw [nI_toInt (by omega)] at this
    simp at this
    omega
  · intro h
    have := congrArg Int32.toInt h
    rw [nI_toInt (by omega)] at this
    simp at this
    omega
theorem RF.now {σ σ1 : jRS} (h : RF σ σ1) : σ1.1 0 0 = σ.1 0 0 := h.1 0 0 (by omega) (by omega)
/-- PROBE -/
theorem p_probe {N i tn t : Nat} {a : jSS} {σ : jRS} (hi : i < 2) (hN : 20 ≤ N) (htn : tn < 2 ^ 30) (ht : t < 2 ^ 30) (h : CS i tn a σ) (hnow : σ.1 0 0 = nI t) (h3 : σ.1 39 i = 3) : PR i tn a σ (wX0_probe N a (nI t)) (wX7_probes N σ (nI i)) 1 := by
  have hs := h.1
  unfold SR at hs
  have e11 : a.1 1 1 = σ.1 16 i := by grind
  have e30 : a.1 3 0 = 3 := by grind
  have e35 : a.1 3 5 = σ.1 44 i := by grind
  obtain ⟨hn1, hn2⟩ := now_ne ht
  have hEN : ENat (nI t + 200) := ⟨t + 200, by omega, by rw [show (200 : Int32) = nI 200 from rfl, nI_add]⟩
  rcases h.2.1.1 e30 with ⟨c1, c2⟩ | ⟨c1, c2, c3, c4⟩
  · by_cases h4 : 4 < σ.1 16 i
    · refine ⟨tn, a, rP σ 43 i (-9), by omega, ⟨?_, ?_, ?_⟩, AF.rf, ⟨?_, rfl⟩, (FR.put (own_s (by omega) (by omega) (by omega) (by omega))), ?_, ?_⟩
      · have := h.1; unfold SR at this ⊢; simp only [aP_rd, rP_rd, aP_2, rP_2]; grind
      · have := h.2.1; unfold CR at this ⊢; simp only [aP_rd, rP_rd]; grind
      · have := h.2.2; unfold TR at this ⊢; simp only [aP_rd, rP_rd]; grind
      · intro k j g1 g2; simp only [rP_rd]; grind
      · intro post hp
        unfold wX0_probe
        exact ⟨fun hh => absurd c1 hh, fun _ => ⟨fun _ => hp, fun hh => absurd (by rw [e11]; exact h4) hh⟩⟩
      · intro post hp
        simp only [wX7_probes, wX7_probes_39, ci hi]
        refine ⟨vi hi, fun hh => absurd c2 hh, fun _ => ⟨vi hi, fun _ => ⟨vi hi, fun s es => ?_⟩, fun hh => absurd h4 hh⟩⟩
        subst es; exact hp
    · refine ⟨tn, aP a 3 4 (nI t + 200), rP σ 43 i (nI t + 200), by omega, ⟨?_, ?_, ?_⟩, ⟨?_, rfl⟩, ⟨?_, rfl⟩, (FR.put (own_s (by omega) (by omega) (by omega) (by omega))), ?_, ?_⟩
      · have := h.1; unfold SR at this ⊢; simp only [aP_rd, rP_rd, aP_2, rP_2]; grind
      · have := h.2.1; unfold CR at this ⊢; simp only [aP_rd, rP_rd]; grind
      · have := h.2.2; unfold TR at this ⊢; simp only [aP_rd, rP_rd]; grind
      · intro k j g1 g2 g3 g4; simp only [aP_rd]; grind
      · intro k j g1 g2; simp only [rP_rd]; grind
      · intro post hp
        unfold wX0_probe
        refine ⟨fun hh => absurd c1 hh, fun _ => ⟨fun hh => absurd (by rw [e11] at hh; exact hh) h4, fun _ v ev a2 e2 => ?_⟩⟩
        subst e2 ev; exact hp
      · intro post hp
        simp only [wX7_probes, wX7_probes_39, ci hi]
        refine ⟨vi hi, fun hh => absurd c2 hh, fun _ => ⟨vi hi, fun hh => absurd hh h4, fun _ => ⟨vi hi, fun s es => ?_⟩⟩⟩
        rw [hnow] at es
        subst es; exact hp
  · by_cases h4 : nI t < σ.1 43 i
    · refine ⟨tn, a, σ, by omega, h, AF.rf, RF.rf, FR.rf, ?_, ?_⟩
      · intro post hp
        unfold wX0_probe
        exact ⟨fun _ => ⟨fun _ => hp, fun hh => absurd (by rw [c1]; exact h4) hh⟩, fun hh => absurd hh c2⟩
      · intro post hp
        simp only [wX7_probes, ci hi, hnow]
        exact ⟨vi hi, fun _ => ⟨vi hi, fun _ => hp, fun hh => absurd h4 hh⟩, fun hh => absurd hh c3⟩
    · have hS1 : SR i (aP a 0 14 (nI t)) (rP (rP σ 32 i (nI t)) 43 i (-9)) := by
        have := h.1; unfold SR at this ⊢; simp only [aP_rd, rP_rd, aP_2, rP_2]; grind
      have hC1 : CR4 i (rP (rP σ 32 i (nI t)) 43 i (-9)) := by
        have := h.2.1; unfold CR at this; unfold CR4; simp only [rP_rd]; grind
      have hT1 : TR i tn (aP a 0 14 (nI t)) (rP (rP σ 32 i (nI t)) 43 i (-9)) := by
        have := h.2.2; unfold TR at this ⊢; simp only [aP_rd, rP_rd]; grind
      have hnow1 : (rP (rP σ 32 i (nI t)) 43 i (-9)).1 0 0 = nI t := by simp only [rP_rd]; grind
      have hA1 : AF a (aP a 0 14 (nI t)) := ⟨by intro k j g1 g2 g3 g4; simp only [aP_rd]; grind, rfl⟩
      have hR1 : RF σ (rP (rP σ 32 i (nI t)) 43 i (-9)) := ⟨by intro k j g1 g2; simp only [rP_rd]; grind, rfl⟩
      have hF1 : FR i σ (rP (rP σ 32 i (nI t)) 43 i (-9)) := (FR.put (own_s (by omega) (by omega) (by omega) (by omega))).tr (FR.put (own_s (by omega) (by omega) (by omega) (by omega)))
      have f35 : (aP a 0 14 (nI t)).1 3 5 = σ.1 44 i := by simp only [aP_rd]; grind
      have f44 : (rP (rP σ 32 i (nI t)) 43 i (-9)).1 44 i = σ.1 44 i := by simp only [rP_rd]; grind
      by_cases h5 : σ.1 44 i = 0
      · obtain ⟨a1, σ1, g1, g2, g3, g4, g5, g6, g7⟩ := p_turn4 (N := N) (st := 0) hi hN htn hS1 hC1 hT1 hnow1 (by decide) (by simp)
        refine ⟨tn + 1, a1, σ1, by omega, g1, hA1.tr g2, hR1.tr g3, hF1.tr g4, fun post hp => ?_, fun post hp => ?_⟩
        · unfold wX0_probe wX0_probe_57
          refine ⟨fun _ => ⟨fun hh => absurd (by rw [c1] at hh; exact hh) h4, fun _ a2 e2 => ?_⟩, fun hh => absurd hh c2⟩
          subst e2
          exact ⟨fun _ => g6 _ hp, fun hh => absurd (by rw [f35]; exact h5) hh⟩
        · simp only [wX7_probes, ci hi, hnow]
          refine ⟨vi hi, fun _ => ⟨vi hi, fun hh => absurd hh h4, fun _ v ev => ⟨vi hi, fun s es => ⟨vi hi, fun s2 es2 => ⟨vi hi, fun _ => ?_, fun hh => ?_⟩⟩⟩⟩, fun hh => absurd hh c3⟩
          · subst es2 es ev; exact g7 _ hp
          · subst es2 es ev; exact absurd (by rw [f44]; exact h5) hh
      · obtain ⟨a1, σ1, g1, g2, g3, g4, g5, g6, g7⟩ := p_cruise (N := N) hi hN htn hS1 hC1 hT1 hnow1
        refine ⟨tn + 1, a1, σ1, by omega, g1, hA1.tr g2, hR1.tr g3, hF1.tr g4, fun post hp => ?_, fun post hp => ?_⟩
        · unfold wX0_probe wX0_probe_57
          refine ⟨fun _ => ⟨fun hh => absurd (by rw [c1] at hh; exact hh) h4, fun _ a2 e2 => ?_⟩, fun hh => absurd hh c2⟩
          subst e2
          exact ⟨fun hh => absurd (by rw [f35] at hh; exact hh) h5, fun _ => g6 _ hp⟩
        · simp only [wX7_probes, ci hi, hnow]
          refine ⟨vi hi, fun _ => ⟨vi hi, fun hh => absurd hh h4, fun _ v ev => ⟨vi hi, fun s es => ⟨vi hi, fun s2 es2 => ⟨vi hi, fun hh => ?_, fun hh => ?_⟩⟩⟩⟩, fun hh => absurd hh c3⟩
          · subst es2 es ev; exact absurd (by rw [f44] at hh; exact hh) h5
          · subst es2 es ev; exact g7 _ hp
theorem PR.up {i tn m m' : Nat} {a : jSS} {σ : jRS} {wc : (jSS → Prop) → Prop} {wr : (jRS → Prop) → Prop} (h : PR i tn a σ wc wr m) (hm : m ≤ m') : PR i tn a σ wc wr m' := by
  obtain ⟨tn', a', σ', g⟩ := h
  exact ⟨tn', a', σ', by omega, g.2⟩
theorem p_115 {N i tn t : Nat} {a : jSS} {σ : jRS} {x4 : Int32} (hi : i < 2) (hN : 20 ≤ N) (htn : tn < 2 ^ 30) (ht : t < 2 ^ 30) (h : CS i tn a σ) (hnow : σ.1 0 0 = nI t) : PR i tn a σ (wX0_follow_117 N a (nI t) x4) (wX7_changesState_112 N σ (nI i) x4) 1 := by
  have hs := h.1
  unfold SR at hs
  have e30 : a.1 3 0 = σ.1 39 i := by grind
  by_cases h3 : σ.1 39 i = 3
  · obtain ⟨tn', a', σ', g1, g2, g3, g4, g5, g6, g7⟩ := p_probe hi hN htn ht h hnow h3
    refine ⟨tn', a', σ', g1, g2, g3, g4, g5, fun post hp => ?_, fun post hp => ?_⟩
    · unfold wX0_follow_117
      exact ⟨fun hh => absurd (by rw [e30]; exact h3) hh, fun _ => g6 _ hp⟩
    · simp only [wX7_changesState_112, ci hi]
      exact ⟨vi hi, fun hh => absurd h3 hh, fun _ => g7 _ hp⟩
  · by_cases h4 : x4 = 0
    · refine ⟨tn, a, σ, by omega, h, AF.rf, RF.rf, FR.rf, fun post hp => ?_, fun post hp => ?_⟩
      · unfold wX0_follow_117
        exact ⟨fun _ => ⟨fun _ => hp, fun hh => absurd h4 hh⟩, fun hh => absurd (by rw [e30] at hh; exact hh) h3⟩
      · simp only [wX7_changesState_112, ci hi]
        exact ⟨vi hi, fun _ => ⟨fun _ => hp, fun hh => absurd h4 hh⟩, fun hh => absurd hh h3⟩
    · obtain ⟨a1, σ1, g1, g2, g3, g4, g5, g6, g7, g8, g9, g10, -, -, -, g14⟩ := p_enter (N := N) (st := 3) hi hN htn h.2.2 hnow
      have hs3 : ¬ a1.1 3 0 = 2 := by rw [g5]; decide
      refine ⟨tn + 1, a1, rP σ1 43 i (-9), by omega, ⟨?_, ?_, ?_⟩, ⟨?_, g4⟩, ⟨?_, g7⟩, g2.tr (FR.put (own_s (by omega) (by omega) (by omega) (by omega))), fun post hp => ?_, fun post hp => ?_⟩
      · unfold SR
        simp only [rP_rd, rP_2]
        rw [g4, g7]
        grind
      · have := h.2.1
        unfold CR at this ⊢
        simp only [rP_rd]
        grind
      · unfold TR at g1 ⊢; simp only [rP_rd]; grind
      · intro k j q1 q2 q3 q4; grind
      · intro k j q1 q2; simp only [rP_rd]; grind
      · unfold wX0_follow_117
        exact ⟨fun _ => ⟨fun hh => absurd hh h4, fun _ => g9 _ hp⟩, fun hh => absurd (by rw [e30] at hh; exact hh) h3⟩
      · simp only [wX7_changesState_112, ci hi]
        refine ⟨vi hi, fun _ => ⟨fun hh => absurd hh h4, fun _ => g10 _ ⟨vi hi, ?_⟩⟩, fun hh => absurd hh h3⟩
        intro s2 e2
        subst e2; exact hp
theorem ph8 : ∀ n : Nat, n < 8 → (8 ≤ nI n + 1 ∧ (nI n + 1) - (nI n + 1) / 8 * 8 = nI 0) ∨ (¬ 8 ≤ nI n + 1 ∧ n + 1 < 8 ∧ nI n + 1 = nI (n + 1) ∧ (nI n + 1) - (nI n + 1) / 8 * 8 = nI (n + 1)) := by decide
theorem p_69 {N i tn t : Nat} {a : jSS} {σ : jRS} {x4 : Int32} (hi : i < 2) (hN : 20 ≤ N) (htn : tn < 2 ^ 30) (ht : t < 2 ^ 30) (h : CS i tn a σ) (hnow : σ.1 0 0 = nI t) : PR i tn a σ (wX0_follow_71 N a (nI t) x4) (wX7_changesState_78 N σ (nI i) x4) 1 := by
  have hs := h.1
  unfold SR at hs
  have e30 : a.1 3 0 = σ.1 39 i := by grind
  by_cases h2 : σ.1 39 i = 2
  · have e31 : a.1 3 1 = σ.1 40 i := by grind
    obtain ⟨r, k1, k2⟩ := p_over (N := N) hi h hnow h2
    by_cases hr : r = 0
    · refine PR.mk (m1 := 0) (m2 := 1) (by omega) AF.rf RF.rf FR.rf ?_ ?_ (p_115 (x4 := x4) hi hN htn ht h hnow)
      · intro post hp
        unfold wX0_follow_71
        exact ⟨fun hh => absurd (by rw [e30]; exact h2) hh, fun _ => k1 _ ⟨fun _ => hp, fun hh => absurd hr hh⟩⟩
      · intro post hp
        simp only [wX7_changesState_78, ci hi]
        exact ⟨vi hi, fun hh => absurd h2 hh, fun _ => k2 _ ⟨fun _ => hp, fun hh => absurd hr hh⟩⟩
    · obtain ⟨ph, hph, hphe⟩ := h.2.1.2.1
      rcases ph8 ph hph with ⟨c1, c2⟩ | ⟨c1, c2, c3, c4⟩
      · obtain ⟨j1, j2, j3, j4⟩ := p_phase (now := nI t) (ph := 0) hi h hnow (by omega)
        refine PR.mk (m1 := 0) (m2 := 1) (by omega) j2 j3 j4 ?_ ?_ (p_115 (x4 := x4) hi hN htn ht j1 (by rw [j3.now]; exact hnow))
        · intro post hp
          unfold wX0_follow_71 wX0_follow_112
          refine ⟨fun hh => absurd (by rw [e30]; exact h2) hh, fun _ => k1 _ ⟨fun hh => absurd hh hr, fun _ => ⟨fun _ => c_beginPhase hp, fun hh => absurd (by rw [e31, hphe]; exact c1) hh⟩⟩⟩
        · intro post hp
          simp only [wX7_changesState_78, ci hi, hphe, c2]
          exact ⟨vi hi, fun hh => absurd h2 hh, fun _ => k2 _ ⟨fun hh => absurd hh hr, fun _ => ⟨vi hi, (by rw [hphe, c2]; exact q_comesToPhase hi hp)⟩⟩⟩
      · obtain ⟨j1, j2, j3, j4⟩ := p_phase (now := nI t) (ph := ph + 1) hi h hnow (by omega)
        refine PR.mk (m1 := 0) (m2 := 1) (by omega) j2 j3 j4 ?_ ?_ (p_115 (x4 := x4) hi hN htn ht j1 (by rw [j3.now]; exact hnow))
        · intro post hp
          unfold wX0_follow_71 wX0_follow_112
          refine ⟨fun hh => absurd (by rw [e30]; exact h2) hh, fun _ => k1 _ ⟨fun hh => absurd hh hr, fun _ => ⟨fun hh => absurd (by rw [e31, hphe] at hh; exact hh) c1, fun _ => ?_⟩⟩⟩
          rw [e31, hphe, c3]
          exact c_beginPhase hp
        · intro post hp
          simp only [wX7_changesState_78, ci hi, hphe]
          exact ⟨vi hi, fun hh => absurd h2 hh, fun _ => k2 _ ⟨fun hh => absurd hh hr, fun _ => ⟨vi hi, (by rw [hphe, c4]; exact q_comesToPhase hi hp)⟩⟩⟩
  · refine PR.mk (m1 := 0) (m2 := 1) (by omega) AF.rf RF.rf FR.rf ?_ ?_ (p_115 (x4 := x4) hi hN htn ht h hnow)
    · intro post hp
      unfold wX0_follow_71
      exact ⟨fun _ => hp, fun hh => absurd (by rw [e30] at hh; exact hh) h2⟩
    · intro post hp
      simp only [wX7_changesState_78, ci hi]
      exact ⟨vi hi, fun _ => hp, fun hh => absurd hh h2⟩
theorem p_39 {N i tn t : Nat} {a : jSS} {σ : jRS} {x4 : Int32} (hi : i < 2) (hN : 20 ≤ N) (htn : tn + 1 < 2 ^ 30) (ht : t < 2 ^ 30) (h : CS i tn a σ) (hnow : σ.1 0 0 = nI t) : PR i tn a σ (wX0_follow_40 N a (nI t) x4) (wX7_changesState_40 N σ (nI i) x4) 2 := by
  have hs := h.1
  unfold SR at hs
  have e30 : a.1 3 0 = σ.1 39 i := by grind
  have e11 : a.1 1 1 = σ.1 16 i := by grind
  have e12 : a.1 0 12 = σ.1 30 i := by grind
  have e13 : a.1 0 13 = σ.1 31 i := by grind
  by_cases h2 : σ.1 39 i = 1
  · by_cases hc : 0 < lg_cmp (σ.1 16 i).toInt64 (jprod (σ.1 30 i) (σ.1 31 i))
    · refine PR.mk (m1 := 1) (m2 := 1) (by omega) AF.rf RF.rf FR.rf ?_ ?_ (p_69 (x4 := x4) hi hN (by omega) ht h hnow)
      · intro post hp
        unfold wX0_follow_40
        refine ⟨fun hh => absurd (by rw [e30]; exact h2) hh, fun _ => c_product ?_⟩
        rw [e12, e13, e11]
        exact ⟨fun _ => hp, fun hh => absurd hc hh⟩
      · intro post hp
        simp only [wX7_changesState_40, ci hi]
        exact ⟨vi hi, fun hh => absurd h2 hh, fun _ => ⟨vi hi, q_product hi ⟨fun _ => hp, fun hh => absurd hc hh⟩⟩⟩
    · obtain ⟨a1, σ1, g1, g2, g3, g4, g5, g6, g7⟩ := p_cruise (N := N) hi hN (by omega) h.1 h.2.1.to4 h.2.2 hnow
      refine PR.mk (m1 := 1) (m2 := 1) (by omega) g2 g3 g4 ?_ ?_ (p_69 (x4 := x4) hi hN (by omega) ht g1 (by rw [g3.now]; exact hnow))
      · intro post hp
        unfold wX0_follow_40
        refine ⟨fun hh => absurd (by rw [e30]; exact h2) hh, fun _ => c_product ?_⟩
        rw [e12, e13, e11]
        exact ⟨fun hh => absurd hh hc, fun _ => g6 _ hp⟩
      · intro post hp
        simp only [wX7_changesState_40, ci hi]
        exact ⟨vi hi, fun hh => absurd h2 hh, fun _ => ⟨vi hi, q_product hi ⟨fun hh => absurd hh hc, fun _ => g7 _ hp⟩⟩⟩
  · refine PR.mk (m1 := 1) (m2 := 1) (by omega) AF.rf RF.rf FR.rf ?_ ?_ (p_69 (x4 := x4) hi hN (by omega) ht h hnow)
    · intro post hp
      unfold wX0_follow_40
      exact ⟨fun _ => hp, fun hh => absurd (by rw [e30] at hh; exact hh) h2⟩
    · intro post hp
      simp only [wX7_changesState_40, ci hi]
      exact ⟨vi hi, fun _ => hp, fun hh => absurd hh h2⟩
theorem p_19 {N i tn t : Nat} {a : jSS} {σ : jRS} {x4 : Int32} (hi : i < 2) (hN : 20 ≤ N) (htn : tn + 2 < 2 ^ 30) (ht : t < 2 ^ 30) (h : CS i tn a σ) (hnow : σ.1 0 0 = nI t) : PR i tn a σ (wX0_follow_19 N a (nI t) x4) (wX7_changesState_16 N σ (nI i) x4) 3 := by
  have hs := h.1
  unfold SR at hs
  have e30 : a.1 3 0 = σ.1 39 i := by grind
  have e35 : a.1 3 5 = σ.1 44 i := by grind
  by_cases h2 : σ.1 39 i = 0
  · by_cases hc : σ.1 44 i = 0
    · refine PR.mk (m1 := 1) (m2 := 2) (by omega) AF.rf RF.rf FR.rf ?_ ?_ (p_39 (x4 := x4) hi hN (by omega) ht h hnow)
      · intro post hp
        unfold wX0_follow_19
        exact ⟨fun hh => absurd (by rw [e30]; exact h2) hh, fun _ => ⟨fun _ => hp, fun hh => absurd (by rw [e35]; exact hc) hh⟩⟩
      · intro post hp
        simp only [wX7_changesState_16, ci hi]
        exact ⟨vi hi, fun hh => absurd h2 hh, fun _ => ⟨vi hi, fun _ => hp, fun hh => absurd hc hh⟩⟩
    · obtain ⟨a1, σ1, g1, g2, g3, g4, g5, g6, g7⟩ := p_turn (N := N) (st := 1) hi hN (by omega) h hnow (by decide) (by simp)
      refine PR.mk (m1 := 1) (m2 := 2) (by omega) g2 g3 g4 ?_ ?_ (p_39 (x4 := x4) hi hN (by omega) ht g1 (by rw [g3.now]; exact hnow))
      · intro post hp
        unfold wX0_follow_19
        exact ⟨fun hh => absurd (by rw [e30]; exact h2) hh, fun _ => ⟨fun hh => absurd (by rw [e35] at hh; exact hh) hc, fun _ => g6 _ hp⟩⟩
      · intro post hp
        simp only [wX7_changesState_16, ci hi]
        exact ⟨vi hi, fun hh => absurd h2 hh, fun _ => ⟨vi hi, fun hh => absurd hh hc, fun _ => g7 _ hp⟩⟩
  · refine PR.mk (m1 := 1) (m2 := 2) (by omega) AF.rf RF.rf FR.rf ?_ ?_ (p_39 (x4 := x4) hi hN (by omega) ht h hnow)
    · intro post hp
      unfold wX0_follow_19
      exact ⟨fun _ => hp, fun hh => absurd (by rw [e30] at hh; exact hh) h2⟩
    · intro post hp
      simp only [wX7_changesState_16, ci hi]
      exact ⟨vi hi, fun _ => hp, fun hh => absurd hh h2⟩
/-- all that follows an answer; fr: the class's word for 'a round began with it and it isn't limited' -/
theorem p_follow {N i tn t : Nat} {a : jSS} {σ : jRS} {fr x2 x3 x4 : Int32} (hi : i < 2) (hN : 20 ≤ N) (htn : tn + 2 < 2 ^ 30) (ht : t < 2 ^ 30) (h : CS i tn a σ) (hnow : σ.1 0 0 = nI t) (hf : fr = 0 ↔ (x2 = 0 ∨ ¬ x3 = 0)) : PR i tn a σ (wX0_follow N a (nI t) fr x4) (wX7_changesState N σ (nI i) x2 x3 x4) 3 := by
  have hs := h.1
  unfold SR at hs
  have e30 : a.1 3 0 = σ.1 39 i := by grind
  by_cases h2 : σ.1 39 i = 0
  · by_cases hc : fr = 0
    · refine PR.mk (m1 := 0) (m2 := 3) (by omega) AF.rf RF.rf FR.rf ?_ ?_ (p_19 (x4 := x4) hi hN (by omega) ht h hnow)
      · intro post hp
        unfold wX0_follow
        exact ⟨fun hh => absurd (by rw [e30]; exact h2) hh, fun _ => ⟨fun _ => hp, fun hh => absurd hc hh⟩⟩
      · intro post hp
        simp only [wX7_changesState, ci hi]
        refine ⟨vi hi, fun hh => absurd h2 hh, fun _ => ?_⟩
        unfold wX7_starts
        rcases hf.1 hc with h0 | h0
        · exact ⟨fun _ => hp, fun hh => absurd h0 hh⟩
        · exact ⟨fun _ => hp, fun _ => ⟨fun hh => absurd hh h0, fun _ => hp⟩⟩
    · obtain ⟨tn', a1, σ1, g1, g2, g3, g4, g5, g6, g7⟩ := p_top (N := N) (x2 := x2) (x3 := x3) hi h (fun hh => hc (hf.2 (.inl hh))) (Classical.byContradiction fun hh => hc (hf.2 (.inr hh)))
      refine PR.mk (m1 := 0) (m2 := 3) g1 g3 g4 g5 ?_ ?_ (p_19 (x4 := x4) hi hN (by omega) ht g2 (by rw [g4.now]; exact hnow))
      · intro post hp
        unfold wX0_follow
        exact ⟨fun hh => absurd (by rw [e30]; exact h2) hh, fun _ => ⟨fun hh => absurd hh hc, fun _ => g6 _ hp⟩⟩
      · intro post hp
        simp only [wX7_changesState, ci hi]
        exact ⟨vi hi, fun hh => absurd h2 hh, fun _ => g7 _ hp⟩
  · refine PR.mk (m1 := 0) (m2 := 3) (by omega) AF.rf RF.rf FR.rf ?_ ?_ (p_19 (x4 := x4) hi hN (by omega) ht h hnow)
    · intro post hp
      unfold wX0_follow
      exact ⟨fun _ => hp, fun hh => absurd (by rw [e30] at hh; exact hh) h2⟩
    · intro post hp
      simp only [wX7_changesState, ci hi]
      exact ⟨vi hi, fun _ => hp, fun hh => absurd hh h2⟩

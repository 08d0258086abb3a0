/-! the course, second half: watching the top, phases, PROBE -/
theorem nar0 : vp_nar .boolean 0 = 0 := by decide
theorem nar1 : vp_nar .boolean 1 = 1 := by decide
theorem CS.sr {i tn : Nat} {a : jSS} {σ : jRS} (h : CS i tn a σ) : SR i a σ := h.1
theorem p_top {N i tn : Nat} {a : jSS} {σ : jRS} {x2 x3 : Int32} (hi : i < 2) (h : CS i tn a σ) (h2 : ¬ x2 = 0) (h3 : x3 = 0) : PR i tn a σ (wX0_watchTop N a (a.1 0 12)) (wX7_starts N σ (nI i) x2 x3) 0 := by
  have hs := h.1
  unfold SR at hs
  have e12 : a.1 0 12 = σ.1 30 i := by grind
  have e6 : a.1 3 6 = σ.1 45 i := by grind
  have e7 : a.1 3 7 = σ.1 46 i := by grind
  have hb : σ.1 44 i = 0 ∨ σ.1 44 i = 1 := h.2.1.2.2.1
  by_cases hc : lg_cmp (100 * (σ.1 30 i).toInt64) (125 * (σ.1 45 i).toInt64) < 0
  · by_cases h4 : σ.1 46 i + 1 = 3
    · refine ⟨tn, aP (aP a 3 7 (a.1 3 7 + 1)) 3 5 1, rP (rP σ 46 i (σ.1 46 i + 1)) 44 i 1, by omega, ⟨?_, ?_, ?_⟩, ⟨?_, rfl⟩, ⟨?_, rfl⟩, (FR.put (own_s (by omega) (by omega) (by omega) (by omega))).tr (FR.put (own_s (by omega) (by omega) (by omega) (by omega))), ?_, ?_⟩
      · have := h.1; unfold SR at this ⊢; simp only [aP_rd, rP_rd, aP_2, rP_2]; grind
      · have := h.2.1; unfold CR at this ⊢; simp only [aP_rd, rP_rd]; grind
      · have := h.2.2; unfold TR at this ⊢; simp only [aP_rd, rP_rd]; grind
      · intro k j g1 g2 g3 g4; simp only [aP_rd]; grind
      · intro k j g1 g2; simp only [rP_rd]; grind
      · intro post hp
        unfold wX0_watchTop
        refine ⟨fun _ v ev a1 e1 => ⟨fun hh => absurd ?_ hh, fun _ a2 e2 => ?_⟩, fun hh => absurd (by rw [e12, e6]; exact hc) hh⟩
        · subst e1 ev; simp only [aP_rd]; rw [e7]; simpa using h4
        · subst e2 e1 ev; exact hp
      · intro post hp
        simp only [wX7_starts, wX7_starts_91, wX7_starts_96, ci hi, nar0, nar1]
        refine ⟨fun hh => absurd hh h2, fun _ => ⟨fun _ => ⟨vi hi, vi hi, fun _ => ⟨vi hi, fun v ev => ⟨vi hi, fun s es => ⟨vi hi, fun _ => ⟨vi hi, fun s2 es2 => ?_⟩, fun _ => ⟨vi hi, fun hh => absurd ?_ hh, fun _ => ⟨vi hi, fun s2 es2 => ?_⟩⟩⟩⟩⟩, fun hh => absurd hc hh⟩, fun hh => absurd h3 hh⟩⟩
        · subst es2 es ev; exact hp
        · subst es ev; simp only [rP_rd]; simpa using h4
        · subst es2 es ev; exact hp
    · refine ⟨tn, aP a 3 7 (a.1 3 7 + 1), rP (rP σ 46 i (σ.1 46 i + 1)) 44 i (σ.1 44 i), by omega, ⟨?_, ?_, ?_⟩, ⟨?_, rfl⟩, ⟨?_, rfl⟩, (FR.put (own_s (by omega) (by omega) (by omega) (by omega))).tr (FR.put (own_s (by omega) (by omega) (by omega) (by omega))), ?_, ?_⟩
      · have := h.1; unfold SR at this ⊢; simp only [aP_rd, rP_rd, aP_2, rP_2]; grind
      · have := h.2.1; unfold CR at this ⊢; simp only [aP_rd, rP_rd]; grind
      · have := h.2.2; unfold TR at this ⊢; simp only [aP_rd, rP_rd]; grind
      · intro k j g1 g2 g3 g4; simp only [aP_rd]; grind
      · intro k j g1 g2; simp only [rP_rd]; grind
      · intro post hp
        unfold wX0_watchTop
        refine ⟨fun _ v ev a1 e1 => ⟨fun _ => ?_, fun hh => absurd hh ?_⟩, fun hh => absurd (by rw [e12, e6]; exact hc) hh⟩
        · subst e1 ev; exact hp
        · subst e1 ev; simp only [aP_rd]; rw [e7]; simpa using h4
      · intro post hp
        simp only [wX7_starts, wX7_starts_91, wX7_starts_96, ci hi, nar0, nar1]
        refine ⟨fun hh => absurd hh h2, fun _ => ⟨fun _ => ⟨vi hi, vi hi, fun _ => ⟨vi hi, fun v ev => ⟨vi hi, fun s es => ⟨vi hi, fun hh => ⟨vi hi, fun s2 es2 => ?_⟩, fun hh => ⟨vi hi, fun _ => ⟨vi hi, fun s2 es2 => ?_⟩, fun h5 => absurd h5 ?_⟩⟩⟩⟩, fun hh => absurd hc hh⟩, fun hh => absurd h3 hh⟩⟩
        · have h44 : σ.1 44 i = 1 := by
            rcases hb with h0 | h0
            · exfalso; apply hh; subst es ev; simp only [rP_rd]; simpa using h0
            · exact h0
          subst es2 es ev; rw [h44] at hp; exact hp
        · have h44 : σ.1 44 i = 0 := by
            subst es ev; simp only [rP_rd] at hh; simpa using hh
          subst es2 es ev; rw [h44] at hp; exact hp
        · subst es ev; simp only [rP_rd]; simpa using h4
  · refine ⟨tn, aP (aP a 3 6 (a.1 0 12)) 3 7 0, rP (rP σ 45 i (σ.1 30 i)) 46 i 0, by omega, ⟨?_, ?_, ?_⟩, ⟨?_, rfl⟩, ⟨?_, rfl⟩, (FR.put (own_s (by omega) (by omega) (by omega) (by omega))).tr (FR.put (own_s (by omega) (by omega) (by omega) (by omega))), ?_, ?_⟩
    · have := h.1; unfold SR at this ⊢; simp only [aP_rd, rP_rd, aP_2, rP_2]; grind
    · have := h.2.1; unfold CR at this ⊢; simp only [aP_rd, rP_rd]; grind
    · have := h.2.2; unfold TR at this ⊢; simp only [aP_rd, rP_rd]; grind
    · intro k j g1 g2 g3 g4; simp only [aP_rd]; grind
    · intro k j g1 g2; simp only [rP_rd]; grind
    · intro post hp
      unfold wX0_watchTop
      refine ⟨fun hh => absurd (by rw [e12, e6] at hh; exact hh) hc, fun _ a1 e1 a2 e2 => ?_⟩
      subst e2 e1; exact hp
    · intro post hp
      simp only [wX7_starts, ci hi]
      refine ⟨fun hh => absurd hh h2, fun _ => ⟨fun _ => ⟨vi hi, vi hi, fun hh => absurd hh hc, fun _ => ⟨vi hi, fun v ev => ⟨vi hi, fun s es => ⟨vi hi, fun s2 es2 => ?_⟩⟩⟩⟩, fun hh => absurd h3 hh⟩⟩
      subst es2 es ev; exact hp
/-- whether a phase is over: one answer for both -/
theorem p_over {N i tn : Nat} {a : jSS} {σ : jRS} {now : Int32} (hi : i < 2) (h : CS i tn a σ) (hnow : σ.1 0 0 = now) (h39 : σ.1 39 i = 2) : ∃ r : Int32, (∀ post : Int32 → jSS → Prop, post r a → wX0_phaseIsOver N a now post) ∧ ∀ post : Int32 → jRS → Prop, post r σ → wX7_isPhaseOver N σ (nI i) post := by
  have hs := h.1
  unfold SR at hs
  have e12 : a.1 0 12 = σ.1 30 i := by grind
  have e13 : a.1 0 13 = σ.1 31 i := by grind
  have e31 : a.1 3 1 = σ.1 40 i := by grind
  have e32 : a.1 3 2 = σ.1 41 i := by grind
  have e33 : a.1 3 3 = σ.1 42 i := by grind
  have e06 : a.1 0 6 = σ.1 34 i := by grind
  have e11 : a.1 1 1 = σ.1 16 i := by grind
  have hl : σ.1 42 i ≤ σ.1 34 i := h.2.1.2.2.2.1
  have hne : ¬ (0 : Int32) = 1 := by decide
  have key : ∀ y : Int32, (y = 0 ∨ y = 1) → ∃ r : Int32, (∀ post : Int32 → jSS → Prop, post r a → wX0_phaseIsOver_18 N a y post) ∧ ∀ post : Int32 → jRS → Prop, post r σ → wX7_isPhaseOver_25 N σ (nI i) y post := by
    intro y hy
    by_cases h0 : σ.1 40 i = 0
    · by_cases hy0 : y = 0
      · refine ⟨0, fun post hp => ?_, fun post hp => ?_⟩
        · unfold wX0_phaseIsOver_18 wX0_phaseIsOver_51
          intro x4 _
          exact ⟨fun hh => absurd (by rw [e31]; exact h0) hh, fun _ => ⟨fun _ => ⟨fun _ => hp, fun hh => absurd hy0 hh⟩, fun _ => ⟨fun _ => hp, fun hh => absurd hy0 hh⟩⟩⟩
        · simp only [wX7_isPhaseOver_25, ci hi]
          exact ⟨vi hi, fun hh => absurd h0 hh, fun _ => ⟨fun _ => hp, fun hh => absurd hy0 hh⟩⟩
      · by_cases hc : 0 ≤ lg_cmp (4 * (σ.1 16 i).toInt64) (5 * jprod (σ.1 30 i) (σ.1 31 i))
        · refine ⟨1, fun post hp => ?_, fun post hp => ?_⟩
          · unfold wX0_phaseIsOver_18 wX0_phaseIsOver_51 wX0_phaseIsOver_81
            intro x4 hx
            rw [e11] at hx
            subst hx
            refine ⟨fun hh => absurd (by rw [e31]; exact h0) hh, fun _ => ⟨fun _ => ⟨fun hh => absurd hh hy0, fun _ => c_product ?_⟩, fun _ => ⟨fun hh => absurd hh hy0, fun _ => c_product ?_⟩⟩⟩
            · rw [e12, e13]; exact ⟨fun _ => hp, fun hh => absurd hc hh⟩
            · rw [e12, e13]; exact ⟨fun _ => hp, fun hh => absurd hc hh⟩
          · simp only [wX7_isPhaseOver_25, wX7_isPhaseOver_78, ci hi]
            exact ⟨vi hi, fun hh => absurd h0 hh, fun _ => ⟨fun hh => absurd hh hy0, fun _ => ⟨vi hi, q_product hi ⟨fun _ => hp, fun hh => absurd hc hh⟩⟩⟩⟩
        · by_cases hq : σ.1 34 i = σ.1 42 i
          · refine ⟨0, fun post hp => ?_, fun post hp => ?_⟩
            · unfold wX0_phaseIsOver_18 wX0_phaseIsOver_51 wX0_phaseIsOver_81
              intro x4 hx
              rw [e11] at hx
              subst hx
              refine ⟨fun hh => absurd (by rw [e31]; exact h0) hh, fun _ => ⟨fun _ => ⟨fun hh => absurd hh hy0, fun _ => c_product ?_⟩, fun hh => absurd (by rw [e06, e33]; exact hq) hh⟩⟩
              rw [e12, e13]; exact ⟨fun hh => absurd hh hc, fun _ => ⟨fun _ => hp, fun hh => absurd rfl hh⟩⟩
            · simp only [wX7_isPhaseOver_25, wX7_isPhaseOver_78, ci hi]
              exact ⟨vi hi, fun hh => absurd h0 hh, fun _ => ⟨fun hh => absurd hh hy0, fun _ => ⟨vi hi, q_product hi ⟨fun hh => absurd hh hc, fun _ => ⟨vi hi, vi hi, fun _ => hp, fun hh => absurd (by rw [hq]; exact Int32.le_refl _) hh⟩⟩⟩⟩⟩
          · refine ⟨1, fun post hp => ?_, fun post hp => ?_⟩
            · unfold wX0_phaseIsOver_18 wX0_phaseIsOver_51 wX0_phaseIsOver_81
              intro x4 hx
              rw [e11] at hx
              subst hx
              refine ⟨fun hh => absurd (by rw [e31]; exact h0) hh, fun _ => ⟨fun hh => absurd (by rw [e06, e33] at hh; exact hh) hq, fun _ => ⟨fun hh => absurd hh hy0, fun _ => c_product ?_⟩⟩⟩
              rw [e12, e13]; exact ⟨fun _ => hp, fun _ => ⟨fun hh => absurd hh (by decide), fun _ => hp⟩⟩
            · simp only [wX7_isPhaseOver_25, wX7_isPhaseOver_78, ci hi]
              exact ⟨vi hi, fun hh => absurd h0 hh, fun _ => ⟨fun hh => absurd hh hy0, fun _ => ⟨vi hi, q_product hi ⟨fun _ => hp, fun _ => ⟨vi hi, vi hi, fun hh => absurd (Int32.le_antisymm hh hl) hq, fun _ => hp⟩⟩⟩⟩⟩
    · by_cases h1 : σ.1 40 i = 1
      · by_cases hy0 : y = 0
        · by_cases hc : 0 < lg_cmp (σ.1 16 i).toInt64 (jprod (σ.1 30 i) (σ.1 31 i))
          · refine ⟨0, fun post hp => ?_, fun post hp => ?_⟩
            · unfold wX0_phaseIsOver_18 wX0_phaseIsOver_110
              intro x4 hx
              rw [e11] at hx
              subst hx
              refine ⟨fun _ => ⟨fun hh => absurd (by rw [e31]; exact h1) hh, fun _ => ⟨fun hh => absurd hy0 hh, fun _ => c_product ?_⟩⟩, fun hh => absurd (by rw [e31] at hh; exact hh) h0⟩
              rw [e12, e13]; exact ⟨fun _ => hp, fun hh => absurd hc hh⟩
            · simp only [wX7_isPhaseOver_25, wX7_isPhaseOver_114, ci hi]
              exact ⟨vi hi, fun _ => ⟨fun hh => absurd hy0 hh, fun _ => ⟨vi hi, fun hh => absurd h1 hh, fun _ => ⟨vi hi, q_product hi ⟨fun _ => hp, fun hh => absurd hc hh⟩⟩⟩⟩, fun hh => absurd hh h0⟩
          · refine ⟨1, fun post hp => ?_, fun post hp => ?_⟩
            · unfold wX0_phaseIsOver_18 wX0_phaseIsOver_110
              intro x4 hx
              rw [e11] at hx
              subst hx
              refine ⟨fun _ => ⟨fun hh => absurd (by rw [e31]; exact h1) hh, fun _ => ⟨fun hh => absurd hy0 hh, fun _ => c_product ?_⟩⟩, fun hh => absurd (by rw [e31] at hh; exact hh) h0⟩
              rw [e12, e13]; exact ⟨fun hh => absurd hh hc, fun _ => hp⟩
            · simp only [wX7_isPhaseOver_25, wX7_isPhaseOver_114, ci hi]
              exact ⟨vi hi, fun _ => ⟨fun hh => absurd hy0 hh, fun _ => ⟨vi hi, fun hh => absurd h1 hh, fun _ => ⟨vi hi, q_product hi ⟨fun hh => absurd hh hc, fun _ => hp⟩⟩⟩⟩, fun hh => absurd hh h0⟩
        · refine ⟨1, fun post hp => ?_, fun post hp => ?_⟩
          · unfold wX0_phaseIsOver_18 wX0_phaseIsOver_110
            intro x4 _
            exact ⟨fun _ => ⟨fun hh => absurd (by rw [e31]; exact h1) hh, fun _ => ⟨fun _ => hp, fun hh => absurd hh hy0⟩⟩, fun hh => absurd (by rw [e31] at hh; exact hh) h0⟩
          · simp only [wX7_isPhaseOver_25, wX7_isPhaseOver_114, ci hi]
            exact ⟨vi hi, fun _ => ⟨fun _ => hp, fun hh => absurd hh hy0⟩, fun hh => absurd hh h0⟩
      · refine ⟨y, fun post hp => ?_, fun post hp => ?_⟩
        · unfold wX0_phaseIsOver_18
          intro x4 _
          exact ⟨fun _ => ⟨fun _ => ⟨hy, hp⟩, fun hh => absurd (by rw [e31] at hh; exact hh) h1⟩, fun hh => absurd (by rw [e31] at hh; exact hh) h0⟩
        · simp only [wX7_isPhaseOver_25, wX7_isPhaseOver_114, ci hi]
          refine ⟨vi hi, fun _ => ⟨fun hh => ?_, fun hh => ⟨vi hi, fun _ => ?_, fun hh => absurd hh h1⟩⟩, fun hh => absurd hh h0⟩
          · rcases hy with rfl | rfl
            · exact absurd rfl hh
            · exact hp
          · subst hh; exact hp
  by_cases hc : now - σ.1 41 i < σ.1 31 i
  · obtain ⟨r, k1, k2⟩ := key 0 (.inl rfl)
    refine ⟨r, fun post hp => ?_, fun post hp => ?_⟩
    · unfold wX0_phaseIsOver
      rw [e32, e13]
      exact ⟨fun _ => k1 post hp, fun hh => absurd hc hh⟩
    · simp only [wX7_isPhaseOver, ci hi, hnow]
      exact ⟨vi hi, vi hi, fun _ => k2 post hp, fun hh => absurd hc hh⟩
  · obtain ⟨r, k1, k2⟩ := key 1 (.inr rfl)
    refine ⟨r, fun post hp => ?_, fun post hp => ?_⟩
    · unfold wX0_phaseIsOver
      rw [e32, e13]
      exact ⟨fun hh => absurd hh hc, fun _ => k1 post hp⟩
    · simp only [wX7_isPhaseOver, ci hi, hnow]
      exact ⟨vi hi, vi hi, fun hh => absurd hh hc, fun _ => k2 post hp⟩

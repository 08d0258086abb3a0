/-! questions -/
theorem jS0 : jisSender 0 = 1 := by decide
theorem jS1 : jisSender 1 = 1 := by decide
theorem jSi {i : Nat} (hi : i < 2) : ¬ jisSender (nI i) = 0 := by
  rcases (show i = 0 ∨ i = 1 by omega) with e | e
  · subst e; decide
  · subst e; decide
theorem jSn {p : Int32} (h0 : ¬ p = 0) (h1 : ¬ p = 1) : jisSender p = 0 := by
  unfold jisSender
  by_cases h : jwithin p 0 1 = 0
  · exact h
  · exfalso
    obtain ⟨n, g1, g2, g3⟩ := within_n (lo := 0) (hi := 1) (by omega) (by omega) h
    rcases (show n = 0 ∨ n = 1 by omega) with e | e
    · subst e; exact h0 g3
    · subst e; exact h1 g3
/-- sender i's knowledge, taken out -/
theorem JI.kn {fo0 fo1 gu k : Nat} {x : jXS} {a0 a1 : jSS} {b : jGS} {σ : jRS} (h : JI fo0 fo1 gu k x a0 a1 b σ) : ∃ t, x 3 = nI t ∧ σ.1 0 0 = nI t ∧ t ≤ 2000 * k ∧ ∀ i, i < 2 → ∃ m lf s d al L, SI i (if i = 0 then fo0 else fo1) t 0 m lf s d al L (if i = 0 then a0 else a1) b σ ∧ d ≤ t := by
  obtain ⟨t, m, lf, s, d, al, L, ql, w, rm, dl, hd, o, A, h1, h2, h3, h4⟩ := h
  refine ⟨t, h4.2.2.1, h4.2.1, h3, fun i hi => ⟨m i, lf i, s i, d i, al i, L i, ?_⟩⟩
  have := h4.1.1 i hi
  have h9 := h4.2.2.2.2.2.2.2.2 i hi
  refine ⟨?_, by omega⟩
  rcases (show i = 0 ∨ i = 1 by omega) with e | e
  · subst e; rw [if_pos rfl, if_pos rfl, ← h1]; exact this
  · subst e; rw [if_neg (by omega), if_neg (by omega), ← h2]; exact this
theorem SI.kb {i fo t k m lf s d al : Nat} {L : Nat → Nat} {a : jSS} {b : jGS} {σ : jRS} (h : SI i fo t k m lf s d al L a b σ) : ∃ (r T tn mk p ca M : Nat) (e V W dt : Nat → Nat), KB i d r T tn mk ca M e V W a σ ∧ DT i m d mk p dt σ ∧ ca + p ≤ 261 := h.2.1

def wOf (N : Nat) (a : jSS) (now x2 : Int32) (post : Int32 → jSS → Prop) : Prop := ((x2 = 0) → (post (a.1 3 0) a)) ∧ ((¬ x2 = 0) → (((x2 = 1) → (post (a.1 1 1) a)) ∧ ((¬ x2 = 1) → (((x2 = 2) → (post (a.1 0 7) a)) ∧ ((¬ x2 = 2) → (((x2 = 3) → (post (a.1 0 12) a)) ∧ ((¬ x2 = 3) → (((x2 = 4) → (post (a.1 0 13) a)) ∧ ((¬ x2 = 4) → (((x2 = 5) → (wX5_product N a (fun r_53 a_54 => post r_53.toInt32 a_54))) ∧ ((¬ x2 = 5) → (((x2 = 6) → (wX5_window N a (fun r_56 a_57 => post r_56.toInt32 a_57))) ∧ ((¬ x2 = 6) → (((x2 = 7) → (wX0_gain N a (fun r_59 a_60 => post r_59 a_60))) ∧ ((¬ x2 = 7) → (((x2 = 8) → (post (a.1 0 10) a)) ∧ ((¬ x2 = 8) → (((x2 = 9) → (post (a.1 0 6) a)) ∧ ((¬ x2 = 9) → (((x2 = 10) → (post (a.1 0 3) a)) ∧ ((¬ x2 = 10) → (((x2 = 11) → (post (a.1 0 9) a)) ∧ ((¬ x2 = 11) → (((x2 = 12) → (post (a.1 0 4) a)) ∧ ((¬ x2 = 12) → (((x2 = 13) → (∀ m_67 : Int64, m_67 = jmaxl 0 (a.2.1 - (1000 * (now.toInt64))) → post m_67.toInt32 a)) ∧ ((¬ x2 = 13) → (post ((-2)) a))))))))))))))))))))))))))))
theorem q_ahead {N i : Nat} {σ : jRS} {post : Int32 → jRS → Prop} (hi : i < 2) (h : post (jmaxl 0 (σ.2 i - 1000 * (σ.1 0 0).toInt64)).toInt32 σ) : wX7_ahead N σ (nI i) post := by
  simp only [wX7_ahead, ci hi]
  refine ⟨vi hi, fun x2 e2 => ?_⟩
  rw [← e2] at h
  rw [lg_cmp_le]
  unfold jmaxl at h
  refine ⟨fun g => ?_, fun g => ?_⟩
  · rcases lg_tri x2 0 with c | c | c
    · rw [if_pos c] at h; exact h
    · rw [if_neg (by rw [c]; exact Int64.lt_irrefl), c] at h; exact h
    · exact absurd c (lg_le_not_lt g)
  · rw [if_neg (fun c => g (Int64.le_of_lt c))] at h; exact h
theorem v_of {N i : Nat} {a : jSS} {σ : jRS} {now x2 : Int32} (hi : i < 2) (hS : SR i a σ) (hPS : PS i σ) (hnow : σ.1 0 0 = now) : ∃ v, (∀ P : Int32 → jSS → Prop, P v a → wOf N a now x2 P) ∧ ∀ post : Int32 → jRS → Prop, post v σ → wX7_ofSender N σ (nI i) x2 post := by
  unfold SR at hS
  have e30 : a.1 3 0 = σ.1 39 i := by grind
  have e31 : a.1 3 0 = 2 → a.1 3 1 = σ.1 40 i := by grind
  have e31g : jgn (a.1 3 0) (a.1 3 1) = jgn (σ.1 39 i) (σ.1 40 i) := by rw [jgn_c e31, e30]
  have e12 : a.1 0 12 = σ.1 30 i := by grind
  have e13 : a.1 0 13 = σ.1 31 i := by grind
  have en : a.2.1 = σ.2 i := by grind
  obtain ⟨ph, hph, hph2⟩ := hPS.2
  by_cases c0 : x2 = 0
  · refine ⟨a.1 3 0, fun P hP => ?_, fun post hp => ?_⟩
    · unfold wOf
      exact ⟨fun _ => hP, fun hh => absurd c0 hh⟩
    · simp only [wX7_ofSender, ci hi]
      exact (fun r er => ⟨fun _ => ⟨fun _ => ⟨vi hi, by rw [← (show a.1 3 0 = σ.1 39 i by grind)]; exact hp⟩, fun hh => absurd c0 hh⟩, fun hh => absurd (by rw [← er]; exact hh) (jSi hi)⟩)
  · skip
    by_cases c1 : x2 = 1
    · refine ⟨a.1 1 1, fun P hP => ?_, fun post hp => ?_⟩
      · unfold wOf
        exact ⟨fun hh => absurd hh c0, fun _ => ⟨fun _ => hP, fun hh => absurd c1 hh⟩⟩
      · simp only [wX7_ofSender, ci hi]
        exact (fun r er => ⟨fun _ => ⟨fun hh => absurd hh c0, fun _ => ⟨fun _ => ⟨vi hi, by rw [← (show a.1 1 1 = σ.1 16 i by grind)]; exact hp⟩, fun hh => absurd c1 hh⟩⟩, fun hh => absurd (by rw [← er]; exact hh) (jSi hi)⟩)
    · skip
      by_cases c2 : x2 = 2
      · refine ⟨a.1 0 7, fun P hP => ?_, fun post hp => ?_⟩
        · unfold wOf
          exact ⟨fun hh => absurd hh c0, fun _ => ⟨fun hh => absurd hh c1, fun _ => ⟨fun _ => hP, fun hh => absurd c2 hh⟩⟩⟩
        · simp only [wX7_ofSender, ci hi]
          exact (fun r er => ⟨fun _ => ⟨fun hh => absurd hh c0, fun _ => ⟨fun hh => absurd hh c1, fun _ => ⟨fun _ => ⟨vi hi, by rw [← (show a.1 0 7 = σ.1 25 i by grind)]; exact hp⟩, fun hh => absurd c2 hh⟩⟩⟩, fun hh => absurd (by rw [← er]; exact hh) (jSi hi)⟩)
      · skip
        by_cases c3 : x2 = 3
        · refine ⟨a.1 0 12, fun P hP => ?_, fun post hp => ?_⟩
          · unfold wOf
            exact ⟨fun hh => absurd hh c0, fun _ => ⟨fun hh => absurd hh c1, fun _ => ⟨fun hh => absurd hh c2, fun _ => ⟨fun _ => hP, fun hh => absurd c3 hh⟩⟩⟩⟩
          · simp only [wX7_ofSender, ci hi]
            exact (fun r er => ⟨fun _ => ⟨fun hh => absurd hh c0, fun _ => ⟨fun hh => absurd hh c1, fun _ => ⟨fun hh => absurd hh c2, fun _ => ⟨fun _ => ⟨vi hi, by rw [← (show a.1 0 12 = σ.1 30 i by grind)]; exact hp⟩, fun hh => absurd c3 hh⟩⟩⟩⟩, fun hh => absurd (by rw [← er]; exact hh) (jSi hi)⟩)
        · skip
          by_cases c4 : x2 = 4
          · refine ⟨a.1 0 13, fun P hP => ?_, fun post hp => ?_⟩
            · unfold wOf
              exact ⟨fun hh => absurd hh c0, fun _ => ⟨fun hh => absurd hh c1, fun _ => ⟨fun hh => absurd hh c2, fun _ => ⟨fun hh => absurd hh c3, fun _ => ⟨fun _ => hP, fun hh => absurd c4 hh⟩⟩⟩⟩⟩
            · simp only [wX7_ofSender, ci hi]
              exact (fun r er => ⟨fun _ => ⟨fun hh => absurd hh c0, fun _ => ⟨fun hh => absurd hh c1, fun _ => ⟨fun hh => absurd hh c2, fun _ => ⟨fun hh => absurd hh c3, fun _ => ⟨fun _ => ⟨vi hi, by rw [← (show a.1 0 13 = σ.1 31 i by grind)]; exact hp⟩, fun hh => absurd c4 hh⟩⟩⟩⟩⟩, fun hh => absurd (by rw [← er]; exact hh) (jSi hi)⟩)
          · skip
            by_cases c5 : x2 = 5
            · refine ⟨(jprod (a.1 0 12) (a.1 0 13)).toInt32, fun P hP => ?_, fun post hp => ?_⟩
              · unfold wOf
                exact ⟨fun hh => absurd hh c0, fun _ => ⟨fun hh => absurd hh c1, fun _ => ⟨fun hh => absurd hh c2, fun _ => ⟨fun hh => absurd hh c3, fun _ => ⟨fun hh => absurd hh c4, fun _ => ⟨fun _ => c_product hP, fun hh => absurd c5 hh⟩⟩⟩⟩⟩⟩
              · simp only [wX7_ofSender, ci hi]
                exact (fun r er => ⟨fun _ => ⟨fun hh => absurd hh c0, fun _ => ⟨fun hh => absurd hh c1, fun _ => ⟨fun hh => absurd hh c2, fun _ => ⟨fun hh => absurd hh c3, fun _ => ⟨fun hh => absurd hh c4, fun _ => ⟨fun _ => q_product hi (by rw [← e12, ← e13]; exact hp), fun hh => absurd c5 hh⟩⟩⟩⟩⟩⟩, fun hh => absurd (by rw [← er]; exact hh) (jSi hi)⟩)
            · skip
              by_cases c6 : x2 = 6
              · refine ⟨(jwin (a.1 3 0) (a.1 0 12) (a.1 0 13)).toInt32, fun P hP => ?_, fun post hp => ?_⟩
                · unfold wOf
                  exact ⟨fun hh => absurd hh c0, fun _ => ⟨fun hh => absurd hh c1, fun _ => ⟨fun hh => absurd hh c2, fun _ => ⟨fun hh => absurd hh c3, fun _ => ⟨fun hh => absurd hh c4, fun _ => ⟨fun hh => absurd hh c5, fun _ => ⟨fun _ => c_window hP, fun hh => absurd c6 hh⟩⟩⟩⟩⟩⟩⟩
                · simp only [wX7_ofSender, ci hi]
                  exact (fun r er => ⟨fun _ => ⟨fun hh => absurd hh c0, fun _ => ⟨fun hh => absurd hh c1, fun _ => ⟨fun hh => absurd hh c2, fun _ => ⟨fun hh => absurd hh c3, fun _ => ⟨fun hh => absurd hh c4, fun _ => ⟨fun hh => absurd hh c5, fun _ => ⟨fun _ => q_window hi (by rw [← e30, ← e12, ← e13]; exact hp), fun hh => absurd c6 hh⟩⟩⟩⟩⟩⟩⟩, fun hh => absurd (by rw [← er]; exact hh) (jSi hi)⟩)
              · skip
                by_cases c7 : x2 = 7
                · refine ⟨nI (jgn (a.1 3 0) (a.1 3 1)), fun P hP => ?_, fun post hp => ?_⟩
                  · unfold wOf
                    exact ⟨fun hh => absurd hh c0, fun _ => ⟨fun hh => absurd hh c1, fun _ => ⟨fun hh => absurd hh c2, fun _ => ⟨fun hh => absurd hh c3, fun _ => ⟨fun hh => absurd hh c4, fun _ => ⟨fun hh => absurd hh c5, fun _ => ⟨fun hh => absurd hh c6, fun _ => ⟨fun _ => c_gain hph (fun g => by rw [e31 g]; exact hph2) hP, fun hh => absurd c7 hh⟩⟩⟩⟩⟩⟩⟩⟩
                  · simp only [wX7_ofSender, ci hi]
                    exact (fun r er => ⟨fun _ => ⟨fun hh => absurd hh c0, fun _ => ⟨fun hh => absurd hh c1, fun _ => ⟨fun hh => absurd hh c2, fun _ => ⟨fun hh => absurd hh c3, fun _ => ⟨fun hh => absurd hh c4, fun _ => ⟨fun hh => absurd hh c5, fun _ => ⟨fun hh => absurd hh c6, fun _ => ⟨fun _ => q_gain hi hPS (by rw [← e31g]; exact hp), fun hh => absurd c7 hh⟩⟩⟩⟩⟩⟩⟩⟩, fun hh => absurd (by rw [← er]; exact hh) (jSi hi)⟩)
                · skip
                  by_cases c8 : x2 = 8
                  · refine ⟨a.1 0 10, fun P hP => ?_, fun post hp => ?_⟩
                    · unfold wOf
                      exact ⟨fun hh => absurd hh c0, fun _ => ⟨fun hh => absurd hh c1, fun _ => ⟨fun hh => absurd hh c2, fun _ => ⟨fun hh => absurd hh c3, fun _ => ⟨fun hh => absurd hh c4, fun _ => ⟨fun hh => absurd hh c5, fun _ => ⟨fun hh => absurd hh c6, fun _ => ⟨fun hh => absurd hh c7, fun _ => ⟨fun _ => hP, fun hh => absurd c8 hh⟩⟩⟩⟩⟩⟩⟩⟩⟩
                    · simp only [wX7_ofSender, ci hi]
                      exact (fun r er => ⟨fun _ => ⟨fun hh => absurd hh c0, fun _ => ⟨fun hh => absurd hh c1, fun _ => ⟨fun hh => absurd hh c2, fun _ => ⟨fun hh => absurd hh c3, fun _ => ⟨fun hh => absurd hh c4, fun _ => ⟨fun hh => absurd hh c5, fun _ => ⟨fun hh => absurd hh c6, fun _ => ⟨fun hh => absurd hh c7, fun _ => ⟨fun _ => ⟨vi hi, by rw [← (show a.1 0 10 = σ.1 28 i by grind)]; exact hp⟩, fun hh => absurd c8 hh⟩⟩⟩⟩⟩⟩⟩⟩⟩, fun hh => absurd (by rw [← er]; exact hh) (jSi hi)⟩)
                  · skip
                    by_cases c9 : x2 = 9
                    · refine ⟨a.1 0 6, fun P hP => ?_, fun post hp => ?_⟩
                      · unfold wOf
                        exact ⟨fun hh => absurd hh c0, fun _ => ⟨fun hh => absurd hh c1, fun _ => ⟨fun hh => absurd hh c2, fun _ => ⟨fun hh => absurd hh c3, fun _ => ⟨fun hh => absurd hh c4, fun _ => ⟨fun hh => absurd hh c5, fun _ => ⟨fun hh => absurd hh c6, fun _ => ⟨fun hh => absurd hh c7, fun _ => ⟨fun hh => absurd hh c8, fun _ => ⟨fun _ => hP, fun hh => absurd c9 hh⟩⟩⟩⟩⟩⟩⟩⟩⟩⟩
                      · simp only [wX7_ofSender, ci hi]
                        exact (fun r er => ⟨fun _ => ⟨fun hh => absurd hh c0, fun _ => ⟨fun hh => absurd hh c1, fun _ => ⟨fun hh => absurd hh c2, fun _ => ⟨fun hh => absurd hh c3, fun _ => ⟨fun hh => absurd hh c4, fun _ => ⟨fun hh => absurd hh c5, fun _ => ⟨fun hh => absurd hh c6, fun _ => ⟨fun hh => absurd hh c7, fun _ => ⟨fun hh => absurd hh c8, fun _ => ⟨fun _ => ⟨vi hi, by rw [← (show a.1 0 6 = σ.1 34 i by grind)]; exact hp⟩, fun hh => absurd c9 hh⟩⟩⟩⟩⟩⟩⟩⟩⟩⟩, fun hh => absurd (by rw [← er]; exact hh) (jSi hi)⟩)
                    · skip
                      by_cases c10 : x2 = 10
                      · refine ⟨a.1 0 3, fun P hP => ?_, fun post hp => ?_⟩
                        · unfold wOf
                          exact ⟨fun hh => absurd hh c0, fun _ => ⟨fun hh => absurd hh c1, fun _ => ⟨fun hh => absurd hh c2, fun _ => ⟨fun hh => absurd hh c3, fun _ => ⟨fun hh => absurd hh c4, fun _ => ⟨fun hh => absurd hh c5, fun _ => ⟨fun hh => absurd hh c6, fun _ => ⟨fun hh => absurd hh c7, fun _ => ⟨fun hh => absurd hh c8, fun _ => ⟨fun hh => absurd hh c9, fun _ => ⟨fun _ => hP, fun hh => absurd c10 hh⟩⟩⟩⟩⟩⟩⟩⟩⟩⟩⟩
                        · simp only [wX7_ofSender, ci hi]
                          exact (fun r er => ⟨fun _ => ⟨fun hh => absurd hh c0, fun _ => ⟨fun hh => absurd hh c1, fun _ => ⟨fun hh => absurd hh c2, fun _ => ⟨fun hh => absurd hh c3, fun _ => ⟨fun hh => absurd hh c4, fun _ => ⟨fun hh => absurd hh c5, fun _ => ⟨fun hh => absurd hh c6, fun _ => ⟨fun hh => absurd hh c7, fun _ => ⟨fun hh => absurd hh c8, fun _ => ⟨fun hh => absurd hh c9, fun _ => ⟨fun _ => ⟨vi hi, by rw [← (show a.1 0 3 = σ.1 23 i by grind)]; exact hp⟩, fun hh => absurd c10 hh⟩⟩⟩⟩⟩⟩⟩⟩⟩⟩⟩, fun hh => absurd (by rw [← er]; exact hh) (jSi hi)⟩)
                      · skip
                        by_cases c11 : x2 = 11
                        · refine ⟨a.1 0 9, fun P hP => ?_, fun post hp => ?_⟩
                          · unfold wOf
                            exact ⟨fun hh => absurd hh c0, fun _ => ⟨fun hh => absurd hh c1, fun _ => ⟨fun hh => absurd hh c2, fun _ => ⟨fun hh => absurd hh c3, fun _ => ⟨fun hh => absurd hh c4, fun _ => ⟨fun hh => absurd hh c5, fun _ => ⟨fun hh => absurd hh c6, fun _ => ⟨fun hh => absurd hh c7, fun _ => ⟨fun hh => absurd hh c8, fun _ => ⟨fun hh => absurd hh c9, fun _ => ⟨fun hh => absurd hh c10, fun _ => ⟨fun _ => hP, fun hh => absurd c11 hh⟩⟩⟩⟩⟩⟩⟩⟩⟩⟩⟩⟩
                          · simp only [wX7_ofSender, ci hi]
                            exact (fun r er => ⟨fun _ => ⟨fun hh => absurd hh c0, fun _ => ⟨fun hh => absurd hh c1, fun _ => ⟨fun hh => absurd hh c2, fun _ => ⟨fun hh => absurd hh c3, fun _ => ⟨fun hh => absurd hh c4, fun _ => ⟨fun hh => absurd hh c5, fun _ => ⟨fun hh => absurd hh c6, fun _ => ⟨fun hh => absurd hh c7, fun _ => ⟨fun hh => absurd hh c8, fun _ => ⟨fun hh => absurd hh c9, fun _ => ⟨fun hh => absurd hh c10, fun _ => ⟨fun _ => ⟨vi hi, by rw [← (show a.1 0 9 = σ.1 27 i by grind)]; exact hp⟩, fun hh => absurd c11 hh⟩⟩⟩⟩⟩⟩⟩⟩⟩⟩⟩⟩, fun hh => absurd (by rw [← er]; exact hh) (jSi hi)⟩)
                        · skip
                          by_cases c12 : x2 = 12
                          · refine ⟨a.1 0 4, fun P hP => ?_, fun post hp => ?_⟩
                            · unfold wOf
                              exact ⟨fun hh => absurd hh c0, fun _ => ⟨fun hh => absurd hh c1, fun _ => ⟨fun hh => absurd hh c2, fun _ => ⟨fun hh => absurd hh c3, fun _ => ⟨fun hh => absurd hh c4, fun _ => ⟨fun hh => absurd hh c5, fun _ => ⟨fun hh => absurd hh c6, fun _ => ⟨fun hh => absurd hh c7, fun _ => ⟨fun hh => absurd hh c8, fun _ => ⟨fun hh => absurd hh c9, fun _ => ⟨fun hh => absurd hh c10, fun _ => ⟨fun hh => absurd hh c11, fun _ => ⟨fun _ => hP, fun hh => absurd c12 hh⟩⟩⟩⟩⟩⟩⟩⟩⟩⟩⟩⟩⟩
                            · simp only [wX7_ofSender, ci hi]
                              exact (fun r er => ⟨fun _ => ⟨fun hh => absurd hh c0, fun _ => ⟨fun hh => absurd hh c1, fun _ => ⟨fun hh => absurd hh c2, fun _ => ⟨fun hh => absurd hh c3, fun _ => ⟨fun hh => absurd hh c4, fun _ => ⟨fun hh => absurd hh c5, fun _ => ⟨fun hh => absurd hh c6, fun _ => ⟨fun hh => absurd hh c7, fun _ => ⟨fun hh => absurd hh c8, fun _ => ⟨fun hh => absurd hh c9, fun _ => ⟨fun hh => absurd hh c10, fun _ => ⟨fun hh => absurd hh c11, fun _ => ⟨fun _ => ⟨vi hi, by rw [← (show a.1 0 4 = σ.1 24 i by grind)]; exact hp⟩, fun hh => absurd c12 hh⟩⟩⟩⟩⟩⟩⟩⟩⟩⟩⟩⟩⟩, fun hh => absurd (by rw [← er]; exact hh) (jSi hi)⟩)
                          · skip
                            by_cases c13 : x2 = 13
                            · refine ⟨(jmaxl 0 (a.2.1 - 1000 * now.toInt64)).toInt32, fun P hP => ?_, fun post hp => ?_⟩
                              · unfold wOf
                                exact ⟨fun hh => absurd hh c0, fun _ => ⟨fun hh => absurd hh c1, fun _ => ⟨fun hh => absurd hh c2, fun _ => ⟨fun hh => absurd hh c3, fun _ => ⟨fun hh => absurd hh c4, fun _ => ⟨fun hh => absurd hh c5, fun _ => ⟨fun hh => absurd hh c6, fun _ => ⟨fun hh => absurd hh c7, fun _ => ⟨fun hh => absurd hh c8, fun _ => ⟨fun hh => absurd hh c9, fun _ => ⟨fun hh => absurd hh c10, fun _ => ⟨fun hh => absurd hh c11, fun _ => ⟨fun hh => absurd hh c12, fun _ => ⟨fun _ => (fun m em => by rw [em]; exact hP), fun hh => absurd c13 hh⟩⟩⟩⟩⟩⟩⟩⟩⟩⟩⟩⟩⟩⟩
                              · simp only [wX7_ofSender, ci hi]
                                exact (fun r er => ⟨fun _ => ⟨fun hh => absurd hh c0, fun _ => ⟨fun hh => absurd hh c1, fun _ => ⟨fun hh => absurd hh c2, fun _ => ⟨fun hh => absurd hh c3, fun _ => ⟨fun hh => absurd hh c4, fun _ => ⟨fun hh => absurd hh c5, fun _ => ⟨fun hh => absurd hh c6, fun _ => ⟨fun hh => absurd hh c7, fun _ => ⟨fun hh => absurd hh c8, fun _ => ⟨fun hh => absurd hh c9, fun _ => ⟨fun hh => absurd hh c10, fun _ => ⟨fun hh => absurd hh c11, fun _ => ⟨fun hh => absurd hh c12, fun _ => ⟨fun _ => q_ahead hi (by rw [← en, hnow]; exact hp), fun hh => absurd c13 hh⟩⟩⟩⟩⟩⟩⟩⟩⟩⟩⟩⟩⟩⟩, fun hh => absurd (by rw [← er]; exact hh) (jSi hi)⟩)
                            · skip
                              refine ⟨(-2), fun P hP => ?_, fun post hp => ?_⟩
                              · unfold wOf
                                exact ⟨fun hh => absurd hh c0, fun _ => ⟨fun hh => absurd hh c1, fun _ => ⟨fun hh => absurd hh c2, fun _ => ⟨fun hh => absurd hh c3, fun _ => ⟨fun hh => absurd hh c4, fun _ => ⟨fun hh => absurd hh c5, fun _ => ⟨fun hh => absurd hh c6, fun _ => ⟨fun hh => absurd hh c7, fun _ => ⟨fun hh => absurd hh c8, fun _ => ⟨fun hh => absurd hh c9, fun _ => ⟨fun hh => absurd hh c10, fun _ => ⟨fun hh => absurd hh c11, fun _ => ⟨fun hh => absurd hh c12, fun _ => ⟨fun hh => absurd hh c13, fun _ => hP⟩⟩⟩⟩⟩⟩⟩⟩⟩⟩⟩⟩⟩⟩
                              · simp only [wX7_ofSender, ci hi]
                                exact (fun r er => ⟨fun _ => ⟨fun hh => absurd hh c0, fun _ => ⟨fun hh => absurd hh c1, fun _ => ⟨fun hh => absurd hh c2, fun _ => ⟨fun hh => absurd hh c3, fun _ => ⟨fun hh => absurd hh c4, fun _ => ⟨fun hh => absurd hh c5, fun _ => ⟨fun hh => absurd hh c6, fun _ => ⟨fun hh => absurd hh c7, fun _ => ⟨fun hh => absurd hh c8, fun _ => ⟨fun hh => absurd hh c9, fun _ => ⟨fun hh => absurd hh c10, fun _ => ⟨fun hh => absurd hh c11, fun _ => ⟨fun hh => absurd hh c12, fun _ => ⟨fun hh => absurd hh c13, fun _ => hp⟩⟩⟩⟩⟩⟩⟩⟩⟩⟩⟩⟩⟩⟩, fun hh => absurd (by rw [← er]; exact hh) (jSi hi)⟩)

theorem SI.ps {i fo t k m lf s d al : Nat} {L : Nat → Nat} {a : jSS} {b : jGS} {σ : jRS} (h : SI i fo t k m lf s d al L a b σ) : SR i a σ ∧ PS i σ ∧ CR i a σ ∧ ∃ tn, tn ≤ 3 * d ∧ TR i tn a σ := by
  obtain ⟨r, T, tn, mk, p, ca, M, e, V, W, dt, hB, hD, hc⟩ := h.kb
  exact ⟨hB.1.1, ⟨hB.1.2.1.2.2.2.2, hB.1.2.1.2.1⟩, hB.1.2.1, tn, hB.2.1, hB.1.2.2⟩
theorem t_ofSender {N fo0 fo1 gu k : Nat} {x : jXS} {a0 a1 : jSS} {b : jGS} {σ : jRS} {p1 p2 : Int32} (h : JI fo0 fo1 gu k x a0 a1 b σ) : wX6_ofSender N x a0 a1 b p1 p2 (fun r x2 z0 z1 zb => wX7_ofSender N σ p1 p2 (fun r2 σ2 => r = r2 ∧ JI fo0 fo1 gu (k + 1) x2 z0 z1 zb σ2)) := by
  have hs := h.suc
  obtain ⟨t, h3, h0, hk, hK⟩ := h.kn
  obtain ⟨m0, lf0, s0, d0, al0, L0, k0, kd0⟩ := hK 0 (by omega)
  obtain ⟨m1, lf1, s1, d1, al1, L1, k1, kd1⟩ := hK 1 (by omega)
  rw [if_pos rfl, if_pos rfl] at k0
  rw [if_neg (by omega), if_neg (by omega)] at k1
  obtain ⟨v0, f0, g0⟩ := v_of (N := N) (now := x 3) (x2 := p2) (by omega) k0.ps.1 k0.ps.2.1 (by rw [h0, h3])
  obtain ⟨v1, f1, g1⟩ := v_of (N := N) (now := x 3) (x2 := p2) (by omega) k1.ps.1 k1.ps.2.1 (by rw [h0, h3])
  rw [nI_0] at g0
  unfold wX6_ofSender
  refine ⟨fun c => ?_, fun c => ⟨fun c1 => ?_, fun c1 => ?_⟩⟩
  · subst c
    exact f0 (fun r z0 => wX7_ofSender N σ 0 p2 (fun r2 σ2 => r = r2 ∧ JI fo0 fo1 gu (k + 1) x z0 a1 b σ2)) (g0 _ ⟨rfl, hs⟩)
  · subst c1
    exact f1 (fun r z1 => wX7_ofSender N σ 1 p2 (fun r2 σ2 => r = r2 ∧ JI fo0 fo1 gu (k + 1) x a0 z1 b σ2)) (g1 _ ⟨rfl, hs⟩)
  · unfold wX7_ofSender
    intro r er
    rw [jSn c c1] at er
    exact ⟨fun hh => absurd er hh, fun _ => ⟨rfl, hs⟩⟩

theorem t_many {N fo0 fo1 gu k : Nat} {x : jXS} {a0 a1 : jSS} {b : jGS} {σ : jRS} {p1 : Int32} (h : JI fo0 fo1 gu k x a0 a1 b σ) : wX6_many N x a0 a1 b p1 (fun r x2 z0 z1 zb => wX7_many N σ p1 (fun r2 σ2 => r = r2 ∧ JI fo0 fo1 gu (k + 1) x2 z0 z1 zb σ2)) := by
  have hs := h.suc
  obtain ⟨t, h3, h0, hk, hK⟩ := h.kn
  obtain ⟨m0, lf0, s0, d0, al0, L0, k0, kd0⟩ := hK 0 (by omega)
  obtain ⟨m1, lf1, s1, d1, al1, L1, k1, kd1⟩ := hK 1 (by omega)
  rw [if_pos rfl, if_pos rfl] at k0
  rw [if_neg (by omega), if_neg (by omega)] at k1
  obtain ⟨q0, _, _, tn0, _, tr0⟩ := k0.ps
  obtain ⟨q1, _, _, tn1, _, tr1⟩ := k1.ps
  obtain ⟨t', m, lf, s, d, al, L, ql, w, rm, dl, hd, o, A, z1, z2, z3, z4⟩ := h
  have e15 : a0.1 0 7 + a1.1 0 7 = σ.1 0 15 := by
    rw [z4.2.2.2.2.2.2.2.1, ← z1, ← z2, (z4.1.1 0 (by omega)).2.1.m.2.1, (z4.1.1 1 (by omega)).2.1.m.2.1, nI_add]
  have e14 := z4.2.2.2.2.1
  unfold SR at q0 q1
  have l0 : a0.1 0 6 = σ.1 34 0 := by grind
  have l1 : a1.1 0 6 = σ.1 34 1 := by grind
  have u0 : a0.1 3 8 = σ.1 47 0 := by rw [tr0.1.1, tr0.2.1]
  have u1 : a1.1 3 8 = σ.1 47 1 := by rw [tr1.1.1, tr1.2.1]
  have c00 : (0 : Int32).toNatClampNeg = 0 := by decide
  have c11 : (1 : Int32).toNatClampNeg = 1 := by decide
  unfold wX6_many wX7_many
  rw [c00, c11]
  refine ⟨fun c0 => ?_, fun c0 => ⟨fun c1 => ?_, fun c1 => ⟨fun c2 => ?_, fun c2 => ⟨fun c3 => ?_, fun c3 => ⟨fun c4 => ?_, fun c4 => ?_⟩⟩⟩⟩⟩
  · exact ⟨fun _ => ⟨by rw [h3, h0], hs⟩, fun hh => absurd c0 hh⟩
  · exact ⟨fun hh => absurd hh c0, fun _ => ⟨fun _ => ⟨e15, hs⟩, fun hh => absurd c1 hh⟩⟩
  · exact ⟨fun hh => absurd hh c0, fun _ => ⟨fun hh => absurd hh c1, fun _ => ⟨fun _ => ⟨by rw [l0, l1], hs⟩, fun hh => absurd c2 hh⟩⟩⟩
  · exact ⟨fun hh => absurd hh c0, fun _ => ⟨fun hh => absurd hh c1, fun _ => ⟨fun hh => absurd hh c2, fun _ => ⟨fun _ => ⟨by rw [u0, u1], hs⟩, fun hh => absurd c3 hh⟩⟩⟩⟩
  · exact ⟨fun hh => absurd hh c0, fun _ => ⟨fun hh => absurd hh c1, fun _ => ⟨fun hh => absurd hh c2, fun _ => ⟨fun hh => absurd hh c3, fun _ => ⟨fun _ => ⟨e14, hs⟩, fun hh => absurd c4 hh⟩⟩⟩⟩⟩
  · exact ⟨fun hh => absurd hh c0, fun _ => ⟨fun hh => absurd hh c1, fun _ => ⟨fun hh => absurd hh c2, fun _ => ⟨fun hh => absurd hh c3, fun _ => ⟨fun hh => absurd hh c4, fun _ => ⟨rfl, hs⟩⟩⟩⟩⟩⟩
theorem t_ofGate {N fo0 fo1 gu k : Nat} {x : jXS} {a0 a1 : jSS} {b : jGS} {σ : jRS} {p1 : Int32} (h : JI fo0 fo1 gu k x a0 a1 b σ) : wX6_ofGate N x a0 a1 b p1 (fun r x2 z0 z1 zb => wX7_ofGate N σ p1 (fun r2 σ2 => r = r2 ∧ JI fo0 fo1 gu (k + 1) x2 z0 z1 zb σ2)) := by
  have hs := h.suc
  obtain ⟨t', m, lf, s, d, al, L, ql, w, rm, dl, hd, o, A, z1, z2, z3, z4⟩ := h
  obtain ⟨g1, g2, g3, g4, g5, g6, g7⟩ := z4.1.2.2.2.2.1
  have l0 : a0.1 0 5 = σ.1 13 0 := by rw [← z1]; exact (z4.1.1 0 (by omega)).2.2.2.2.2.1
  have l1 : a1.1 0 5 = σ.1 13 1 := by rw [← z2]; exact (z4.1.1 1 (by omega)).2.2.2.2.2.1
  have hw : gI b 7 = σ.1 0 8 := by rw [z4.1.2.2.2.1.1, z4.1.2.1.1]
  have hsrv := z4.1.2.1.srv z4.1.2.2.1
  have hQC := z4.1.2.2.2.1
  have i2 : vp_in ((2 : Int32) - 2) 3 := by rw [show (2 : Int32) - 2 = nI 0 by decide]; exact vp_in_nI (by omega) (by omega)
  have i3 : vp_in ((3 : Int32) - 2) 3 := by rw [show (3 : Int32) - 2 = nI 1 by decide]; exact vp_in_nI (by omega) (by omega)
  have i4 : vp_in ((4 : Int32) - 2) 3 := by rw [show (4 : Int32) - 2 = nI 2 by decide]; exact vp_in_nI (by omega) (by omega)
  have j2 : ((2 : Int32) - 2).toNatClampNeg = 0 := by decide
  have j3 : ((3 : Int32) - 2).toNatClampNeg = 1 := by decide
  have j4 : ((4 : Int32) - 2).toNatClampNeg = 2 := by decide
  unfold wX6_ofGate wX7_ofGate wX6_ofGate_67
  refine ⟨fun c0 => ?_, fun c0 => ⟨fun c1 => ?_, fun c1 => ⟨fun c2 => ?_, fun c2 => ⟨fun c3 => ?_, fun c3 => ⟨fun c4 => ?_, fun c4 => ⟨fun c5 => ?_, fun c5 => ⟨fun c6 => ?_, fun c6 => ?_⟩⟩⟩⟩⟩⟩⟩
  · exact ⟨fun _ => ⟨hw, hs⟩, fun hh => absurd c0 hh⟩
  · refine ⟨fun hn r er => ⟨fun hh => absurd hh c0, fun _ => ⟨fun _ => ⟨fun _ => ⟨er, hs⟩, fun h3 => ?_⟩, fun hh => absurd c1 hh⟩⟩, fun q hq r er => ⟨fun hh => absurd hh c0, fun _ => ⟨fun _ => ⟨fun h3 => ?_, fun _ => ⟨er, hs⟩⟩, fun hh => absurd c1 hh⟩⟩⟩
    · exfalso
      apply h3
      rw [hsrv]
      by_cases g : ql = 0
      · exact g
      · have := hQC.2.2.2.2 0 (by omega)
        unfold qcl at this
        rw [if_pos rfl, hn] at this
        exact absurd this (by simp)
    · have := hQC.2.2.2.1 (hsrv.1 h3)
      rw [this] at hq
      exact absurd hq (by simp)
  · subst c2
    exact ⟨fun hh => absurd hh c0, fun _ => ⟨fun hh => absurd hh c1, fun _ => ⟨fun _ => ⟨i2, by rw [j2]; exact ⟨l0, hs⟩⟩, fun hh => absurd rfl hh⟩⟩⟩
  · subst c3
    exact ⟨fun hh => absurd hh c0, fun _ => ⟨fun hh => absurd hh c1, fun _ => ⟨fun hh => absurd hh c2, fun _ => ⟨fun _ => ⟨i3, by rw [j3]; exact ⟨l1, hs⟩⟩, fun hh => absurd rfl hh⟩⟩⟩⟩
  · subst c4
    exact ⟨fun hh => absurd hh c0, fun _ => ⟨fun hh => absurd hh c1, fun _ => ⟨fun hh => absurd hh c2, fun _ => ⟨fun hh => absurd hh c3, fun _ => ⟨fun _ => ⟨i4, by rw [j4]; exact ⟨g6, hs⟩⟩, fun hh => absurd rfl hh⟩⟩⟩⟩⟩
  · exact ⟨fun hh => absurd hh c0, fun _ => ⟨fun hh => absurd hh c1, fun _ => ⟨fun hh => absurd hh c2, fun _ => ⟨fun hh => absurd hh c3, fun _ => ⟨fun hh => absurd hh c4, fun _ => ⟨fun _ => ⟨g7, hs⟩, fun hh => absurd c5 hh⟩⟩⟩⟩⟩⟩
  · exact ⟨fun hh => absurd hh c0, fun _ => ⟨fun hh => absurd hh c1, fun _ => ⟨fun hh => absurd hh c2, fun _ => ⟨fun hh => absurd hh c3, fun _ => ⟨fun hh => absurd hh c4, fun _ => ⟨fun hh => absurd hh c5, fun _ => ⟨fun _ => ⟨g5, hs⟩, fun hh => absurd c6 hh⟩⟩⟩⟩⟩⟩⟩
  · exact ⟨fun hh => absurd hh c0, fun _ => ⟨fun hh => absurd hh c1, fun _ => ⟨fun hh => absurd hh c2, fun _ => ⟨fun hh => absurd hh c3, fun _ => ⟨fun hh => absurd hh c4, fun _ => ⟨fun hh => absurd hh c5, fun _ => ⟨fun hh => absurd hh c6, fun _ => ⟨rfl, hs⟩⟩⟩⟩⟩⟩⟩⟩

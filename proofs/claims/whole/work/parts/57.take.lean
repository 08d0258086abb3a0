/-! an answer: from the least round on -/
def wTc (N : Nat) (a : jSS) (b : jGS) (q : Nat) (now x3 : Int32) (P : jSS → jGS → Prop) : Prop := ((a.1 0 13 = ((-9))) → (wX5_take_115 N a b q now x3 P)) ∧ ((¬ (a.1 0 13) = ((-9))) → ((((now - (a.1 0 14)) ≤ 1000) → (wX5_take_115 N a b q now x3 P)) ∧ ((¬ (now - (a.1 0 14)) ≤ 1000) → (wX5_take_116 N a b q now x3 1 P))))
def wTr (N : Nat) (σ : jRS) (x1 x4 x7 x8 : Int32) (post : jRS → Prop) : Prop := vp_in x1 2 ∧ (((σ.1 31 x1.toNatClampNeg) = ((-9))) → (wX7_takes_254 N σ x1 x4 x7 x8 post)) ∧ ((¬ (σ.1 31 x1.toNatClampNeg) = ((-9))) → (vp_in x1 2 ∧ ((((σ.1 0 0) - (σ.1 32 x1.toNatClampNeg)) ≤ 1000) → (wX7_takes_254 N σ x1 x4 x7 x8 post)) ∧ ((¬ ((σ.1 0 0) - (σ.1 32 x1.toNatClampNeg)) ≤ 1000) → (wX7_takes_255 N σ x1 x4 x7 x8 1 post))))
/-- what an answer's end may touch -/
def TF (i : Nat) (a a' : jSS) (σ σ' : jRS) : Prop := (∀ k j, k ≠ 3 → k ≠ 7 → k ≠ 8 → ¬ (k = 0 ∧ (j = 13 ∨ j = 14)) → a'.1 k j = a.1 k j) ∧ a'.2 = a.2 ∧ (∀ k j, k ≠ 31 → k ≠ 32 → k < 39 → σ'.1 k j = σ.1 k j) ∧ σ'.2 = σ.2 ∧ FR i σ σ'
theorem p_164 {N i tn t q : Nat} {a : jSS} {b : jGS} {σ : jRS} {x3 x4 x7 : Int32} (hi : i < 2) (hN : 20 ≤ N) (htn : tn + 2 < 2 ^ 30) (ht : t < 2 ^ 30) (h : CS i tn a σ) (hnow : σ.1 0 0 = nI t) (hq : q ∈ gLP b) (h5 : gF b q 5 = x7) : ∃ tn' a' σ', tn' ≤ tn + 3 ∧ CS i tn' a' σ' ∧ TF i a a' σ σ' ∧ (∀ P : jSS → jGS → Prop, P a' b → wX5_take_160 N a b q (nI t) x3 x4 P) ∧ ∀ post, post σ' → wX7_takes_312 N σ (nI i) x7 x3 x4 post := by
  have go : ∀ fr : Int32, (fr = 0 ↔ (x3 = 0 ∨ ¬ x7 = 0)) → (∀ P : jSS → jGS → Prop, wX5_take_182 N a b x4 fr (nI t) P → wX5_take_160 N a b q (nI t) x3 x4 P) → ∃ tn' a' σ', tn' ≤ tn + 3 ∧ CS i tn' a' σ' ∧ TF i a a' σ σ' ∧ (∀ P : jSS → jGS → Prop, P a' b → wX5_take_160 N a b q (nI t) x3 x4 P) ∧ ∀ post, post σ' → wX7_takes_312 N σ (nI i) x7 x3 x4 post := by
    intro fr hf hw
    obtain ⟨tn', a', σ', g1, g2, g3, g4, g5, g6, g7⟩ := p_follow (N := N) (fr := fr) (x2 := x3) (x3 := x7) (x4 := x4) hi hN htn ht h hnow hf
    refine ⟨tn', a', σ', g1, g2, ⟨fun k j q1 q2 q3 q4 => g3.1 k j q1 q2 q3 (by omega), g3.2, fun k j q1 q2 q3 => g4.1 k j q2 q3, g4.2, g5⟩, fun P hP => hw P ?_, fun post hp => ?_⟩
    · unfold wX5_take_182; exact g6 _ hP
    · unfold wX7_takes_312; exact g7 _ hp
  by_cases h3 : x3 = 0
  · refine go 0 ⟨fun _ => .inl h3, fun _ => rfl⟩ (fun P hP => ?_)
    unfold wX5_take_160 wX5_take_181
    exact ⟨fun _ => hP, fun hh => absurd h3 hh⟩
  · by_cases h7 : x7 = 0
    · refine go 1 ⟨fun hh => absurd hh (by decide), fun hh => ?_⟩ (fun P hP => ?_)
      · rcases hh with hh | hh
        · exact absurd hh h3
        · exact absurd h7 hh
      · unfold wX5_take_160
        exact ⟨fun hh => absurd hh h3, fun _ => ⟨hq, fun hh => absurd (by rw [h5]; exact h7) hh, fun _ => hP⟩⟩
    · refine go 0 ⟨fun _ => .inr h7, fun _ => rfl⟩ (fun P hP => ?_)
      unfold wX5_take_160 wX5_take_181
      exact ⟨fun hh => absurd hh h3, fun _ => ⟨hq, fun _ => hP, fun hh => absurd (by rw [h5] at hh; exact hh) h7⟩⟩
theorem p_153 {N i tn t q : Nat} {a : jSS} {b : jGS} {σ : jRS} {x3 x4 x5 x7 sn : Int32} (hi : i < 2) (hN : 20 ≤ N) (htn : tn + 2 < 2 ^ 30) (ht : t < 2 ^ 30) (h : CS i tn a σ) (hnow : σ.1 0 0 = nI t) (hq : q ∈ gLP b) (h5 : gF b q 5 = x7) (hx5 : x5 = nI t - sn) : ∃ tn' a' σ', tn' ≤ tn + 3 ∧ CS i tn' a' σ' ∧ TF i a a' σ σ' ∧ (∀ P : jSS → jGS → Prop, P a' b → wX5_take_149 N a b q (nI t) x3 x4 x5 P) ∧ ∀ post, post σ' → wX7_takes_289 N σ (nI i) sn x7 x3 x4 post := by
  have hC : CS i tn (aP (aP a 0 13 x5) 0 14 (nI t)) (rP (rP σ 31 i x5) 32 i (nI t)) := by
    refine ⟨?_, ?_, ?_⟩
    · have := h.1; unfold SR at this ⊢; simp only [aP_rd, rP_rd, aP_2, rP_2]; grind
    · have := h.2.1; unfold CR at this ⊢; simp only [aP_rd, rP_rd]; grind
    · have := h.2.2; unfold TR at this ⊢; simp only [aP_rd, rP_rd]; grind
  obtain ⟨tn', a', σ', g1, g2, g3, g4, g5⟩ := p_164 (N := N) (q := q) (b := b) (x3 := x3) (x4 := x4) (x7 := x7) hi hN htn ht hC (by simp only [rP_rd]; grind) hq h5
  obtain ⟨w1, w2, w3, w4, w5⟩ := g3
  refine ⟨tn', a', σ', g1, g2, ⟨fun k j q1 q2 q3 q4 => ?_, ?_, fun k j q1 q2 q3 => ?_, ?_, ((FR.put (by unfold own; grind)).tr (FR.put (by unfold own; grind))).tr w5⟩, fun P hP => ?_, fun post hp => ?_⟩
  · rw [w1 k j q1 q2 q3 q4]; simp only [aP_rd]; grind
  · rw [w2]; rfl
  · rw [w3 k j q1 q2 q3]; simp only [rP_rd]; grind
  · rw [w4]; rfl
  · unfold wX5_take_149
    intro a1 e1 a2 e2
    subst e2 e1
    exact g4 P hP
  · simp only [wX7_takes_289, ci hi, hnow]
    intro v ev
    refine ⟨vi hi, fun s1 e1 v2 ev2 => ⟨vi hi, fun s2 e2 => ?_⟩⟩
    have ev2' : v2 = nI t := by rw [ev2, e1]; simp only [rP_rd]; grind
    have ev' : v = x5 := by rw [ev, hx5]
    subst ev' ev2' e2 e1
    exact g5 post hp
theorem p_120 {N i tn t q : Nat} {a : jSS} {b : jGS} {σ : jRS} {x3 y0 x7 sn : Int32} (hi : i < 2) (hN : 20 ≤ N) (htn : tn + 2 < 2 ^ 30) (ht : t < 2 ^ 30) (h : CS i tn a σ) (hnow : σ.1 0 0 = nI t) (hq : q ∈ gLP b) (h5 : gF b q 5 = x7) (h2 : gF b q 2 = sn) : ∃ tn' a' σ', tn' ≤ tn + 3 ∧ CS i tn' a' σ' ∧ TF i a a' σ σ' ∧ (∀ P : jSS → jGS → Prop, P a' b → wX5_take_116 N a b q (nI t) x3 y0 P) ∧ ∀ post, post σ' → wX7_takes_255 N σ (nI i) sn x7 x3 y0 post := by
  have hs := h.1
  unfold SR at hs
  have e13 : a.1 0 13 = σ.1 31 i := by grind
  obtain ⟨tn1, a1, σ1, g1, g2, g3, g4, g5⟩ := p_153 (N := N) (q := q) (b := b) (x3 := x3) (x4 := y0) (x5 := nI t - sn) (x7 := x7) (sn := sn) hi hN htn ht h hnow hq h5 rfl
  by_cases c1 : σ.1 31 i = -9
  · refine ⟨tn1, a1, σ1, g1, g2, g3, fun P hP => ?_, fun post hp => ?_⟩
    · unfold wX5_take_116
      refine ⟨hq, fun x5 e5 => ?_⟩
      rw [h2] at e5; subst e5
      exact ⟨fun _ => g4 P hP, fun hh => absurd (by rw [e13]; exact c1) hh⟩
    · simp only [wX7_takes_255, ci hi]
      exact ⟨vi hi, fun _ => g5 post hp, fun hh => absurd c1 hh⟩
  · by_cases c2 : y0 = 0
    · by_cases c3 : σ.1 31 i < nI t - sn
      · obtain ⟨tn2, a2, σ2, k1, k2, k3, k4, k5⟩ := p_164 (N := N) (q := q) (b := b) (x3 := x3) (x4 := y0) (x7 := x7) hi hN htn ht h hnow hq h5
        refine ⟨tn2, a2, σ2, k1, k2, k3, fun P hP => ?_, fun post hp => ?_⟩
        · unfold wX5_take_116
          refine ⟨hq, fun x5 e5 => ?_⟩
          rw [h2] at e5; subst e5
          exact ⟨fun hh => absurd (by rw [e13] at hh; exact hh) c1, fun _ => ⟨fun hh => absurd c2 hh, fun _ => ⟨fun _ => k4 P hP, fun hh => absurd (by rw [e13]; exact c3) hh⟩⟩⟩
        · simp only [wX7_takes_255, ci hi, hnow]
          exact ⟨vi hi, fun hh => absurd hh c1, fun _ => ⟨fun hh => absurd c2 hh, fun _ => ⟨vi hi, fun _ => k5 post hp, fun hh => absurd c3 hh⟩⟩⟩
      · refine ⟨tn1, a1, σ1, g1, g2, g3, fun P hP => ?_, fun post hp => ?_⟩
        · unfold wX5_take_116
          refine ⟨hq, fun x5 e5 => ?_⟩
          rw [h2] at e5; subst e5
          exact ⟨fun hh => absurd (by rw [e13] at hh; exact hh) c1, fun _ => ⟨fun hh => absurd c2 hh, fun _ => ⟨fun hh => absurd (by rw [e13] at hh; exact hh) c3, fun _ => g4 P hP⟩⟩⟩
        · simp only [wX7_takes_255, ci hi, hnow]
          exact ⟨vi hi, fun hh => absurd hh c1, fun _ => ⟨fun hh => absurd c2 hh, fun _ => ⟨vi hi, fun hh => absurd hh c3, fun _ => g5 post hp⟩⟩⟩
    · refine ⟨tn1, a1, σ1, g1, g2, g3, fun P hP => ?_, fun post hp => ?_⟩
      · unfold wX5_take_116
        refine ⟨hq, fun x5 e5 => ?_⟩
        rw [h2] at e5; subst e5
        exact ⟨fun hh => absurd (by rw [e13] at hh; exact hh) c1, fun _ => ⟨fun _ => g4 P hP, fun hh => absurd hh c2⟩⟩
      · simp only [wX7_takes_255, ci hi, hnow]
        exact ⟨vi hi, fun hh => absurd hh c1, fun _ => ⟨fun _ => g5 post hp, fun hh => absurd hh c2⟩⟩
theorem p_tail {N i tn t q : Nat} {a : jSS} {b : jGS} {σ : jRS} {x3 x7 sn : Int32} (hi : i < 2) (hN : 20 ≤ N) (htn : tn + 2 < 2 ^ 30) (ht : t < 2 ^ 30) (h : CS i tn a σ) (hnow : σ.1 0 0 = nI t) (hq : q ∈ gLP b) (h5 : gF b q 5 = x7) (h2 : gF b q 2 = sn) : ∃ tn' a' σ', tn' ≤ tn + 3 ∧ CS i tn' a' σ' ∧ TF i a a' σ σ' ∧ (∀ P : jSS → jGS → Prop, P a' b → wTc N a b q (nI t) x3 P) ∧ ∀ post, post σ' → wTr N σ (nI i) sn x7 x3 post := by
  have hs := h.1
  unfold SR at hs
  have e13 : a.1 0 13 = σ.1 31 i := by grind
  have e14 : a.1 0 14 = σ.1 32 i := by grind
  by_cases c1 : σ.1 31 i = -9 ∨ nI t - σ.1 32 i ≤ 1000
  · obtain ⟨tn1, a1, σ1, g1, g2, g3, g4, g5⟩ := p_120 (N := N) (q := q) (b := b) (x3 := x3) (y0 := 0) (x7 := x7) (sn := sn) hi hN htn ht h hnow hq h5 h2
    refine ⟨tn1, a1, σ1, g1, g2, g3, fun P hP => ?_, fun post hp => ?_⟩
    · unfold wTc wX5_take_115
      rw [e13, e14]
      exact ⟨fun _ => g4 P hP, fun hh => ⟨fun _ => g4 P hP, fun h6 => by rcases c1 with c1 | c1; exact absurd c1 hh; exact absurd c1 h6⟩⟩
    · simp only [wTr, wX7_takes_254, ci hi, hnow]
      exact ⟨vi hi, fun _ => g5 post hp, fun hh => ⟨vi hi, fun _ => g5 post hp, fun h6 => by rcases c1 with c1 | c1; exact absurd c1 hh; exact absurd c1 h6⟩⟩
  · obtain ⟨tn1, a1, σ1, g1, g2, g3, g4, g5⟩ := p_120 (N := N) (q := q) (b := b) (x3 := x3) (y0 := 1) (x7 := x7) (sn := sn) hi hN htn ht h hnow hq h5 h2
    refine ⟨tn1, a1, σ1, g1, g2, g3, fun P hP => ?_, fun post hp => ?_⟩
    · unfold wTc
      rw [e13, e14]
      exact ⟨fun hh => absurd (.inl hh) c1, fun _ => ⟨fun hh => absurd (.inr hh) c1, fun _ => g4 P hP⟩⟩
    · simp only [wTr, ci hi, hnow]
      exact ⟨vi hi, fun hh => absurd (.inl hh) c1, fun _ => ⟨vi hi, fun hh => absurd (.inr hh) c1, fun _ => g5 post hp⟩⟩

/-! the course, both sides step by step -/
def CS (i tn : Nat) (a : jSS) (σ : jRS) : Prop := SR i a σ ∧ CR i a σ ∧ TR i tn a σ
def AF (a a' : jSS) : Prop := (∀ k j, k ≠ 3 → k ≠ 7 → k ≠ 8 → ¬ (k = 0 ∧ j = 14) → a'.1 k j = a.1 k j) ∧ a'.2 = a.2
def RF (σ σ' : jRS) : Prop := (∀ k j, k ≠ 32 → k < 39 → σ'.1 k j = σ.1 k j) ∧ σ'.2 = σ.2
theorem AF.rf {a : jSS} : AF a a := ⟨fun _ _ _ _ _ _ => rfl, rfl⟩
theorem RF.rf {σ : jRS} : RF σ σ := ⟨fun _ _ _ _ => rfl, rfl⟩
theorem AF.tr {a b c : jSS} (h1 : AF a b) (h2 : AF b c) : AF a c := ⟨fun k j g1 g2 g3 g4 => (h2.1 k j g1 g2 g3 g4).trans (h1.1 k j g1 g2 g3 g4), h2.2.trans h1.2⟩
theorem RF.tr {a b c : jRS} (h1 : RF a b) (h2 : RF b c) : RF a c := ⟨fun k j g1 g2 => (h2.1 k j g1 g2).trans (h1.1 k j g1 g2), h2.2.trans h1.2⟩
def PR (i tn : Nat) (a : jSS) (σ : jRS) (wc : (jSS → Prop) → Prop) (wr : (jRS → Prop) → Prop) (m : Nat) : Prop := ∃ (tn' : Nat) (a' : jSS) (σ' : jRS), tn' ≤ tn + m ∧ CS i tn' a' σ' ∧ AF a a' ∧ RF σ σ' ∧ FR i σ σ' ∧ (∀ post, post a' → wc post) ∧ ∀ post, post σ' → wr post
theorem PR.mk {i tn tn1 m1 m2 : Nat} {a a1 : jSS} {σ σ1 : jRS} {wc wc1 : (jSS → Prop) → Prop} {wr wr1 : (jRS → Prop) → Prop} (h1 : tn1 ≤ tn + m1) (hA : AF a a1) (hR : RF σ σ1) (hF : FR i σ σ1) (hc : ∀ post, wc1 post → wc post) (hr : ∀ post, wr1 post → wr post) (h : PR i tn1 a1 σ1 wc1 wr1 m2) : PR i tn a σ wc wr (m1 + m2) := by
  obtain ⟨tn', a', σ', g1, g2, g3, g4, g5, g6, g7⟩ := h
  exact ⟨tn', a', σ', by omega, g2, hA.tr g3, hR.tr g4, hF.tr g5, fun post hp => hc post (g6 post hp), fun post hp => hr post (g7 post hp)⟩
def jprod (best least : Int32) : Int64 := if least = -9 then 0 else best.toInt64 * least.toInt64 / 1000
theorem c_product {N : Nat} {a : jSS} {post : Int64 → jSS → Prop} (h : post (jprod (a.1 0 12) (a.1 0 13)) a) : wX5_product N a post := by
  unfold wX5_product
  unfold jprod at h
  refine ⟨fun g => ?_, fun g => ?_⟩
  · rw [if_neg g] at h; exact h
  · rw [if_pos g] at h; exact h
theorem q_product {N i : Nat} {σ : jRS} {post : Int64 → jRS → Prop} (hi : i < 2) (h : post (jprod (σ.1 30 i) (σ.1 31 i)) σ) : wX7_product N σ (nI i) post := by
  unfold wX7_product
  rw [ci hi]
  unfold jprod at h
  refine ⟨vi hi, fun g => ⟨vi hi, vi hi, ?_⟩, fun g => ?_⟩
  · rw [if_neg g] at h; exact h
  · rw [if_pos g] at h; exact h
theorem c_beginPhase {N : Nat} {a : jSS} {ph now : Int32} {post : jSS → Prop} (h : post (aP (aP (aP a 3 1 ph) 3 2 now) 3 3 (a.1 0 6))) : wX0_beginPhase N a ph now post := by
  unfold wX0_beginPhase
  intro a1 e1 a2 e2 v ev a3 e3
  subst e1 e2 ev e3
  simpa [aP_rd] using h
theorem q_comesToPhase {N i : Nat} {σ : jRS} {ph : Int32} {post : jRS → Prop} (hi : i < 2) (h : post (rP (rP (rP σ 40 i ph) 41 i (σ.1 0 0)) 42 i (σ.1 34 i))) : wX7_comesToPhase N σ (nI i) ph post := by
  unfold wX7_comesToPhase
  rw [ci hi]
  refine ⟨vi hi, fun s1 e1 v ev => ⟨vi hi, fun s2 e2 => ⟨vi hi, fun v2 ev2 => ⟨vi hi, fun s3 e3 => ?_⟩⟩⟩⟩
  subst e1 ev e2 ev2 e3
  simpa [rP_rd] using h
theorem p_phase {i tn : Nat} {a : jSS} {σ : jRS} {now : Int32} {ph : Nat} (hi : i < 2) (h : CS i tn a σ) (hnow : σ.1 0 0 = now) (hph : ph < 8) : CS i tn (aP (aP (aP a 3 1 (nI ph)) 3 2 now) 3 3 (a.1 0 6)) (rP (rP (rP σ 40 i (nI ph)) 41 i (σ.1 0 0)) 42 i (σ.1 34 i)) ∧ AF a (aP (aP (aP a 3 1 (nI ph)) 3 2 now) 3 3 (a.1 0 6)) ∧ RF σ (rP (rP (rP σ 40 i (nI ph)) 41 i (σ.1 0 0)) 42 i (σ.1 34 i)) ∧ FR i σ (rP (rP (rP σ 40 i (nI ph)) 41 i (σ.1 0 0)) 42 i (σ.1 34 i)) := by
  obtain ⟨h1, h2, h3⟩ := h
  refine ⟨⟨?_, ?_, ?_⟩, ⟨?_, rfl⟩, ⟨?_, rfl⟩, ?_⟩
  · unfold SR at h1 ⊢
    simp only [aP_rd, rP_rd, aP_2, rP_2]
    grind
  · unfold CR at h2 ⊢
    refine ⟨?_, ⟨ph, hph, ?_⟩, ?_, ?_, ?_⟩
    · simp only [aP_rd, rP_rd]; grind
    · simp only [rP_rd]; grind
    · simp only [rP_rd]; grind
    · simp only [rP_rd]
      have : σ.1 34 i ≤ σ.1 34 i := Int32.le_refl _
      grind
    · simp only [rP_rd]; grind
  · obtain ⟨g1, g2, g3⟩ := h3
    refine ⟨by simp only [aP_rd]; grind, by simp only [rP_rd]; grind, fun j hj hj2 => ?_⟩
    have := g3 j hj hj2
    simp only [aP_rd, rP_rd]
    grind
  · intro k j g1 g2 g3 g4; simp only [aP_rd]; grind
  · intro k j g1 g2; simp only [rP_rd]; grind
  · exact ((FR.put (by unfold own; grind)).tr (FR.put (by unfold own; grind))).tr (FR.put (by unfold own; grind))
/-- a turn keeps what the course needs, if the new state isn't PROBE, or the ends are both none -/
theorem p_turn {N i tn : Nat} {a : jSS} {σ : jRS} {st now : Int32} (hi : i < 2) (hN : 20 ≤ N) (htn : tn < 2 ^ 30) (h : CS i tn a σ) (hnow : σ.1 0 0 = now) (hst : ¬ st = 3) (hst2 : st = 0 ∨ st = 1) : ∃ (a1 : jSS) (σ1 : jRS), CS i (tn + 1) a1 σ1 ∧ AF a a1 ∧ RF σ σ1 ∧ FR i σ σ1 ∧ a1.1 3 0 = st ∧ (∀ post, post a1 → wX0_enter N a st now post) ∧ (∀ post, post σ1 → wX7_comesTo N σ (nI i) st post) := by
  obtain ⟨h1, h2, h3⟩ := h
  obtain ⟨a1, σ1, g1, g2, g3, g4, g5, g6, g7, g8, g9, g10, -⟩ := p_enter (N := N) (st := st) hi hN htn h3 hnow
  refine ⟨a1, σ1, ⟨?_, ?_, g1⟩, ⟨fun k j q1 q2 q3 q4 => g3 k j (by omega) (by omega) q2 q3, g4⟩, ⟨fun k j q1 q2 => g6 k j (by omega) (by omega) (by omega) (by omega), g7⟩, g2, g5, g9, g10⟩
  · have hs2 : ¬ a1.1 3 0 = 2 := by rcases hst2 with h | h <;> rw [g5, h] <;> decide
    unfold SR at h1 ⊢
    rw [g4, g7]
    grind
  · unfold CR at h2 ⊢
    grind
def CR4 (i : Nat) (σ : jRS) : Prop := (∃ ph : Nat, ph < 8 ∧ σ.1 40 i = nI ph) ∧ (σ.1 44 i = 0 ∨ σ.1 44 i = 1) ∧ σ.1 42 i ≤ σ.1 34 i
theorem CR.to4 {i : Nat} {a : jSS} {σ : jRS} (h : CR i a σ) : CR4 i σ := ⟨h.2.1, h.2.2.1, h.2.2.2.1⟩
/-- a turn into CRUISE: the class's one step, the reference's two -/
theorem p_cruise {N i tn : Nat} {a : jSS} {σ : jRS} {now : Int32} (hi : i < 2) (hN : 20 ≤ N) (htn : tn < 2 ^ 30) (h1 : SR i a σ) (h2 : CR4 i σ) (h3 : TR i tn a σ) (hnow : σ.1 0 0 = now) : ∃ (a1 : jSS) (σ1 : jRS), CS i (tn + 1) a1 σ1 ∧ AF a a1 ∧ RF σ σ1 ∧ FR i σ σ1 ∧ a1.1 3 0 = 2 ∧ (∀ post, post a1 → wX0_enter N a 2 now post) ∧ (∀ post, post σ1 → wX7_comesTo N σ (nI i) 2 (fun s => wX7_comesToPhase N s (nI i) 2 post)) := by
  obtain ⟨a1, σ1, g1, g2, g3, g4, g5, g6, g7, g8, g9, g10, g11, g12, g13, g14⟩ := p_enter (N := N) (st := 2) hi hN htn h3 hnow
  have f0 : σ1.1 0 0 = σ.1 0 0 := g6 0 0 (by omega) (by omega) (by omega) (by omega)
  have f34 : σ1.1 34 i = σ.1 34 i := g6 34 i (by omega) (by omega) (by omega) (by omega)
  have f06 : a.1 0 6 = σ.1 34 i := h1.2.2.1
  have e2 : (2 : Int32) = nI 2 := rfl
  refine ⟨a1, rP (rP (rP σ1 40 i (nI 2)) 41 i (σ1.1 0 0)) 42 i (σ1.1 34 i), ⟨?_, ?_, ?_⟩, ⟨fun k j q1 q2 q3 q4 => g3 k j (by omega) (by omega) q2 q3, g4⟩, ⟨?_, g7⟩, g2.tr (((FR.put (by unfold own; grind)).tr (FR.put (by unfold own; grind))).tr (FR.put (by unfold own; grind))), g5, g9, fun post hp => g10 _ (q_comesToPhase hi hp)⟩
  · rw [f0, f34]
    rw [e2] at g11
    unfold SR at h1 ⊢
    simp only [rP_rd, rP_2]
    rw [g4, g7]
    grind
  · unfold CR4 at h2
    rw [f0, f34]
    unfold CR
    refine ⟨?_, ⟨2, by omega, ?_⟩, ?_, ?_, ?_⟩
    · rw [g5]; intro hh; exact absurd hh (by decide)
    · simp only [rP_rd]; grind
    · simp only [rP_rd]; grind
    · simp only [rP_rd]
      have : σ.1 34 i ≤ σ.1 34 i := Int32.le_refl _
      grind
    · simp only [rP_rd]; grind
  · obtain ⟨k1, k2, k3⟩ := g1
    refine ⟨k1, by simp only [rP_rd]; grind, fun j hj hj2 => ?_⟩
    have := k3 j hj hj2
    simp only [rP_rd]
    grind
  · intro k j q1 q2
    have := g6 k j (by omega) (by omega) (by omega) (by omega)
    simp only [rP_rd]; grind

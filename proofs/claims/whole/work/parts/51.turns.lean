theorem n12 (i p : Nat) : (12 : Int32) * nI i + nI p = nI (12 * i + p) := by
  rw [show (12 : Int32) = nI 12 from by decide, pk_mul, nI_add]
theorem cl {n : Nat} (h : n < 2 ^ 31) : (nI n).toNatClampNeg = n := nI_clamp h
/-- the reference's last writes of a turn -/
theorem q_comesTo_99 {N i p : Nat} {σ : jRS} {st : Int32} {post : jRS → Prop} (hi : i < 2) (hp : p < 12)
    (h : post (rP (rP (rP (rP σ 48 (12 * i + p) (σ.1 0 0)) 49 (12 * i + p) st) 47 i (σ.1 47 i + 1)) 39 i st)) : wX7_comesTo_99 N σ (nI i) st (nI p) (12 * nI i) post := by
  unfold wX7_comesTo_99
  intro x3 e3 v ev
  subst ev
  rw [n12] at e3
  subst e3
  have hb : 12 * i + p < 24 := by omega
  rw [cl (show 12 * i + p < 2 ^ 31 by omega), ci hi]
  refine ⟨vp_in_nI hb (by omega), fun s1 e1 => ⟨vp_in_nI hb (by omega), fun s2 e2 => ⟨vi hi, fun v2 e3 => ⟨vi hi, fun s3 e4 => ⟨vi hi, fun s4 e5 => ?_⟩⟩⟩⟩⟩
  subst e1 e2 e3 e4 e5
  simpa [rP_rd] using h
/-- what the shift of the turns' rows does, from place j on -/
def shT (i j : Nat) (σ σ' : jRS) : Prop := (∀ k q, ¬ (k = 48 ∨ k = 49) → σ'.1 k q = σ.1 k q) ∧ σ'.2 = σ.2 ∧ ∀ k, (k = 48 ∨ k = 49) → ∀ q, σ'.1 k q = if 12 * i + j ≤ q ∧ q < 12 * i + 11 then σ.1 k (q + 1) else σ.1 k q
theorem q_comesTo_13 {N i : Nat} {st : Int32} (hi : i < 2) : ∀ (n j : Nat) (σ : jRS), j ≤ 11 → 12 ≤ j + n → ∃ σ', shT i j σ σ' ∧ ∀ post, wX7_comesTo_73 N σ' (nI i) st post → wX7_comesTo_13 N n σ (nI i) st (nI j) post := by
  intro n
  induction n with
  | zero => intro j σ h1 h2; omega
  | succ n ih =>
    intro j σ h1 h2
    by_cases hj : j = 11
    · subst hj
      refine ⟨σ, ⟨fun _ _ _ => rfl, rfl, fun k _ q => by rw [if_neg (by omega)]⟩, fun post hp => ?_⟩
      unfold wX7_comesTo_13
      exact ⟨fun _ => hp, fun h => absurd (show (11 : Int32) ≤ nI 11 from by decide) h⟩
    · obtain ⟨σ', hs, hw⟩ := ih (j + 1) (rP (rP σ 48 (12 * i + j) (σ.1 48 (12 * i + j + 1))) 49 (12 * i + j) (σ.1 49 (12 * i + j + 1))) (by omega) (by omega)
      refine ⟨σ', ⟨fun k q hk => ?_, ?_, fun k hk q => ?_⟩, fun post hp => ?_⟩
      · rw [hs.1 k q hk, rP_rd, rP_rd, if_neg (by omega), if_neg (by omega)]
      · rw [hs.2.1]; rfl
      · rw [hs.2.2 k hk q]
        simp only [rP_rd]
        grind
      · unfold wX7_comesTo_13
        have hb : 12 * i + j + 1 < 24 := by omega
        have e1 : (12 : Int32) * nI i + nI j = nI (12 * i + j) := n12 i j
        have e2 : nI (12 * i + j) + 1 = nI (12 * i + j + 1) := nI_1 _
        refine ⟨fun h => absurd h (show ¬ nI 11 ≤ nI j from nI_ge (show j < 11 by omega) (by omega)), fun _ => ?_⟩
        rw [e1, e2, cl (show 12 * i + j + 1 < 2 ^ 31 by omega), cl (show 12 * i + j < 2 ^ 31 by omega)]
        refine ⟨vp_in_nI hb (by omega), fun v ev => ⟨vp_in_nI (by omega) (by omega), fun s1 es => ⟨vp_in_nI hb (by omega), fun v2 ev2 => ⟨vp_in_nI (by omega) (by omega), fun s2 es2 x3 ex3 => ?_⟩⟩⟩⟩
        subst ev es ev2 es2 ex3
        rw [nI_1]
        have := hw post hp
        simpa [rP_rd] using this

/-- what a turn does to the class's own course before its row of turns: phase, end begin anew -/
theorem c_enter0 (N : Nat) (a : jSS) (st now : Int32) : ∃ b : jSS, (∀ k j, ¬ (k = 3 ∧ j ≤ 4) → b.1 k j = a.1 k j) ∧ b.2 = a.2 ∧ b.1 3 0 = st ∧ b.1 3 1 = 2 ∧ b.1 3 2 = now ∧ b.1 3 3 = a.1 0 6 ∧ b.1 3 4 = -1 ∧ ∀ tn : Nat, tn < 2 ^ 30 → a.1 3 8 = nI tn → ∀ post : jSS → Prop, post (aP (aP (aP b 7 (tn % 12) now) 8 (tn % 12) st) 3 8 (nI (tn + 1))) → wX0_enter N a st now post := by
  refine ⟨aP (aP (aP (aP (aP a 3 0 st) 3 1 2) 3 2 now) 3 3 (a.1 0 6)) 3 4 (-1), ?_, rfl, ?_, ?_, ?_, ?_, ?_, ?_⟩
  · intro k j h; simp only [aP_rd]; grind
  · simp only [aP_rd]; grind
  · simp only [aP_rd]; grind
  · simp only [aP_rd]; grind
  · simp only [aP_rd]; grind
  · simp only [aP_rd]; grind
  · intro tn htn h1 post hp
    unfold wX0_enter wX0_beginPhase
    intro a0 e0 a1 e1 a2 e2 v ev a3 e3 a4 e4 r er
    have ev2 : v = a.1 0 6 := by rw [ev, e2, e1, e0]; simp only [aP_rd]; grind
    rw [ev2] at e3
    have e8 : a4.1 3 8 = nI tn := by rw [e4, e3, e2, e1, e0]; simp only [aP_rd]; grind
    rw [e8, fmB (by omega)] at er
    subst er
    have hb : tn % 12 < 12 := by omega
    rw [cl (show tn % 12 < 2 ^ 31 by omega)]
    refine ⟨vp_in_nI hb (by omega), fun a5 e5 => ⟨vp_in_nI hb (by omega), fun a6 e6 v3 ev3 a7 e7 => ?_⟩⟩
    have e9 : a6.1 3 8 = nI tn := by rw [e6, aP_rd, if_neg (by omega), e5, aP_rd, if_neg (by omega)]; exact e8
    rw [e9, nI_1] at ev3
    subst ev3 e7 e6 e5 e4 e3
    clear ev2 ev
    subst e2 e1 e0
    exact hp
/-- a turn, on both sides -/
theorem p_enter {N i tn : Nat} {a : jSS} {σ : jRS} {st now : Int32} (hi : i < 2) (hN : 20 ≤ N) (htn : tn < 2 ^ 30) (hT : TR i tn a σ) (hnow : σ.1 0 0 = now) : ∃ (a' : jSS) (σ' : jRS), TR i (tn + 1) a' σ' ∧ FR i σ σ' ∧
    (∀ k j, ¬ (k = 3 ∧ j ≤ 4) → ¬ (k = 3 ∧ j = 8) → k ≠ 7 → k ≠ 8 → a'.1 k j = a.1 k j) ∧ a'.2 = a.2 ∧ a'.1 3 0 = st ∧ (∀ k j, k ≠ 48 → k ≠ 49 → ¬ (k = 47 ∧ j = i) → ¬ (k = 39 ∧ j = i) → σ'.1 k j = σ.1 k j) ∧ σ'.2 = σ.2 ∧ σ'.1 39 i = st ∧ (∀ post, post a' → wX0_enter N a st now post) ∧ (∀ post, post σ' → wX7_comesTo N σ (nI i) st post) ∧ a'.1 3 1 = 2 ∧ a'.1 3 2 = now ∧ a'.1 3 3 = a.1 0 6 ∧ a'.1 3 4 = -1 := by
  obtain ⟨h1, h2, h3⟩ := hT
  obtain ⟨b, hbf, hb2, hb30, hb31, hb32, hb33, hb34, hbw⟩ := c_enter0 N a st now
  have hcl := hbw tn htn h1
  have h3 : ∀ j : Nat, j < tn → j < 12 → b.1 7 ((tn - min tn 12 + j) % 12) = σ.1 48 (12 * i + j) ∧ b.1 8 ((tn - min tn 12 + j) % 12) = σ.1 49 (12 * i + j) := by
    intro j hj hj2
    rw [hbf 7 _ (by omega), hbf 8 _ (by omega)]
    exact h3 j hj hj2
  by_cases hlt : tn < 12
  · refine ⟨_, rP (rP (rP (rP σ 48 (12 * i + tn) (σ.1 0 0)) 49 (12 * i + tn) st) 47 i (σ.1 47 i + 1)) 39 i st, ⟨?_, ?_, ?_⟩, ?_, ?_, ?_, ?_, ?_, ?_, ?_, hcl, ?_, by simp only [aP_rd]; grind, by simp only [aP_rd]; grind, by simp only [aP_rd]; grind, by simp only [aP_rd]; grind⟩
    · simp only [aP_rd]; grind
    · simp only [rP_rd]; rw [h2, nI_1]; grind
    · intro j hj hj2
      have h5 := h3 j
      simp only [aP_rd, rP_rd]
      have ha : (tn + 1 - min (tn + 1) 12 + j) % 12 = j := by omega
      have hb : (tn - min tn 12 + j) % 12 = j := by omega
      rw [ha]
      rw [hb] at h5
      have hc : tn % 12 = tn := by omega
      rw [hc]
      grind
    · exact (((FR.put (by unfold own; grind)).tr (FR.put (by unfold own; grind))).tr (FR.put (by unfold own; grind))).tr (FR.put (by unfold own; grind))
    · intro k j g1 g2 g3 g4; simp only [aP_rd]; grind
    · exact hb2
    · simp only [aP_rd]; grind
    · intro k j g1 g2 g3 g4; simp only [rP_rd]; grind
    · rfl
    · simp only [rP_rd]; grind
    · intro post hp
      unfold wX7_comesTo
      rw [ci hi]
      refine ⟨vi hi, fun _ => ?_, fun h => absurd (show σ.1 47 i < nI 12 by rw [h2]; exact nI_lt hlt (by omega)) h⟩
      unfold wX7_comesTo_73
      rw [ci hi]
      refine ⟨vi hi, fun h => absurd h (show ¬ nI 12 ≤ σ.1 47 i by rw [h2]; exact nI_ge hlt (by omega)), fun _ => ⟨vi hi, ?_⟩⟩
      rw [h2]
      exact q_comesTo_99 hi hlt hp
  · obtain ⟨σ1, hs, hw⟩ := q_comesTo_13 (N := N) (st := st) hi N 0 σ (by omega) (by omega)
    have h47 : σ1.1 47 i = nI tn := by rw [hs.1 47 i (by omega)]; exact h2
    have h00 : σ1.1 0 0 = now := by rw [hs.1 0 0 (by omega)]; exact hnow
    refine ⟨_, rP (rP (rP (rP σ1 48 (12 * i + 11) (σ1.1 0 0)) 49 (12 * i + 11) st) 47 i (σ1.1 47 i + 1)) 39 i st, ⟨?_, ?_, ?_⟩, ?_, ?_, ?_, ?_, ?_, ?_, ?_, hcl, ?_, by simp only [aP_rd]; grind, by simp only [aP_rd]; grind, by simp only [aP_rd]; grind, by simp only [aP_rd]; grind⟩
    · simp only [aP_rd]; grind
    · simp only [rP_rd]; rw [h47, nI_1]; grind
    · intro j hj hj2
      have h5 := h3 (j + 1)
      have g8 := hs.2.2 48 (by omega) (12 * i + j)
      have g9 := hs.2.2 49 (by omega) (12 * i + j)
      simp only [aP_rd, rP_rd]
      by_cases hj11 : j = 11
      · subst hj11
        have ha : (tn + 1 - min (tn + 1) 12 + 11) % 12 = tn % 12 := by omega
        rw [ha]
        grind
      · have ha : (tn + 1 - min (tn + 1) 12 + j) % 12 = (tn - min tn 12 + (j + 1)) % 12 := by omega
        have hb : (tn - min tn 12 + (j + 1)) % 12 ≠ tn % 12 := by omega
        have h6 := h5 (by omega) (by omega)
        rw [if_pos (by omega)] at g8 g9
        rw [ha]
        have hq : 12 * i + (j + 1) = 12 * i + j + 1 := by omega
        rw [hq] at h6
        grind
    · refine FR.tr (σ1 := σ1) ⟨fun k j h => ?_, fun j _ => by rw [hs.2.1]⟩ ((((FR.put (by unfold own; grind)).tr (FR.put (by unfold own; grind))).tr (FR.put (by unfold own; grind))).tr (FR.put (by unfold own; grind)))
      by_cases hk : k = 48 ∨ k = 49
      · rw [hs.2.2 k hk j, if_neg]
        intro h9
        apply h
        unfold own
        refine ⟨by omega, ?_⟩
        rw [if_pos hk]
        omega
      · exact hs.1 k j hk
    · intro k j g1 g2 g3 g4; simp only [aP_rd]; grind
    · exact hb2
    · simp only [aP_rd]; grind
    · intro k j g1 g2 g3 g4
      have := hs.1 k j (by omega)
      simp only [rP_rd]; grind
    · exact hs.2.1
    · simp only [rP_rd]; grind
    · intro post hp
      unfold wX7_comesTo
      rw [ci hi]
      refine ⟨vi hi, fun h => absurd h (show ¬ σ.1 47 i < nI 12 by rw [h2]; exact nI_nlt (by omega) (by omega)), fun _ => ?_⟩
      refine hw post ?_
      unfold wX7_comesTo_73
      rw [ci hi]
      refine ⟨vi hi, fun _ => ?_, fun h => absurd (show nI 12 ≤ σ1.1 47 i by rw [h47]; exact nI_le (by omega) (by omega)) h⟩
      exact q_comesTo_99 hi (p := 11) (by omega) hp

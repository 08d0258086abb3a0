theorem n12 (i p : Nat) : (12 : Int32) * nI i + nI p = nI (12 * i + p) := by
  rw [show (12 : Int32) = nI 12 from by decide, pk_mul, nI_add]
theorem cl {n : Nat} (h : n < 2 ^ 31) : (nI n).toNatClampNeg = n := nI_clamp h
/-- the reference's last writes of a turn -/
theorem q_comesTo_99 {N i p : Nat} {σ : jRS} {st : Int32} {post : jRS → Prop} (hi : i < 2) (hp : p < 12)
    (h : post (rP (rP (rP (rP σ 48 (12 * i + p) (σ.1 0 0)) 49 (12 * i + p) st) 47 i (σ.1 47 i + 1)) 39 i st)) : wX7_comesTo_99 N σ (nI i) st (nI p) (12 * nI i) post := by
  unfold wX7_comesTo_99
  intro x3 e3 v ev
  subst ev
  rw [n12] at e3
  subst e3
  have hb : 12 * i + p < 24 := by omega
  rw [cl (show 12 * i + p < 2 ^ 31 by omega), ci hi]
  refine ⟨vp_in_nI hb (by omega), fun s1 e1 => ⟨vp_in_nI hb (by omega), fun s2 e2 => ⟨vi hi, fun v2 e3 => ⟨vi hi, fun s3 e4 => ⟨vi hi, fun s4 e5 => ?_⟩⟩⟩⟩⟩
  subst e1 e2 e3 e4 e5
  simpa [rP_rd] using h
/-- what the shift of the turns' rows does, from place j on -/
def shT (i j : Nat) (σ σ' : jRS) : Prop := (∀ k q, ¬ (k = 48 ∨ k = 49) → σ'.1 k q = σ.1 k q) ∧ σ'.2 = σ.2 ∧ ∀ k, (k = 48 ∨ k = 49) → ∀ q, σ'.1 k q = if 12 * i + j ≤ q ∧ q < 12 * i + 11 then σ.1 k (q + 1) else σ.1 k q
theorem q_comesTo_13 {N i : Nat} {st : Int32} (hi : i < 2) : ∀ (n j : Nat) (σ : jRS), j ≤ 11 → 12 ≤ j + n → ∃ σ', shT i j σ σ' ∧ ∀ post, wX7_comesTo_73 N σ' (nI i) st post → wX7_comesTo_13 N n σ (nI i) st (nI j) post := by
  intro n
  induction n with
  | zero => intro j σ h1 h2; omega
  | succ n ih =>
    intro j σ h1 h2
    by_cases hj : j = 11
    · subst hj
      refine ⟨σ, ⟨fun _ _ _ => rfl, rfl, fun k _ q => by rw [if_neg (by omega)]⟩, fun post hp => ?_⟩
      unfold wX7_comesTo_13
      exact ⟨fun _ => hp, fun h => absurd (show (11 : Int32) ≤ nI 11 from by decide) h⟩
    · obtain ⟨σ', hs, hw⟩ := ih (j + 1) (rP (rP σ 48 (12 * i + j) (σ.1 48 (12 * i + j + 1))) 49 (12 * i + j) (σ.1 49 (12 * i + j + 1))) (by omega) (by omega)
      refine ⟨σ', ⟨fun k q hk => ?_, ?_, fun k hk q => ?_⟩, fun post hp => ?_⟩
      · rw [hs.1 k q hk, rP_rd, rP_rd, if_neg (by omega), if_neg (by omega)]
      · rw [hs.2.1]; rfl
      · rw [hs.2.2 k hk q]
        simp only [rP_rd]
        grind
      · unfold wX7_comesTo_13
        have hb : 12 * i + j + 1 < 24 := by omega
        have e1 : (12 : Int32) * nI i + nI j = nI (12 * i + j) := n12 i j
        have e2 : nI (12 * i + j) + 1 = nI (12 * i + j + 1) := nI_1 _
        refine ⟨fun h => absurd h (show ¬ nI 11 ≤ nI j from nI_ge (show j < 11 by omega) (by omega)), fun _ => ?_⟩
        rw [e1, e2, cl (show 12 * i + j + 1 < 2 ^ 31 by omega), cl (show 12 * i + j < 2 ^ 31 by omega)]
        refine ⟨vp_in_nI hb (by omega), fun v ev => ⟨vp_in_nI (by omega) (by omega), fun s1 es => ⟨vp_in_nI hb (by omega), fun v2 ev2 => ⟨vp_in_nI (by omega) (by omega), fun s2 es2 x3 ex3 => ?_⟩⟩⟩⟩
        subst ev es ev2 es2 ex3
        rw [nI_1]
        have := hw post hp
        simpa [rP_rd] using this

/-- what a turn does to the class's own course before its rows of turns: phase, end begin anew -/
theorem c_enter0 (N : Nat) (a : jSS) (st now : Int32) : ∃ b : jSS, (∀ k j, ¬ (k = 3 ∧ j ≤ 4) → b.1 k j = a.1 k j) ∧ b.2 = a.2 ∧ b.1 3 0 = st ∧ b.1 3 1 = 2 ∧ b.1 3 2 = now ∧ b.1 3 3 = a.1 0 6 ∧ b.1 3 4 = -1 ∧ ∀ post : jSS → Prop, wX0_keepTurn N b st now post → wX0_enter N a st now post := by
  refine ⟨aP (aP (aP (aP (aP a 3 0 st) 3 1 2) 3 2 now) 3 3 (a.1 0 6)) 3 4 (-1), ?_, rfl, ?_, ?_, ?_, ?_, ?_, ?_⟩
  · intro k j h; simp only [aP_rd]; grind
  · simp only [aP_rd]; grind
  · simp only [aP_rd]; grind
  · simp only [aP_rd]; grind
  · simp only [aP_rd]; grind
  · simp only [aP_rd]; grind
  · intro post hp
    unfold wX0_enter wX0_beginPhase
    intro a0 e0 a1 e1 a2 e2 v ev a3 e3 a4 e4
    have ev2 : v = a.1 0 6 := by rw [ev, e2, e1, e0]; simp only [aP_rd]; grind
    rw [ev2] at e3
    clear ev2 ev
    subst e4 e3 e2 e1 e0
    exact hp
/-- what the shift of the class's rows of turns does, from place j on -/
def shC (j : Nat) (a a' : jSS) : Prop := (∀ k q, ¬ (k = 7 ∨ k = 8) → a'.1 k q = a.1 k q) ∧ a'.2 = a.2 ∧ ∀ k, (k = 7 ∨ k = 8) → ∀ q, a'.1 k q = if j ≤ q + 1 ∧ q < 11 then a.1 k (q + 1) else a.1 k q
theorem c_shift {N : Nat} {st now : Int32} : ∀ (n j : Nat) (a : jSS), 1 ≤ j → j ≤ 12 → 13 ≤ j + n → ∃ a', shC j a a' ∧ ∀ post, wX0_keepTurn_74 N a' st now post → wX0_keepTurn_34 N n a st now (nI j) post := by
  intro n
  induction n with
  | zero => intro j a h0 h1 h2; omega
  | succ n ih =>
    intro j a h0 h1 h2
    by_cases hj : j = 12
    · subst hj
      refine ⟨a, ⟨fun _ _ _ => rfl, rfl, fun k _ q => by rw [if_neg (by omega)]⟩, fun post hp => ?_⟩
      unfold wX0_keepTurn_34
      exact ⟨fun _ => hp, fun h => absurd (show (12 : Int32) ≤ nI 12 from by decide) h⟩
    · obtain ⟨a', hs, hw⟩ := ih (j + 1) (aP (aP a 7 (j - 1) (a.1 7 j)) 8 (j - 1) (a.1 8 j)) (by omega) (by omega) (by omega)
      refine ⟨a', ⟨fun k q hk => ?_, ?_, fun k hk q => ?_⟩, fun post hp => ?_⟩
      · rw [hs.1 k q hk, aP_rd, aP_rd, if_neg (by omega), if_neg (by omega)]
      · rw [hs.2.1]; rfl
      · rw [hs.2.2 k hk q]
        simp only [aP_rd]
        have hq : j - 1 + 1 = j := by omega
        grind
      · unfold wX0_keepTurn_34
        have e1 : nI j - 1 = nI (j - 1) := by rw [show (1 : Int32) = nI 1 from rfl, pk_sub h0]
        refine ⟨fun h => absurd h (show ¬ nI 12 ≤ nI j from nI_ge (show j < 12 by omega) (by omega)), fun _ => ?_⟩
        rw [e1, cl (show j < 2 ^ 31 by omega), cl (show j - 1 < 2 ^ 31 by omega)]
        refine ⟨vp_in_nI (by omega) (by omega), fun v ev => ⟨vp_in_nI (by omega) (by omega), fun s1 es => ⟨vp_in_nI (by omega) (by omega), fun v2 ev2 => ⟨vp_in_nI (by omega) (by omega), fun s2 es2 x3 ex3 => ?_⟩⟩⟩⟩
        subst ev es ev2 es2 ex3
        rw [nI_1]
        have := hw post hp
        simpa [aP_rd] using this
theorem c_74 {N p : Nat} {a : jSS} {st now : Int32} {post : jSS → Prop} (hp : p < 12) (h9 : a.1 3 9 = nI (p + 1)) (h : post (aP (aP a 7 p now) 8 p st)) : wX0_keepTurn_74 N a st now post := by
  unfold wX0_keepTurn_74
  intro x3 e3
  rw [h9, show (1 : Int32) = nI 1 from rfl, pk_sub (by omega), Nat.add_sub_cancel] at e3
  subst e3
  refine ⟨fun hh => absurd hh (nI_pos (by omega)), fun _ => ⟨fun hh => absurd hh (show ¬ nI 12 ≤ nI p from nI_ge hp (by omega)), fun _ => ?_⟩⟩
  rw [cl (show p < 2 ^ 31 by omega)]
  refine ⟨vp_in_nI hp (by omega), fun a1 e1 => ⟨vp_in_nI hp (by omega), fun a2 e2 => ?_⟩⟩
  subst e2 e1
  exact h
/-- a turn kept by the class -/
theorem c_keepTurn {N tn : Nat} {a : jSS} {st now : Int32} (hN : 20 ≤ N) (htn : tn < 2 ^ 30) (h8 : a.1 3 8 = nI tn) (h9 : a.1 3 9 = nI (min tn 12)) : ∃ a' : jSS, (∀ k j, ¬ (k = 3 ∧ (j = 8 ∨ j = 9)) → k ≠ 7 → k ≠ 8 → a'.1 k j = a.1 k j) ∧ a'.2 = a.2 ∧ a'.1 3 8 = nI (tn + 1) ∧ a'.1 3 9 = nI (min (tn + 1) 12) ∧
    (∀ j, j < 12 → a'.1 7 j = if tn < 12 then (if j = tn then now else a.1 7 j) else if j = 11 then now else a.1 7 (j + 1)) ∧ (∀ j, j < 12 → a'.1 8 j = if tn < 12 then (if j = tn then st else a.1 8 j) else if j = 11 then st else a.1 8 (j + 1)) ∧ ∀ post, post a' → wX0_keepTurn N a st now post := by
  by_cases hlt : tn < 12
  · have e9 : (aP a 3 8 (nI (tn + 1))).1 3 9 = nI tn := by rw [aP_rd, if_neg (by omega), h9, Nat.min_eq_left (by omega)]
    refine ⟨aP (aP (aP (aP a 3 8 (nI (tn + 1))) 3 9 (nI (tn + 1))) 7 tn now) 8 tn st, ?_, rfl, ?_, ?_, ?_, ?_, ?_⟩
    · intro k j g1 g2 g3; simp only [aP_rd]; grind
    · simp only [aP_rd]; grind
    · rw [Nat.min_eq_left (by omega)]; simp only [aP_rd]; grind
    · intro j hj; rw [if_pos hlt]; simp only [aP_rd]; grind
    · intro j hj; rw [if_pos hlt]; simp only [aP_rd]; grind
    · intro post hp
      unfold wX0_keepTurn
      intro v ev a1 e1
      rw [h8, nI_1] at ev
      subst ev e1
      rw [e9]
      refine ⟨fun hh => absurd hh (show ¬ nI 12 ≤ nI tn from nI_ge hlt (by omega)), fun _ v2 ev2 a2 e2 => ?_⟩
      rw [nI_1] at ev2
      subst ev2 e2
      exact c_74 hlt (by rw [aP_rd, if_pos ⟨rfl, rfl⟩]) hp
  · have e9 : (aP a 3 8 (nI (tn + 1))).1 3 9 = nI 12 := by rw [aP_rd, if_neg (by omega), h9, Nat.min_eq_right (by omega)]
    obtain ⟨a1, hs, hw⟩ := c_shift (N := N) (st := st) (now := now) N 1 (aP a 3 8 (nI (tn + 1))) (by omega) (by omega) (by omega)
    have f9 : a1.1 3 9 = nI (11 + 1) := by rw [hs.1 3 9 (by omega)]; exact e9
    refine ⟨aP (aP a1 7 11 now) 8 11 st, ?_, ?_, ?_, ?_, ?_, ?_, ?_⟩
    · intro k j g1 g2 g3
      have := hs.1 k j (by omega)
      simp only [aP_rd] at this ⊢; grind
    · rw [aP_2, aP_2, hs.2.1]; rfl
    · have := hs.1 3 8 (by omega)
      simp only [aP_rd] at this ⊢; grind
    · rw [Nat.min_eq_right (by omega)]
      simp only [aP_rd]; grind
    · intro j hj
      have := hs.2.2 7 (by omega) j
      rw [if_neg hlt]
      simp only [aP_rd] at this ⊢; grind
    · intro j hj
      have := hs.2.2 8 (by omega) j
      rw [if_neg hlt]
      simp only [aP_rd] at this ⊢; grind
    · intro post hp
      unfold wX0_keepTurn
      intro v ev a2 e2
      rw [h8, nI_1] at ev
      subst ev e2
      rw [e9]
      exact ⟨fun _ => hw post (c_74 (p := 11) (by omega) f9 hp), fun hh => absurd (show (12 : Int32) ≤ nI 12 from by decide) hh⟩
/-- a turn, on both sides -/
theorem p_enter {N i tn : Nat} {a : jSS} {σ : jRS} {st now : Int32} (hi : i < 2) (hN : 20 ≤ N) (htn : tn < 2 ^ 30) (hT : TR i tn a σ) (hnow : σ.1 0 0 = now) : ∃ (a' : jSS) (σ' : jRS), TR i (tn + 1) a' σ' ∧ FR i σ σ' ∧
    (∀ k j, ¬ (k = 3 ∧ j ≤ 4) → ¬ (k = 3 ∧ (j = 8 ∨ j = 9)) → k ≠ 7 → k ≠ 8 → a'.1 k j = a.1 k j) ∧ a'.2 = a.2 ∧ a'.1 3 0 = st ∧ (∀ k j, k ≠ 48 → k ≠ 49 → ¬ (k = 47 ∧ j = i) → ¬ (k = 39 ∧ j = i) → σ'.1 k j = σ.1 k j) ∧ σ'.2 = σ.2 ∧ σ'.1 39 i = st ∧ (∀ post, post a' → wX0_enter N a st now post) ∧ (∀ post, post σ' → wX7_comesTo N σ (nI i) st post) ∧ a'.1 3 1 = 2 ∧ a'.1 3 2 = now ∧ a'.1 3 3 = a.1 0 6 ∧ a'.1 3 4 = -1 := by
  obtain ⟨⟨h1, h9⟩, h2, h3⟩ := hT
  obtain ⟨b, hbf, hb2, hb30, hb31, hb32, hb33, hb34, hbw⟩ := c_enter0 N a st now
  obtain ⟨a', f1, f2, f3, f4, f5, f6, f7⟩ := c_keepTurn (N := N) (a := b) (st := st) (now := now) hN htn (by rw [hbf 3 8 (by omega)]; exact h1) (by rw [hbf 3 9 (by omega)]; exact h9)
  have hcl : ∀ post, post a' → wX0_enter N a st now post := fun post hp => hbw post (f7 post hp)
  have hfr : ∀ k j, ¬ (k = 3 ∧ j ≤ 4) → ¬ (k = 3 ∧ (j = 8 ∨ j = 9)) → k ≠ 7 → k ≠ 8 → a'.1 k j = a.1 k j := fun k j g1 g2 g3 g4 => by rw [f1 k j g2 g3 g4, hbf k j g1]
  have c0 : a'.1 3 0 = st := by rw [f1 3 0 (by omega) (by omega) (by omega)]; exact hb30
  have c1 : a'.1 3 1 = 2 := by rw [f1 3 1 (by omega) (by omega) (by omega)]; exact hb31
  have c2 : a'.1 3 2 = now := by rw [f1 3 2 (by omega) (by omega) (by omega)]; exact hb32
  have c3 : a'.1 3 3 = a.1 0 6 := by rw [f1 3 3 (by omega) (by omega) (by omega)]; exact hb33
  have c4 : a'.1 3 4 = -1 := by rw [f1 3 4 (by omega) (by omega) (by omega)]; exact hb34
  have h3 : ∀ j : Nat, j < tn → j < 12 → b.1 7 j = σ.1 48 (12 * i + j) ∧ b.1 8 j = σ.1 49 (12 * i + j) := by
    intro j hj hj2
    rw [hbf 7 _ (by omega), hbf 8 _ (by omega)]
    exact h3 j hj hj2
  by_cases hlt : tn < 12
  · refine ⟨a', rP (rP (rP (rP σ 48 (12 * i + tn) (σ.1 0 0)) 49 (12 * i + tn) st) 47 i (σ.1 47 i + 1)) 39 i st, ⟨⟨f3, f4⟩, ?_, ?_⟩, ?_, hfr, by rw [f2, hb2], c0, ?_, rfl, ?_, hcl, ?_, c1, c2, c3, c4⟩
    · simp only [rP_rd]; rw [h2, nI_1]; grind
    · intro j hj hj2
      have h5 := h3 j
      have w1 := f5 j hj2
      have w2 := f6 j hj2
      rw [if_pos hlt] at w1 w2
      simp only [rP_rd]
      grind
    · exact (((FR.put (by unfold own; grind)).tr (FR.put (by unfold own; grind))).tr (FR.put (by unfold own; grind))).tr (FR.put (by unfold own; grind))
    · intro k j g1 g2 g3 g4; simp only [rP_rd]; grind
    · simp only [rP_rd]; grind
    · intro post hp
      unfold wX7_comesTo
      rw [ci hi]
      refine ⟨vi hi, fun _ => ?_, fun h => absurd (show σ.1 47 i < nI 12 by rw [h2]; exact nI_lt hlt (by omega)) h⟩
      unfold wX7_comesTo_73
      rw [ci hi]
      refine ⟨vi hi, fun h => absurd h (show ¬ nI 12 ≤ σ.1 47 i by rw [h2]; exact nI_ge hlt (by omega)), fun _ => ⟨vi hi, ?_⟩⟩
      rw [h2]
      exact q_comesTo_99 hi hlt hp
  · obtain ⟨σ1, hs, hw⟩ := q_comesTo_13 (N := N) (st := st) hi N 0 σ (by omega) (by omega)
    have h47 : σ1.1 47 i = nI tn := by rw [hs.1 47 i (by omega)]; exact h2
    have h00 : σ1.1 0 0 = now := by rw [hs.1 0 0 (by omega)]; exact hnow
    refine ⟨a', rP (rP (rP (rP σ1 48 (12 * i + 11) (σ1.1 0 0)) 49 (12 * i + 11) st) 47 i (σ1.1 47 i + 1)) 39 i st, ⟨⟨f3, f4⟩, ?_, ?_⟩, ?_, hfr, by rw [f2, hb2], c0, ?_, hs.2.1, ?_, hcl, ?_, c1, c2, c3, c4⟩
    · simp only [rP_rd]; rw [h47, nI_1]; grind
    · intro j hj hj2
      have h5 := h3 (j + 1)
      have g8 := hs.2.2 48 (by omega) (12 * i + j)
      have g9 := hs.2.2 49 (by omega) (12 * i + j)
      have w1 := f5 j hj2
      have w2 := f6 j hj2
      rw [if_neg hlt] at w1 w2
      simp only [rP_rd]
      by_cases hj11 : j = 11
      · subst hj11
        grind
      · have h6 := h5 (by omega) (by omega)
        rw [if_pos (by omega)] at g8 g9
        rw [if_neg hj11] at w1 w2
        have hq : 12 * i + (j + 1) = 12 * i + j + 1 := by omega
        rw [hq] at h6
        grind
    · refine FR.tr (σ1 := σ1) ⟨fun k j h => ?_, fun j _ => by rw [hs.2.1]⟩ ((((FR.put (by unfold own; grind)).tr (FR.put (by unfold own; grind))).tr (FR.put (by unfold own; grind))).tr (FR.put (by unfold own; grind)))
      by_cases hk : k = 48 ∨ k = 49
      · rw [hs.2.2 k hk j, if_neg]
        intro h9
        apply h
        unfold own
        refine ⟨by omega, ?_⟩
        rw [if_pos hk]
        omega
      · exact hs.1 k j hk
    · intro k j g1 g2 g3 g4
      have := hs.1 k j (by omega)
      simp only [rP_rd]; grind
    · simp only [rP_rd]; grind
    · intro post hp
      unfold wX7_comesTo
      rw [ci hi]
      refine ⟨vi hi, fun h => absurd h (show ¬ σ.1 47 i < nI 12 by rw [h2]; exact nI_nlt (by omega) (by omega)), fun _ => ?_⟩
      refine hw post ?_
      unfold wX7_comesTo_73
      rw [ci hi]
      refine ⟨vi hi, fun _ => ?_, fun h => absurd (show nI 12 ≤ σ1.1 47 i by rw [h47]; exact nI_le (by omega) (by omega)) h⟩
      exact q_comesTo_99 hi (p := 11) (by omega) hp

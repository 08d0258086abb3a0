/-! an answer: what is learnt from it, whole -/
def DT (i m d mk p : Nat) (dt : Nat → Nat) (σ : jRS) : Prop := p ≤ m ∧ (∀ j, j < m → σ.1 19 (512 * i + j) = nI (dt j) ∧ dt j ≤ d ∧ (dt j < mk ↔ j < p)) ∧ ∀ j j', j ≤ j' → j' < m → dt j ≤ dt j'
/-- knowledge: samples, rounds, course; a bound on answers of a round -/
def KB (i d r T tn mk ca M : Nat) (e V W : Nat → Nat) (a : jSS) (σ : jRS) : Prop := CS i tn a σ ∧ tn ≤ 3 * d ∧ EW r T e V ∧ SC r T e V a ∧ SQ i (e r) T V W σ ∧ WE r e W ∧ σ.1 30 i = nI M ∧ MX V (e r) T M ∧ σ.1 28 i = nI r ∧ r ≤ d ∧ T ≤ d ∧ σ.1 29 i = nI mk ∧ mk ≤ d ∧ (r = 0 → mk = 0) ∧ T ≤ e (r + 9) + ca ∧ σ.1 25 i = nI d ∧ ∃ lm, lm < 2 ^ 31 ∧ σ.1 27 i = nI lm
def KN (i m d : Nat) (a : jSS) (σ : jRS) : Prop := ∃ (r T tn mk p ca M : Nat) (e V W dt : Nat → Nat), KB i d r T tn mk ca M e V W a σ ∧ DT i m d mk p dt σ ∧ ca + p ≤ 261
def FX (i : Nat) (σ σ' : jRS) : Prop := (∀ k j, ¬ own i k j → ¬ (k = 0 ∧ j = 15) → σ'.1 k j = σ.1 k j) ∧ ∀ j, j ≠ i → σ'.2 j = σ.2 j
theorem FR.fx {i : Nat} {σ σ' : jRS} (h : FR i σ σ') : FX i σ σ' := ⟨fun k j g _ => h.1 k j g, h.2⟩
theorem FX.tr {i : Nat} {σ σ1 σ2 : jRS} (h1 : FX i σ σ1) (h2 : FX i σ1 σ2) : FX i σ σ2 := ⟨fun k j h g => (h2.1 k j h g).trans (h1.1 k j h g), fun j h => (h2.2 j h).trans (h1.2 j h)⟩
theorem CS.mv {i tn : Nat} {a a' : jSS} {σ σ' : jRS} (h : CS i tn a σ) (hS : SR i a' σ') (hA : ∀ k j, k = 3 ∨ k = 7 ∨ k = 8 → a'.1 k j = a.1 k j) (hR : ∀ k j, 39 ≤ k → σ'.1 k j = σ.1 k j) (h34 : σ.1 42 i ≤ σ'.1 34 i) : CS i tn a' σ' := by
  obtain ⟨c1, c2, c3⟩ := h
  refine ⟨hS, ?_, ?_⟩
  · unfold CR at c2 ⊢
    rw [hA 3 0 (by omega), hA 3 4 (by omega), hR 43 i (by omega), hR 40 i (by omega), hR 44 i (by omega), hR 42 i (by omega), hR 39 i (by omega)]
    exact ⟨c2.1, c2.2.1, c2.2.2.1, h34, c2.2.2.2.2⟩
  · obtain ⟨t1, t2, t3⟩ := c3
    refine ⟨by rw [hA 3 8 (by omega), hA 3 9 (by omega)]; exact t1, by rw [hR 47 i (by omega)]; exact t2, fun j g1 g2 => ?_⟩
    rw [hA 7 _ (by omega), hA 8 _ (by omega), hR 48 _ (by omega), hR 49 _ (by omega)]
    exact t3 j g1 g2
def wTk (N : Nat) (σ : jRS) (x1 x4_109 x5_111 x6_113 x7_115 : Int32) (post : jRS → Prop) : Prop := ∀ v_118 : Int32, v_118 = (σ.1 0 15) + 1 → ∀ s_119 : jRS, s_119 = rP σ 0 15 v_118 → vp_in x1 2 ∧ ∀ v_121 : Int32, v_121 = (s_119.1 25 x1.toNatClampNeg) + 1 → vp_in x1 2 ∧ ∀ s_123 : jRS, s_123 = rP s_119 25 x1.toNatClampNeg v_121 → ∀ v_124 : Int32, v_124 = s_123.1 0 0 → vp_in x1 2 ∧ ∀ s_126 : jRS, s_126 = rP s_123 26 x1.toNatClampNeg v_124 → vp_in x1 2 ∧ vp_in x1 2 ∧ (((s_126.1 25 x1.toNatClampNeg) ≤ (s_126.1 27 x1.toNatClampNeg)) → (vp_in x1 2 ∧ wX7_takes_106 N s_126 x1 x4_109 x5_111 x6_113 x7_115 (s_126.1 27 x1.toNatClampNeg) x1 post)) ∧ ((¬ (s_126.1 25 x1.toNatClampNeg) ≤ (s_126.1 27 x1.toNatClampNeg)) → (wX7_takes_106 N s_126 x1 x4_109 x5_111 x6_113 x7_115 0 x1 post))
theorem p_core {N i t q m d dk r T tn mk p ca M : Nat} {e V W dt : Nat → Nat} {a : jSS} {b : jGS} {σ : jRS} {x6 x7 sn : Int32} (hi : i < 2) (hN : 8002 ≤ N) (ht : t < 2 ^ 30) (hd : 1000 * (d + 1) < 2 ^ 31) (hdk : dk ≤ d) (hm : m ≤ 260) (hnow : σ.1 0 0 = nI t) (hK : KB i d r T tn mk ca M e V W a σ) (hD : DT i m d mk p dt σ) (hca : dk < mk → ca + p + 1 ≤ 261) (hq : q ∈ gLP b) (f2 : gF b q 2 = sn) (f3 : gF b q 3 = nI dk) (f4 : gF b q 4 = x6) (f5 : gF b q 5 = x7) : ∃ a' σ', KN i m (d + 1) a' σ' ∧ FX i σ σ' ∧ σ'.1 0 15 = σ.1 0 15 + 1 ∧ (∀ k j, 16 ≤ k → k ≤ 24 → σ'.1 k j = σ.1 k j) ∧ (∀ j, a'.1 1 j = a.1 1 j) ∧ a'.2 = a.2 ∧ (∀ j, j ≤ 6 → a'.1 0 j = a.1 0 j) ∧ (∀ P : jSS → jGS → Prop, P a' b → wX5_take N a b q (nI t) P) ∧ ∀ post, post σ' → wTk N σ (nI i) sn (nI dk) x6 x7 post := by
  obtain ⟨k1, k2, k3, k4, k5, k6, k7, k8, k9, k10, k11, k12, k13, k14, k15, k16, lm, k17, k18⟩ := hK
  have hs := k1.1
  unfold SR at hs
  have h5 := k3.2.2.2.2
  have h3 := k3.2.2.1
  have e07 : a.1 0 7 = nI d := by rw [← k16]; grind
  have e09 : a.1 0 9 = nI lm := by rw [← k18]; grind
  -- first writes
  obtain ⟨lm', l1, l2, l3⟩ : ∃ lm', lm' < 2 ^ 31 ∧ (d + 1 ≤ lm → lm' = lm) ∧ (¬ d + 1 ≤ lm → lm' = 0) := by
    by_cases h : d + 1 ≤ lm
    · exact ⟨lm, k17, fun _ => rfl, fun g => absurd h g⟩
    · exact ⟨0, by omega, fun g => absurd g h, fun _ => rfl⟩
  obtain ⟨a2, A1, A2, A3, A4, A5, A6⟩ : ∃ a2 : jSS, (∀ k j, ¬ (k = 0 ∧ (j = 7 ∨ j = 8 ∨ j = 9)) → a2.1 k j = a.1 k j) ∧ a2.1 0 7 = nI (d + 1) ∧ a2.1 0 8 = nI t ∧ a2.1 0 9 = nI lm' ∧ a2.2 = a.2 ∧ ∀ P, wX5_take_38 N a2 b q (nI t) P → wX5_take N a b q (nI t) P := by
    by_cases h0 : lm = 0
    · refine ⟨aP (aP a 0 7 (nI (d + 1))) 0 8 (nI t), ?_, ?_, ?_, ?_, rfl, fun P hP => ?_⟩
      · intro k j g; simp only [aP_rd]; grind
      · simp only [aP_rd]; grind
      · simp only [aP_rd]; grind
      · rw [l3 (by omega), ← h0]; simp only [aP_rd]; grind
      · unfold wX5_take
        intro v ev a1 e1 a2 e2
        rw [e07, nI_1] at ev
        subst ev e1 e2
        refine ⟨fun _ => hP, fun hh => absurd ?_ hh⟩
        simp only [aP_rd]; simp [e09, h0, nI_0]
    · by_cases h1 : d + 1 ≤ lm
      · refine ⟨aP (aP a 0 7 (nI (d + 1))) 0 8 (nI t), ?_, ?_, ?_, ?_, rfl, fun P hP => ?_⟩
        · intro k j g; simp only [aP_rd]; grind
        · simp only [aP_rd]; grind
        · simp only [aP_rd]; grind
        · rw [l2 h1]; simp only [aP_rd]; grind
        · unfold wX5_take
          intro v ev a1 e1 a2 e2
          rw [e07, nI_1] at ev
          subst ev e1 e2
          refine ⟨fun _ => hP, fun _ => ⟨fun _ => hP, fun hh => absurd ?_ hh⟩⟩
          simp only [aP_rd]; simp [e09]; exact (nle (by omega) k17).2 h1
      · refine ⟨aP (aP (aP a 0 7 (nI (d + 1))) 0 8 (nI t)) 0 9 0, ?_, ?_, ?_, ?_, rfl, fun P hP => ?_⟩
        · intro k j g; simp only [aP_rd]; grind
        · simp only [aP_rd]; grind
        · simp only [aP_rd]; grind
        · rw [l3 h1, nI_0]; simp only [aP_rd]; grind
        · unfold wX5_take
          intro v ev a1 e1 a2 e2
          rw [e07, nI_1] at ev
          subst ev e1 e2
          refine ⟨fun hh => absurd hh ?_, fun _ => ⟨fun hh => absurd hh ?_, fun _ a3 e3 => ?_⟩⟩
          · simp only [aP_rd]; simp [e09]; exact (by rw [← nI_0]; exact nI_lt (by omega) k17)
          · simp only [aP_rd]; simp [e09]; exact nI_lt (by omega) (by omega)
          · subst e3; exact hP
  obtain ⟨σ2, B1, B2, B3, B4, B5, B6, B7⟩ : ∃ σ2 : jRS, (∀ k j, ¬ (k = 0 ∧ j = 15) → ¬ (j = i ∧ (k = 25 ∨ k = 26 ∨ k = 27)) → σ2.1 k j = σ.1 k j) ∧ σ2.1 0 15 = σ.1 0 15 + 1 ∧ σ2.1 25 i = nI (d + 1) ∧ σ2.1 26 i = nI t ∧ σ2.1 27 i = nI lm' ∧ σ2.2 = σ.2 ∧ ∀ post, (vp_in (nI i) 2 ∧ ((nI dk < (σ2.1 29 i)) → (wX7_takes_123 N σ2 (nI i) sn (nI dk) x6 x7 0 post)) ∧ ((¬ nI dk < (σ2.1 29 i)) → (wX7_takes_123 N σ2 (nI i) sn (nI dk) x6 x7 1 post))) → wTk N σ (nI i) sn (nI dk) x6 x7 post := by
    refine ⟨rP (rP (rP (rP σ 0 15 (σ.1 0 15 + 1)) 25 i (nI (d + 1))) 26 i (nI t)) 27 i (nI lm'), ?_, ?_, ?_, ?_, ?_, rfl, fun post hp => ?_⟩
    · intro k j g1 g2; simp only [rP_rd]; grind
    · simp only [rP_rd]; grind
    · simp only [rP_rd]; grind
    · simp only [rP_rd]; grind
    · simp only [rP_rd]; grind
    · simp only [wTk, wX7_takes_106, ci hi]
      intro v ev s1 e1
      refine ⟨vi hi, fun v2 ev2 => ⟨vi hi, fun s2 e2 v3 ev3 => ⟨vi hi, fun s3 e3 => ⟨vi hi, vi hi, ?_⟩⟩⟩⟩
      have ev2' : v2 = nI (d + 1) := by rw [ev2, e1]; simp only [rP_rd]; rw [if_neg (by omega), k16, nI_1]
      have ev3' : v3 = nI t := by rw [ev3, e2, e1]; simp only [rP_rd]; grind
      subst ev3' ev2' ev
      have q25 : s3.1 25 i = nI (d + 1) := by rw [e3, e2]; simp only [rP_rd]; grind
      have q27 : s3.1 27 i = nI lm := by rw [e3, e2, e1]; simp only [rP_rd]; grind
      rw [q25, q27]
      refine pk_le (d + 1) lm (fun g => ⟨vi hi, vi hi, fun s4 e4 => ?_⟩) (fun g => ⟨vi hi, fun s4 e4 => ?_⟩)
      · rw [← l2 g] at e4
        subst e4 e3 e2 e1
        exact hp
      · rw [← nI_0, ← l3 (by omega)] at e4
        subst e4 e3 e2 e1
        exact hp
  have S2 : SR i a2 σ2 := by
    have := k1.1
    unfold SR at this ⊢
    rw [A5, B6]
    grind
  have C2 : CS i tn a2 σ2 := k1.mv S2 (fun k j g => A1 k j (by omega)) (fun k j g => B1 k j (by omega) (by omega)) (by rw [B1 34 i (by omega) (by omega)]; exact k1.2.1.2.2.2.1)
  have F2 : FX i σ σ2 := ⟨fun k j g1 g2 => B1 k j g2 (fun g3 => g1 (by unfold own; grind)), fun j _ => by rw [B6]⟩
  have SC2 : SC r T e V a2 := k4.upd12 (fun k j g1 g2 g3 g4 g5 => A1 k j (by omega))
  have SQ2 : SQ i (e r) T V W σ2 := k5.upd (fun k j g => B1 k j (by omega) (by omega))
  have m29 : σ2.1 29 i = nI mk := by rw [B1 29 i (by omega) (by omega)]; exact k12
  have m28 : σ2.1 28 i = nI r := by rw [B1 28 i (by omega) (by omega)]; exact k9
  have m30 : σ2.1 30 i = nI M := by rw [B1 30 i (by omega) (by omega)]; exact k7
  have m00 : σ2.1 0 0 = nI t := by rw [B1 0 0 (by omega) (by omega)]; exact hnow
  have a11 : a2.1 0 11 = nI mk := by rw [← m29]; unfold SR at S2; grind
  have a10 : a2.1 0 10 = nI r := by rw [← m28]; unfold SR at S2; grind
  have hten : T ≤ e r + 10 * 261 := by have := k3.ten 10 (by omega); rw [h3] at this; exact this
  -- the end, once the rounds are right
  have fin : ∀ (x3 : Int32) (r' mk' p' ca' : Nat) (e' : Nat → Nat) (a3 : jSS) (σ3 : jRS), 0 < r' → r' ≤ d + 1 → mk' ≤ d + 1 → (r' = 0 → mk' = 0) → T + 1 ≤ e' (r' + 9) + ca' → ca' + p' ≤ 261 → DT i m (d + 1) mk' p' dt σ → CS i tn a3 σ3 → EW r' T e' V → SC r' T e' V a3 → SQ i (e r) T V W σ3 → e r ≤ e' r' → (∀ j, e r ≤ j → j < e' r' → W j + 10 ≤ r') → WE r' e' W → σ3.1 28 i = nI r' → σ3.1 29 i = nI mk' → σ3.1 30 i = nI M → (∀ k j, ¬ (j = i ∧ (k = 28 ∨ k = 29)) → σ3.1 k j = σ2.1 k j) → σ3.2 = σ2.2 → (∀ k j, ¬ (k = 0 ∧ (j = 10 ∨ j = 11)) → k ≠ 2 → k ≠ 4 → k ≠ 5 → k ≠ 6 → a3.1 k j = a2.1 k j) → a3.2 = a2.2 → (∀ P, wX5_take_84 N a3 b q (nI t) x3 P → wX5_take_38 N a2 b q (nI t) P) → (∀ post, wX7_takes_152 N σ3 (nI i) sn (nI dk) x6 x7 x3 post → (vp_in (nI i) 2 ∧ ((nI dk < (σ2.1 29 i)) → (wX7_takes_123 N σ2 (nI i) sn (nI dk) x6 x7 0 post)) ∧ ((¬ nI dk < (σ2.1 29 i)) → (wX7_takes_123 N σ2 (nI i) sn (nI dk) x6 x7 1 post)))) → ∃ a' σ', KN i m (d + 1) a' σ' ∧ FX i σ σ' ∧ σ'.1 0 15 = σ.1 0 15 + 1 ∧ (∀ k j, 16 ≤ k → k ≤ 24 → σ'.1 k j = σ.1 k j) ∧ (∀ j, a'.1 1 j = a.1 1 j) ∧ a'.2 = a.2 ∧ (∀ j, j ≤ 6 → a'.1 0 j = a.1 0 j) ∧ (∀ P : jSS → jGS → Prop, P a' b → wX5_take N a b q (nI t) P) ∧ ∀ post, post σ' → wTk N σ (nI i) sn (nI dk) x6 x7 post := by
    intro x3 r' mk' p' ca' e' a3 σ3 y1 y2 y3 y4 y5 y6 y7 y8 y9 y10 y11 y12 y13 y14 y15 y16 y17 y18 y19 y20 y21 y22 y23
    have y25 : σ3.1 25 i = nI (d + 1) := by rw [y18 25 i (by omega)]; exact B3
    obtain ⟨T', e2, V2, W2, M2, a4, σ4, z1, z2, z3, z4, z5, z6, z7, z8, z9, z10, z11, z12, z13⟩ := p_rate (N := N) (t := t) (q := q) (b := b) (x3 := x3) (x6 := x6) (x7 := x7) (sn := sn) (dk := dk) hi hN (by omega) y1 (by omega) hd (by omega) y8 (by rw [y18 0 0 (by omega)]; exact m00) y9 y10 y11 y12 (by omega) y13 y14 y15 y25 y17 k8 (by omega) hq f3 f4 f5
    obtain ⟨tn', a5, σ5, v1, v2, v3, v4, v5⟩ := p_tail (N := N) (q := q) (b := b) (x3 := x3) (x7 := x7) (sn := sn) hi (by omega) (by omega) ht z9 (by rw [z11.1 0 0 (by omega) (by omega) (by omega) (by omega) (by omega), y18 0 0 (by omega)]; exact m00) hq f5 f2
    obtain ⟨w1, w2, w3, w4, w5⟩ := v3
    have hall : ∀ k j, k ≠ 37 → k ≠ 38 → k ≠ 31 → k ≠ 32 → k < 39 → ¬ (j = i ∧ (k = 25 ∨ k = 26 ∨ k = 27 ∨ k = 28 ∨ k = 29 ∨ k = 30 ∨ k = 35 ∨ k = 36)) → ¬ (k = 0 ∧ j = 15) → σ5.1 k j = σ.1 k j := fun k j g1 g2 g3 g4 g5 g6 g7 => by
      rw [w3 k j g3 g4 g5, z11.1 k j g1 g2 (by omega) (by omega) (by omega), y18 k j (by omega), B1 k j g7 (by omega)]
    refine ⟨a5, σ5, ?_, ?_, ?_, fun k j g1 g2 => hall k j (by omega) (by omega) (by omega) (by omega) (by omega) (by omega) (by omega), fun j => ?_, ?_, fun j hj => ?_, fun P hP => A6 P (y22 P (z12 P (v4 P hP))), fun post hp => B7 post (y23 post (z13 post (v5 post hp)))⟩
    · refine ⟨r', T', tn', mk', p', ca', M2, e2, V2, W2, dt, ⟨v2, by omega, z2, z3.upd12 (fun k j g1 g2 g3 g4 g5 => w1 k j g3 g4 g5 (by omega)), z4.upd (fun k j g => w3 k j (by omega) (by omega) (by omega)), z5, by rw [w3 30 i (by omega) (by omega) (by omega)]; exact z7, z8, ?_, y2, ?_, ?_, y3, y4, by rw [z6]; omega, ?_, lm', l1, ?_⟩, ⟨y7.1, fun j hj => ?_, y7.2.2⟩, y6⟩
      · rw [w3 28 i (by omega) (by omega) (by omega), z11.1 28 i (by omega) (by omega) (by omega) (by omega) (by omega)]; exact y15
      · omega
      · rw [w3 29 i (by omega) (by omega) (by omega), z11.1 29 i (by omega) (by omega) (by omega) (by omega) (by omega)]; exact y16
      · rw [w3 25 i (by omega) (by omega) (by omega), z11.1 25 i (by omega) (by omega) (by omega) (by omega) (by omega)]; exact y25
      · rw [w3 27 i (by omega) (by omega) (by omega), z11.1 27 i (by omega) (by omega) (by omega) (by omega) (by omega), y18 27 i (by omega)]; exact B5
      · rw [hall 19 _ (by omega) (by omega) (by omega) (by omega) (by omega) (by omega) (by omega)]
        exact y7.2.1 j hj
    · have F3 : FX i σ2 σ3 := ⟨fun k j g1 g2 => y18 k j (fun g3 => g1 (by unfold own; grind)), fun j _ => by rw [y19]⟩
      exact ((F2.tr F3).tr z11.2.2.fx).tr w5.fx
    · rw [w3 0 15 (by omega) (by omega) (by omega), z11.1 0 15 (by omega) (by omega) (by omega) (by omega) (by omega), y18 0 15 (by omega)]; exact B2
    · rw [w1 1 j (by omega) (by omega) (by omega) (by omega), z10.1 1 j (by omega) (by omega) (by omega) (by omega) (by omega), y20 1 j (by omega) (by omega) (by omega) (by omega) (by omega), A1 1 j (by omega)]
    · rw [w2, z10.2, y21, A5]
    · rw [w1 0 j (by omega) (by omega) (by omega) (by omega), z10.1 0 j (by omega) (by omega) (by omega) (by omega) (by omega), y20 0 j (by omega) (by omega) (by omega) (by omega) (by omega), A1 0 j (by omega)]
  by_cases hbeg : dk < mk
  · -- no new round
    have hcap := hca hbeg
    have hr0 : 0 < r := by
      rcases Nat.eq_zero_or_pos r with h | h
      · have := k14 h; omega
      · exact h
    refine fin 0 r mk p (ca + 1) e a2 σ2 hr0 (by omega) (by omega) k14 (by omega) (by omega) ⟨hD.1, fun j hj => ⟨(hD.2.1 j hj).1, by have := (hD.2.1 j hj).2.1; omega, (hD.2.1 j hj).2.2⟩, hD.2.2⟩ C2 k3 SC2 SQ2 (by omega) (fun j g1 g2 => by omega) k6 m28 m29 m30 (fun _ _ _ => rfl) rfl (fun _ _ _ _ _ _ _ => rfl) rfl (fun P hP => ?_) (fun post hp => ?_)
    · unfold wX5_take_38 wX5_take_54
      rw [f3, a11]
      exact ⟨hq, pk_lt dk mk (fun _ => ⟨fun _ => hP, fun hh => absurd rfl hh⟩) (fun g => by omega)⟩
    · rw [m29]
      unfold wX7_takes_123
      exact ⟨vi hi, pk_lt dk mk (fun _ => ⟨fun _ => hp, fun hh => absurd rfl hh⟩) (fun g => by omega)⟩
  · -- a round begins
    have h01 : ¬ (1 : Int32) = 0 := by decide
    have hE1 := k3.begin
    have SC3 : SC r T e V (aP (aP a2 0 10 (nI (r + 1))) 0 11 (nI (d + 1))) := SC2.upd12 (fun k j g1 g2 g3 g4 g5 => by simp only [aP_rd]; grind)
    obtain ⟨a3, c1, c2, c3⟩ := c_begin (N := N) (by omega) (by omega) k3 SC3
    have eq1 : eup e (r + 11) T (r + 1) = e (r + 1) := by unfold eup; rw [if_neg (by omega)]
    have eq2 : eup e (r + 11) T (r + 10) = T := by unfold eup; rw [if_neg (by omega)]; exact h3
    have hle1 : e r ≤ e (r + 1) := k3.1 _ _ (by omega) (by omega)
    have hle2 : e (r + 1) ≤ e (r + 10) := k3.1 _ _ (by omega) (by omega)
    have hS3 : SR i a3 (rP (rP σ2 28 i (nI (r + 1))) 29 i (nI (d + 1))) := by
      have q1 := c2.1
      have q2 := c2.2
      have q3 : ∀ k j, k ≠ 2 → k ≠ 4 → k ≠ 5 → k ≠ 6 → a3.1 k j = if k = 0 ∧ j = 11 then nI (d + 1) else if k = 0 ∧ j = 10 then nI (r + 1) else a2.1 k j := fun k j g1 g2 g3 g4 => by
        rw [q1 k j g1 g2 g3 g4]; simp only [aP_rd]
      unfold SR at S2 ⊢
      rw [q2]
      simp only [rP_rd, rP_2, aP_2]
      grind
    refine fin 1 (r + 1) (d + 1) m 1 (eup e (r + 11) T) a3 (rP (rP σ2 28 i (nI (r + 1))) 29 i (nI (d + 1))) (by omega) (by omega) (by omega) (by omega) (by rw [show r + 1 + 9 = r + 10 from rfl, eq2]; omega) (by omega) ⟨by omega, fun j hj => ⟨(hD.2.1 j hj).1, by have := (hD.2.1 j hj).2.1; omega, by have := (hD.2.1 j hj).2.1; omega⟩, hD.2.2⟩ (C2.mv hS3 (fun k j g => ?_) (fun k j g => ?_) ?_) hE1 c1 (SQ2.upd (fun k j g => ?_)) (by rw [eq1]; omega) (fun j g1 g2 => ?_) ⟨k6.1, fun x g1 g2 j g3 g4 => ?_⟩ ?_ ?_ ?_ (fun k j g => ?_) rfl (fun k j g1 g2 g3 g4 g5 => ?_) ?_ (fun P hP => ?_) (fun post hp => ?_)
    · rw [c2.1 k j (by omega) (by omega) (by omega) (by omega)]; simp only [aP_rd]; grind
    · simp only [rP_rd]; grind
    · simp only [rP_rd]
      have := C2.2.1.2.2.2.1
      grind
    · simp only [rP_rd]; grind
    · rw [eq1] at g2
      have := k6.2 (r + 1) (by omega) (by omega) j (by rw [show r + 1 - 1 = r by omega]; exact g1) g2
      omega
    · by_cases hx : x = r + 11
      · unfold eup at g3 g4
        rw [if_neg (by omega), hx, show r + 11 - 1 = r + 10 by omega, h3] at g3
        rw [if_pos hx] at g4
        omega
      · unfold eup at g3 g4
        rw [if_neg (by omega)] at g3
        rw [if_neg hx] at g4
        exact k6.2 x (by omega) (by omega) j g3 g4
    · simp only [rP_rd]; grind
    · simp only [rP_rd]; grind
    · simp only [rP_rd]; grind
    · simp only [rP_rd]; grind
    · rw [c2.1 k j g2 g3 g4 g5]; simp only [aP_rd]; grind
    · rw [c2.2]; rfl
    · unfold wX5_take_38
      rw [f3, a11]
      refine ⟨hq, pk_lt dk mk (fun g => by omega) (fun _ => ?_)⟩
      unfold wX5_take_54
      refine ⟨fun hh => absurd hh h01, fun _ v ev a4 e4 v2 ev2 a5 e5 => ?_⟩
      rw [a10, nI_1] at ev
      have ev2' : v2 = nI (d + 1) := by rw [ev2, e4]; simp only [aP_rd]; grind
      subst ev ev2' e5 e4
      exact c3 _ hP
    · rw [m29]
      refine ⟨vi hi, pk_lt dk mk (fun g => by omega) (fun _ => ?_)⟩
      simp only [wX7_takes_123, ci hi]
      refine ⟨fun hh => absurd hh h01, fun _ => ⟨vi hi, fun v ev => ⟨vi hi, fun s1 e1 => ⟨vi hi, fun v2 ev2 => ⟨vi hi, fun s2 e2 => ?_⟩⟩⟩⟩⟩
      rw [m28, nI_1] at ev
      have ev2' : v2 = nI (d + 1) := by rw [ev2, e1]; simp only [rP_rd]; rw [if_neg (by omega)]; exact B3
      subst ev ev2' e2 e1
      exact hp

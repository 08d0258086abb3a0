/-! taking a letter off the way, both sides -/
theorem n512 (i p : Nat) : (512 : Int32) * nI i + nI p = nI (512 * i + p) := by
  rw [show (512 : Int32) = nI 512 from rfl, pk_mul, nI_add]
theorem aL_1 (a : jSS) (j : Nat) (r : Option Nat) : (aL a j r).1 = a.1 := rfl
theorem aL_21 (a : jSS) (j : Nat) (r : Option Nat) : (aL a j r).2.1 = a.2.1 := rfl
theorem aL_22 (a : jSS) (j : Nat) (r : Option Nat) (j' : Nat) : (aL a j r).2.2 j' = if j' = j then r else a.2.2 j' := rfl
theorem c_at {N m k q : Nat} {a : jSS} {post : Option Nat → jSS → Prop} (h1 : a.1 1 1 = nI m) (hm : m ≤ 262) (hk : k < m) (hq : a.2.2 k = some q) (h : post (some q) a) : wX3_at N a (nI k) post := by
  unfold wX3_at
  rw [h1, cl (show k < 2 ^ 31 by omega)]
  refine ⟨fun hh => absurd hh (nI_pos (by omega)), fun _ => pk_le m k (fun g => by omega) (fun _ => pk_le 262 k (fun g => by omega) (fun _ => ⟨vp_in_nI (by omega) (by omega), fun hh => ?_, fun q2 hq2 => ?_⟩))⟩
  · rw [hq] at hh; exact absurd hh (by simp)
  · rw [hq] at hq2; cases hq2; exact h
theorem c_atn {N m k : Nat} {a : jSS} {post : Option Nat → jSS → Prop} (h1 : a.1 1 1 = nI m) (hm : m ≤ 262) (hk : m ≤ k) (hk2 : k < 2 ^ 31) (h : post none a) : wX3_at N a (nI k) post := by
  unfold wX3_at
  rw [h1]
  exact ⟨fun hh => absurd hh (nI_pos hk2), fun _ => pk_le m k (fun _ => h) (fun g => by omega)⟩
theorem c_remove {N m k : Nat} {L : Nat → Nat} {a : jSS} {b : jGS} (hN : 300 ≤ N) (h1 : a.1 1 1 = nI m) (hm : m ≤ 261) (hk : k < m) (hL : ∀ j, j < m → a.2.2 j = some (L j) ∧ L j ∈ gLP b) : ∃ a' : jSS, a'.1 1 1 = nI (m - 1) ∧ (∀ k' j', ¬ (k' = 1 ∧ j' = 1) → a'.1 k' j' = a.1 k' j') ∧ a'.2.1 = a.2.1 ∧ (∀ j, a'.2.2 j = if j < k then a.2.2 j else if j < m - 1 then a.2.2 (j + 1) else if j = m - 1 then a.2.2 k else a.2.2 j) ∧ ∀ P : jSS → jGS → Prop, P a' b → wX3_remove N a b (nI k) P := by
  have key : ∀ n p : Nat, ∀ a1 : jSS, k ≤ p → p < m → m ≤ p + n → a1.1 = a.1 → a1.2.1 = a.2.1 → (∀ j, a1.2.2 j = if j < k then a.2.2 j else if j < p then a.2.2 (j + 1) else a.2.2 j) → ∃ a' : jSS, a'.1 1 1 = nI (m - 1) ∧ (∀ k' j', ¬ (k' = 1 ∧ j' = 1) → a'.1 k' j' = a.1 k' j') ∧ a'.2.1 = a.2.1 ∧ (∀ j, a'.2.2 j = if j < k then a.2.2 j else if j < m - 1 then a.2.2 (j + 1) else if j = m - 1 then a.2.2 k else a.2.2 j) ∧ ∀ P : jSS → jGS → Prop, P a' b → wX3_remove_13 N n a1 b (L k) (nI p) P := by
    intro n
    induction n with
    | zero => intro p a1 g1 g2 g3; omega
    | succ n ih =>
      intro p a1 g1 g2 g3 g4 g5 g6
      have h11 : a1.1 1 1 = nI m := by rw [g4]; exact h1
      by_cases hp : p + 1 = m
      · refine ⟨aL (aP a1 1 1 (nI (m - 1))) (m - 1) (some (L k)), ?_, ?_, ?_, ?_, fun P hP => ?_⟩
        · rw [aL_1]; simp only [aP_rd]; grind
        · intro k' j' g; rw [aL_1]; simp only [aP_rd]; rw [if_neg g, g4]
        · rw [aL_21, aP_2]; exact g5
        · intro j
          rw [aL_22, aP_2, g6]
          have := (hL k hk).1
          by_cases c1 : j = m - 1
          · rw [if_pos c1, if_neg (by omega), if_neg (by omega), if_pos c1, this]
          · rw [if_neg c1]
            by_cases c2 : j < k
            · rw [if_pos c2, if_pos c2]
            · rw [if_neg c2, if_neg c2]
              by_cases c3 : j < m - 1
              · rw [if_pos (by omega), if_pos c3]
              · rw [if_neg (by omega), if_neg c3, if_neg c1]
        · unfold wX3_remove_13
          rw [nI_1, h11]
          refine pk_le m (p + 1) (fun _ => ?_) (fun g => by omega)
          unfold wX3_remove_54
          intro v ev a2 e2
          rw [h11, show (1 : Int32) = nI 1 from rfl, pk_sub (by omega)] at ev
          subst ev
          have h2 : a2.1 1 1 = nI (m - 1) := by rw [e2]; simp only [aP_rd]; grind
          rw [h2, cl (show m - 1 < 2 ^ 31 by omega)]
          refine ⟨(hL k hk).2, vp_in_nI (by omega) (by omega), fun a3 e3 => ?_⟩
          subst e3 e2
          exact hP
      · obtain ⟨hq1, hq2⟩ := hL (p + 1) (by omega)
        obtain ⟨a', w1, w2, w3, w4, w5⟩ := ih (p + 1) (aL a1 p (some (L (p + 1)))) (by omega) (by omega) (by omega) (by rw [aL_1]; exact g4) (by rw [aL_21]; exact g5) (fun j => by
          rw [aL_22, g6]
          by_cases c1 : j = p
          · rw [if_pos c1, if_neg (by omega), if_pos (by omega), c1, hq1]
          · rw [if_neg c1]
            by_cases c2 : j < k
            · rw [if_pos c2, if_pos c2]
            · rw [if_neg c2, if_neg c2]
              by_cases c3 : j < p
              · rw [if_pos c3, if_pos (by omega)]
              · rw [if_neg c3, if_neg (by omega)])
        refine ⟨a', w1, w2, w3, w4, fun P hP => ?_⟩
        unfold wX3_remove_13
        rw [nI_1, h11]
        refine pk_le m (p + 1) (fun g => by omega) (fun _ => pk_le 262 (p + 1) (fun g => by omega) (fun _ => ?_))
        rw [cl (show p + 1 < 2 ^ 31 by omega), cl (show p < 2 ^ 31 by omega)]
        have hat : a1.2.2 (p + 1) = some (L (p + 1)) := by rw [g6, if_neg (by omega), if_neg (by omega)]; exact hq1
        refine ⟨vp_in_nI (by omega) (by omega), fun hh => ?_, fun q2 e2 => ?_⟩
        · rw [hat] at hh; exact absurd hh (by simp)
        · rw [hat] at e2
          cases e2
          refine ⟨hq2, vp_in_nI (by omega) (by omega), fun a2 e3 x3 e4 => ?_⟩
          subst e3 e4
          exact w5 P hP
  obtain ⟨a', w1, w2, w3, w4, w5⟩ := key N k a (by omega) hk (by omega) rfl rfl (fun j => by
    by_cases c1 : j < k
    · rw [if_pos c1]
    · rw [if_neg c1, if_neg (by omega)])
  refine ⟨a', w1, w2, w3, w4, fun P hP => ?_⟩
  unfold wX3_remove
  refine c_at h1 (by omega) hk (hL k hk).1 ⟨fun hh => absurd hh (by simp), fun q2 e2 => ?_⟩
  cases e2
  exact w5 P hP
theorem narb {x : Int32} (h : x = 0 ∨ x = 1) : vp_nar .boolean x = x := by
  rcases h with rfl | rfl
  · exact nar0
  · exact nar1
def shL (i m k : Nat) (σ σ' : jRS) : Prop := σ'.1 16 i = nI (m - 1) ∧ (∀ kk j, 17 ≤ kk → kk ≤ 22 → j < 512 → σ'.1 kk (512 * i + j) = if k ≤ j ∧ j < m - 1 then σ.1 kk (512 * i + j + 1) else σ.1 kk (512 * i + j)) ∧ (∀ kk j, ¬ (17 ≤ kk ∧ kk ≤ 22) → ¬ (kk = 16 ∧ j = i) → σ'.1 kk j = σ.1 kk j) ∧ σ'.2 = σ.2 ∧ FR i σ σ'
theorem own_l {i kk j : Nat} (h1 : 17 ≤ kk) (h2 : kk ≤ 22) (hj : j < 512) : own i kk (512 * i + j) := by
  refine ⟨by omega, ?_⟩
  rw [if_neg (by omega), if_pos (by omega)]
  omega
theorem q_takesOff {N i m k : Nat} {σ : jRS} (hi : i < 2) (hN : 300 ≤ N) (h1 : σ.1 16 i = nI m) (hm : m ≤ 261) (hk : k < m) (hb : ∀ j, j < m → σ.1 21 (512 * i + j) = 0 ∨ σ.1 21 (512 * i + j) = 1) : ∃ σ', shL i m k σ σ' ∧ ∀ post, post σ' → wX7_takesOff N σ (nI i) (nI k) post := by
  have key : ∀ n p : Nat, ∀ s : jRS, k ≤ p → p ≤ m - 1 → m ≤ p + n → s.1 16 i = nI (m - 1) → (∀ kk j, 17 ≤ kk → kk ≤ 22 → j < 512 → s.1 kk (512 * i + j) = if k ≤ j ∧ j < p then σ.1 kk (512 * i + j + 1) else σ.1 kk (512 * i + j)) → (∀ kk j, ¬ (17 ≤ kk ∧ kk ≤ 22) → ¬ (kk = 16 ∧ j = i) → s.1 kk j = σ.1 kk j) → s.2 = σ.2 → FR i σ s → ∃ σ', shL i m k σ σ' ∧ ∀ post, post σ' → wX7_takesOff_12 N n s (nI i) (nI p) post := by
    intro n
    induction n with
    | zero => intro p s g1 g2 g3; omega
    | succ n ih =>
      intro p s g1 g2 g3 g4 g5 g6 g7 g8
      by_cases hp : p = m - 1
      · refine ⟨s, ⟨g4, fun kk j w1 w2 w3 => by rw [g5 kk j w1 w2 w3, hp], g6, g7, g8⟩, fun post hpost => ?_⟩
        simp only [wX7_takesOff_12, ci hi, g4]
        exact ⟨vi hi, pk_le (m - 1) p (fun _ => hpost) (fun g => by omega)⟩
      · have hbool : σ.1 21 (512 * i + p + 1) = 0 ∨ σ.1 21 (512 * i + p + 1) = 1 := by
          have := hb (p + 1) (by omega)
          rwa [← Nat.add_assoc] at this
        have hnext : ∀ kk, 17 ≤ kk → kk ≤ 22 → s.1 kk (512 * i + p + 1) = σ.1 kk (512 * i + p + 1) := fun kk w1 w2 => by
          rw [show 512 * i + p + 1 = 512 * i + (p + 1) by omega, g5 kk (p + 1) w1 w2 (by omega), if_neg (by omega)]
        obtain ⟨σ', w1, w2⟩ := ih (p + 1) (rP (rP (rP (rP (rP (rP s 17 (512 * i + p) (σ.1 17 (512 * i + p + 1))) 18 (512 * i + p) (σ.1 18 (512 * i + p + 1))) 19 (512 * i + p) (σ.1 19 (512 * i + p + 1))) 20 (512 * i + p) (σ.1 20 (512 * i + p + 1))) 21 (512 * i + p) (σ.1 21 (512 * i + p + 1))) 22 (512 * i + p) (σ.1 22 (512 * i + p + 1))) (by omega) (by omega) (by omega) (by simp only [rP_rd]; grind) (fun kk j q1 q2 q3 => by
            have h5 := g5 kk j q1 q2 q3
            simp only [rP_rd]
            by_cases hj : j = p
            · subst hj
              rw [if_pos (show k ≤ j ∧ j < j + 1 by omega)]
              rcases (show kk = 17 ∨ kk = 18 ∨ kk = 19 ∨ kk = 20 ∨ kk = 21 ∨ kk = 22 by omega) with rfl | rfl | rfl | rfl | rfl | rfl <;> simp
            · have hne : ¬ 512 * i + j = 512 * i + p := by omega
              simp only [hne, and_false, if_false]
              rw [h5]
              by_cases hc : k ≤ j ∧ j < p
              · rw [if_pos hc, if_pos (by omega)]
              · rw [if_neg hc, if_neg (by omega)]) (fun kk j q1 q2 => by
            have h6 := g6 kk j q1 q2
            simp only [rP_rd]
            grind) (by simp only [rP_2]; exact g7) (g8.tr ((((((FR.put (own_l (by omega) (by omega) (by omega))).tr (FR.put (own_l (by omega) (by omega) (by omega)))).tr (FR.put (own_l (by omega) (by omega) (by omega)))).tr (FR.put (own_l (by omega) (by omega) (by omega)))).tr (FR.put (own_l (by omega) (by omega) (by omega)))).tr (FR.put (own_l (by omega) (by omega) (by omega)))))
        refine ⟨σ', w1, fun post hpost => ?_⟩
        simp only [wX7_takesOff_12, ci hi, g4]
        refine ⟨vi hi, pk_le (m - 1) p (fun g => by omega) (fun _ x4 e4 => ?_)⟩
        rw [n512] at e4
        subst e4
        rw [nI_1, cl (show 512 * i + p + 1 < 2 ^ 31 by omega), cl (show 512 * i + p < 2 ^ 31 by omega)]
        have i1 : vp_in (nI (512 * i + p + 1)) 1024 := vp_in_nI (by omega) (by omega)
        have i2 : vp_in (nI (512 * i + p)) 1024 := vp_in_nI (by omega) (by omega)
        refine ⟨i1, fun v1 ev1 => ⟨i2, fun s1 e1 => ⟨i1, fun v2 ev2 => ⟨i2, fun s2 e2 => ⟨i1, fun v3 ev3 => ⟨i2, fun s3 e3 => ⟨i1, fun v4 ev4 => ⟨i2, fun s4 e4 => ⟨i1, fun v5 ev5 => ⟨i2, fun s5 e5 => ⟨i1, fun v6 ev6 => ⟨i2, fun s6 e6 x3 ex3 => ?_⟩⟩⟩⟩⟩⟩⟩⟩⟩⟩⟩⟩
        have d1 : v1 = σ.1 17 (512 * i + p + 1) := by rw [ev1]; exact hnext 17 (by omega) (by omega)
        have d2 : v2 = σ.1 18 (512 * i + p + 1) := by rw [ev2, e1]; simp only [rP_rd]; rw [if_neg (by omega)]; exact hnext 18 (by omega) (by omega)
        have d3 : v3 = σ.1 19 (512 * i + p + 1) := by rw [ev3, e2, e1]; simp only [rP_rd]; rw [if_neg (by omega), if_neg (by omega)]; exact hnext 19 (by omega) (by omega)
        have d4 : v4 = σ.1 20 (512 * i + p + 1) := by rw [ev4, e3, e2, e1]; simp only [rP_rd]; rw [if_neg (by omega), if_neg (by omega), if_neg (by omega)]; exact hnext 20 (by omega) (by omega)
        have d5 : v5 = σ.1 21 (512 * i + p + 1) := by rw [ev5, e4, e3, e2, e1]; simp only [rP_rd]; rw [if_neg (by omega), if_neg (by omega), if_neg (by omega), if_neg (by omega)]; exact hnext 21 (by omega) (by omega)
        have d6 : v6 = σ.1 22 (512 * i + p + 1) := by rw [ev6, e5, e4, e3, e2, e1]; simp only [rP_rd]; rw [if_neg (by omega), if_neg (by omega), if_neg (by omega), if_neg (by omega), if_neg (by omega)]; exact hnext 22 (by omega) (by omega)
        rw [d5, narb hbool] at e5
        rw [d1] at e1
        rw [d2] at e2
        rw [d3] at e3
        rw [d4] at e4
        rw [d6] at e6
        rw [nI_1] at ex3
        subst ex3 e6 e5 e4 e3 e2 e1
        exact w2 post hpost
  obtain ⟨σ', w1, w2⟩ := key N k (rP σ 16 i (nI (m - 1))) (by omega) (by omega) (by omega) (by simp only [rP_rd]; grind) (fun kk j q1 q2 q3 => by
    simp only [rP_rd]
    rw [if_neg (by omega), if_neg (by omega)]) (fun kk j q1 q2 => by simp only [rP_rd]; grind) rfl (FR.put (own_s (by omega) (by omega) (by omega) (by omega)))
  refine ⟨σ', w1, fun post hp => ?_⟩
  simp only [wX7_takesOff, ci hi]
  refine ⟨vi hi, fun v ev => ⟨vi hi, fun s es => ?_⟩⟩
  rw [h1, show (1 : Int32) = nI 1 from rfl, pk_sub (by omega)] at ev
  subst ev es
  exact w2 post hp

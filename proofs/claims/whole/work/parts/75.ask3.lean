/-! a letter on the way; samples -/
def wLt (N : Nat) (a : jSS) (b : jGS) (x2 x3 : Int32) (post : Int32 → jSS → Prop) : Prop := wX3_at N a x2 (fun r_33 a_34 => ((r_33 = none) → (post ((-1)) a_34)) ∧ (∀ q_36 : Nat, r_33 = some q_36 → (((x3 = 0) → (q_36 ∈ gLP b ∧ post (gF b q_36 1) a_34)) ∧ ((¬ x3 = 0) → (((x3 = 1) → (q_36 ∈ gLP b ∧ post (gF b q_36 2) a_34)) ∧ ((¬ x3 = 1) → (((x3 = 2) → (q_36 ∈ gLP b ∧ ∀ r_43 : Int32, r_43 = jasNumber (gF b q_36 5) → post r_43 a_34)) ∧ ((¬ x3 = 2) → (((x3 = 3) → (q_36 ∈ gLP b ∧ ∀ r_46 : Int32, r_46 = jasNumber (gF b q_36 6) → post r_46 a_34)) ∧ ((¬ x3 = 3) → (post ((-2)) a_34)))))))))))
theorem v_lt {N i fo t k m lf s d al : Nat} {L : Nat → Nat} {a : jSS} {b : jGS} {σ : jRS} {x2 x3 : Int32} (hi : i < 2) (h : SI i fo t k m lf s d al L a b σ) : ∃ v, (∀ P : Int32 → jSS → Prop, P v a → wLt N a b x2 x3 P) ∧ ∀ post : Int32 → jRS → Prop, post v σ → wX7_letter N σ (nI i) x2 x3 post := by
  obtain ⟨s1, s2, s3, s4, s5, s6, s7⟩ := h
  have hm := s1.2.1
  have h16 := s1.1
  have h11 : a.1 1 1 = nI m := by rw [s2.m.1]; exact h16
  have hr : ∀ post : Int32 → jRS → Prop, (∀ r_20 : Int32, r_20 = jwithin x2 0 (nI m - 1) → ((¬ r_20 = 0) → (∀ x4_22 : Int32, x4_22 = (512 * nI i) + x2 → ((x3 = 0) → (vp_in x4_22 1024 ∧ post (σ.1 17 x4_22.toNatClampNeg) σ)) ∧ ((¬ x3 = 0) → (((x3 = 1) → (vp_in x4_22 1024 ∧ post (σ.1 18 x4_22.toNatClampNeg) σ)) ∧ ((¬ x3 = 1) → (((x3 = 2) → (vp_in x4_22 1024 ∧ (((σ.1 21 x4_22.toNatClampNeg) = 0) → (post 0 σ)) ∧ ((¬ (σ.1 21 x4_22.toNatClampNeg) = 0) → (post 1 σ)))) ∧ ((¬ x3 = 2) → (((x3 = 3) → (vp_in x4_22 1024 ∧ (((σ.1 22 x4_22.toNatClampNeg) = ((-9))) → (post 0 σ)) ∧ ((¬ (σ.1 22 x4_22.toNatClampNeg) = ((-9))) → (post 1 σ)))) ∧ ((¬ x3 = 3) → (post ((-2)) σ)))))))))) ∧ ((r_20 = 0) → (post ((-1)) σ))) → wX7_letter N σ (nI i) x2 x3 post := by
    intro post hh
    simp only [wX7_letter, ci hi, h16]
    exact fun r er => ⟨fun h0 => absurd (by rw [← er]; exact h0) (jSi hi), fun _ => ⟨vi hi, hh⟩⟩
  have out : (x2 < 0 ∨ nI m ≤ x2) → ∃ v, (∀ P : Int32 → jSS → Prop, P v a → wLt N a b x2 x3 P) ∧ ∀ post : Int32 → jRS → Prop, post v σ → wX7_letter N σ (nI i) x2 x3 post := by
    intro hc
    refine ⟨-1, fun P hP => ?_, fun post hp => hr post (fun r er => ?_)⟩
    · have hn : (((none : Option Nat) = none) → (P ((-1)) a)) := fun _ => hP
      unfold wLt wX3_at
      rw [h11]
      refine ⟨fun _ => ⟨fun _ => hP, fun q hq => absurd hq (by simp)⟩, fun c0 => ⟨fun _ => ⟨fun _ => hP, fun q hq => absurd hq (by simp)⟩, fun c1 => ?_⟩⟩
      rcases hc with c | c
      · exact absurd c c0
      · exact absurd c c1
    · rw [wc0 (by omega) hc] at er
      exact ⟨fun hh => absurd er hh, fun _ => hp⟩
  rcases pk_ix x2 (n := m) (by omega) with g | g | ⟨j, g, rfl⟩
  · exact out (.inl g)
  · exact out (.inr g)
  · obtain ⟨o1, o2, o3⟩ := s3.2.1 j (by omega)
    obtain ⟨f1, f2, f3, f4, f5, f6⟩ := s4 j g
    have h10 : ¬ (1 : Int32) = 0 := by decide
    have hin : vp_in (nI (512 * i + j)) 1024 := vp_in_nI (by omega) (by omega)
    have hcl : (nI (512 * i + j)).toNatClampNeg = 512 * i + j := cl (by omega)
    have hc : ∀ P : Int32 → jSS → Prop, ((((x3 = 0) → (L j ∈ gLP b ∧ P (gF b (L j) 1) a)) ∧ ((¬ x3 = 0) → (((x3 = 1) → (L j ∈ gLP b ∧ P (gF b (L j) 2) a)) ∧ ((¬ x3 = 1) → (((x3 = 2) → (L j ∈ gLP b ∧ ∀ r_43 : Int32, r_43 = jasNumber (gF b (L j) 5) → P r_43 a)) ∧ ((¬ x3 = 2) → (((x3 = 3) → (L j ∈ gLP b ∧ ∀ r_46 : Int32, r_46 = jasNumber (gF b (L j) 6) → P r_46 a)) ∧ ((¬ x3 = 3) → (P ((-2)) a)))))))))) → wLt N a b (nI j) x3 P := by
      intro P hP
      unfold wLt
      refine c_at h11 (by omega) g o1 ⟨fun hh => absurd hh (by simp), fun q hq => ?_⟩
      cases hq
      exact hP
    have hr2 : ∀ post : Int32 → jRS → Prop, (((x3 = 0) → (post (σ.1 17 (512 * i + j)) σ)) ∧ ((x3 = 1) → (post (σ.1 18 (512 * i + j)) σ)) ∧ ((x3 = 2) → ((((σ.1 21 (512 * i + j)) = 0) → (post 0 σ)) ∧ ((¬ (σ.1 21 (512 * i + j)) = 0) → (post 1 σ)))) ∧ ((x3 = 3) → ((((σ.1 22 (512 * i + j)) = ((-9))) → (post 0 σ)) ∧ ((¬ (σ.1 22 (512 * i + j)) = ((-9))) → (post 1 σ)))) ∧ ((¬ x3 = 0 ∧ ¬ x3 = 1 ∧ ¬ x3 = 2 ∧ ¬ x3 = 3) → post (-2) σ)) → wX7_letter N σ (nI i) (nI j) x3 post := by
      intro post hh
      refine hr post (fun r er => ⟨fun _ x4 e4 => ?_, fun h0 => ?_⟩)
      · rw [n512] at e4
        subst e4
        rw [hcl]
        exact ⟨fun c => ⟨hin, hh.1 c⟩, fun c0 => ⟨fun c => ⟨hin, hh.2.1 c⟩, fun c1 => ⟨fun c => ⟨hin, hh.2.2.1 c⟩, fun c2 => ⟨fun c => ⟨hin, hh.2.2.2.1 c⟩, fun c3 => hh.2.2.2.2 ⟨c0, c1, c2, c3⟩⟩⟩⟩⟩
      · rw [wc1 (by omega) g] at er
        rw [er] at h0; exact absurd h0 h10
    have n01 : ¬ (0 : Int32) = 1 := by decide
    have n02 : ¬ (0 : Int32) = 2 := by decide
    have n03 : ¬ (0 : Int32) = 3 := by decide
    have n12 : ¬ (1 : Int32) = 2 := by decide
    have n13 : ¬ (1 : Int32) = 3 := by decide
    have n20 : ¬ (2 : Int32) = 0 := by decide
    have n21 : ¬ (2 : Int32) = 1 := by decide
    have n23 : ¬ (2 : Int32) = 3 := by decide
    have n30 : ¬ (3 : Int32) = 0 := by decide
    have n31 : ¬ (3 : Int32) = 1 := by decide
    have n32 : ¬ (3 : Int32) = 2 := by decide
    by_cases c0 : x3 = 0
    · subst c0
      refine ⟨gF b (L j) 1, fun P hP => hc P ⟨fun _ => ⟨o2, hP⟩, fun hh => absurd rfl hh⟩, fun post hp => hr2 post ⟨fun _ => by rw [← f1]; exact hp, fun hh => absurd hh n01, fun hh => absurd hh n02, fun hh => absurd hh n03, fun hh => absurd rfl hh.1⟩⟩
    · by_cases c1 : x3 = 1
      · subst c1
        refine ⟨gF b (L j) 2, fun P hP => hc P ⟨fun hh => absurd hh h10, fun _ => ⟨fun _ => ⟨o2, hP⟩, fun hh => absurd rfl hh⟩⟩, fun post hp => hr2 post ⟨fun hh => absurd hh h10, fun _ => by rw [← f2]; exact hp, fun hh => absurd hh n12, fun hh => absurd hh n13, fun hh => absurd rfl hh.2.1⟩⟩
      · by_cases c2 : x3 = 2
        · subst c2
          refine ⟨jasNumber (gF b (L j) 5), fun P hP => hc P ⟨fun hh => absurd hh n20, fun _ => ⟨fun hh => absurd hh n21, fun _ => ⟨fun _ => ⟨o2, fun r er => by rw [er]; exact hP⟩, fun hh => absurd rfl hh⟩⟩⟩, fun post hp => hr2 post ⟨fun hh => absurd hh n20, fun hh => absurd hh n21, fun _ => ⟨fun hz => ?_, fun hz => ?_⟩, fun hh => absurd hh n23, fun hh => absurd rfl hh.2.2.1⟩⟩
          · unfold jasNumber at hp; rw [f5, if_pos hz] at hp; exact hp
          · unfold jasNumber at hp; rw [f5, if_neg hz] at hp; exact hp
        · by_cases c3 : x3 = 3
          · subst c3
            refine ⟨jasNumber (gF b (L j) 6), fun P hP => hc P ⟨fun hh => absurd hh n30, fun _ => ⟨fun hh => absurd hh n31, fun _ => ⟨fun hh => absurd hh n32, fun _ => ⟨fun _ => ⟨o2, fun r er => by rw [er]; exact hP⟩, fun hh => absurd rfl hh⟩⟩⟩⟩, fun post hp => hr2 post ⟨fun hh => absurd hh n30, fun hh => absurd hh n31, fun hh => absurd hh n32, fun _ => ⟨fun hz => ?_, fun hz => ?_⟩, fun hh => absurd rfl hh.2.2.2⟩⟩
            · rcases f6 with ⟨_, w⟩ | ⟨w, _⟩
              · unfold jasNumber at hp; rw [w, if_pos rfl] at hp; exact hp
              · exact absurd hz w
            · rcases f6 with ⟨w, _⟩ | ⟨_, w, _⟩
              · exact absurd w hz
              · unfold jasNumber at hp; rw [w, if_neg h10] at hp; exact hp
          · refine ⟨-2, fun P hP => hc P ⟨fun hh => absurd hh c0, fun _ => ⟨fun hh => absurd hh c1, fun _ => ⟨fun hh => absurd hh c2, fun _ => ⟨fun hh => absurd hh c3, fun _ => hP⟩⟩⟩⟩, fun post hp => hr2 post ⟨fun hh => absurd hh c0, fun hh => absurd hh c1, fun hh => absurd hh c2, fun hh => absurd hh c3, fun _ => hp⟩⟩

theorem t_letter {N fo0 fo1 gu k : Nat} {x : jXS} {a0 a1 : jSS} {b : jGS} {σ : jRS} {p1 p2 p3 : Int32} (hN : 8002 ≤ N) (hk5 : k < 512) (h : JI fo0 fo1 gu k x a0 a1 b σ) : wX6_letter N x a0 a1 b p1 p2 p3 (fun r x2 z0 z1 zb => wX7_letter N σ p1 p2 p3 (fun r2 σ2 => r = r2 ∧ JI fo0 fo1 gu (k + 1) x2 z0 z1 zb σ2)) := by
  have hs := h.suc
  obtain ⟨t, h3, h0, hk, hK⟩ := h.kn
  obtain ⟨m0, lf0, s0, d0, al0, L0, k0, kd0⟩ := hK 0 (by omega)
  obtain ⟨m1, lf1, s1, d1, al1, L1, k1, kd1⟩ := hK 1 (by omega)
  rw [if_pos rfl, if_pos rfl] at k0
  rw [if_neg (by omega), if_neg (by omega)] at k1
  obtain ⟨v0, f0, g0⟩ := v_lt (N := N) (i := 0) (x2 := p2) (x3 := p3) (by omega) k0
  obtain ⟨v1, f1, g1⟩ := v_lt (N := N) (i := 1) (x2 := p2) (x3 := p3) (by omega) k1
  rw [nI_0] at g0
  unfold wX6_letter
  refine ⟨fun c => ?_, fun c => ⟨fun c1 => ?_, fun c1 => ?_⟩⟩
  · subst c
    exact f0 (fun r z0 => wX7_letter N σ 0 p2 p3 (fun r2 σ2 => r = r2 ∧ JI fo0 fo1 gu (k + 1) x z0 a1 b σ2)) (g0 _ ⟨rfl, hs⟩)
  · subst c1
    exact f1 (fun r z1 => wX7_letter N σ 1 p2 p3 (fun r2 σ2 => r = r2 ∧ JI fo0 fo1 gu (k + 1) x a0 z1 b σ2)) (g1 _ ⟨rfl, hs⟩)
  · unfold wX7_letter
    intro r er
    rw [jSn c c1] at er
    exact ⟨fun _ => ⟨rfl, hs⟩, fun hh => absurd er hh⟩

def wSm (N : Nat) (a : jSS) (x2 x3 : Int32) (post : Int32 → jSS → Prop) : Prop := ∀ r_21 : Int32, r_21 = jwithin x2 0 ((a.1 2 4) - 1) → ((¬ r_21 = 0) → (((x3 = 0) → (wX4_roundsOf N a x2 (a.1 0 10) (fun r_24 a_25 => post r_24 a_25))) ∧ ((¬ x3 = 0) → (((x3 = 1) → (wX4_rateOf N a x2 (fun r_27 a_28 => post r_27 a_28))) ∧ ((¬ x3 = 1) → (post ((-2)) a)))))) ∧ ((r_21 = 0) → (post ((-1)) a))
theorem c_rounds {N r T j : Nat} {e V W : Nat → Nat} {a : jSS} (hr : r < 2 ^ 30) (hT : T < 2 ^ 30) (hE : EW r T e V) (hS : SC r T e V a) (hW : WE r e W) (hj : e r + j < T) : ∀ n g : Nat, g ≤ 9 → g + 2 ≤ n → e (r + 9 - g) ≤ e r + j → ∀ P : Int32 → jSS → Prop, P (nI (W (e r + j))) a → wX4_roundsOf_6 N n a (nI j) (nI r) (nI (e (r + 9 - g) - e r)) (nI g) P := by
  intro n
  induction n with
  | zero => intro g g1 g2; omega
  | succ n ih =>
    intro g g1 g2 g3 P hP
    obtain ⟨h1, h2, h3, h4, h5⟩ := id hE
    unfold wX4_roundsOf_6
    refine ⟨fun hh => absurd hh (nI_pos (by omega)), fun _ => ?_⟩
    rw [cl (show g < 2 ^ 31 by omega)]
    refine ⟨vp_in_nI (by omega) (by omega), fun x3 e3 => ?_⟩
    have hc := (hS.2.2.1 (r + 10 - g) (by omega) (by omega)).1
    have hx1 : r + 10 - g - 1 = r + 9 - g := by omega
    rw [hx1, show r + 10 - (r + 10 - g) = g by omega] at hc
    have m1 : e (r + 9 - g) ≤ e (r + 10 - g) := h1 _ _ (by omega) (by omega)
    have m2 : e r ≤ e (r + 9 - g) := h1 _ _ (by omega) (by omega)
    have m3 : e (r + 10 - g) ≤ T := by rw [← h3]; exact h1 _ _ (by omega) (by omega)
    have e3' : x3 = nI (e (r + 10 - g) - e r) := by
      rw [e3, hc, nI_add]
      congr 1
      omega
    subst e3'
    refine pk_le (e (r + 10 - g) - e r) j (fun c x4 e4 => ?_) (fun c => ?_)
    · have hg0 : g ≠ 0 := by
        intro h0
        rw [h0, Nat.sub_zero, h3] at c
        omega
      obtain ⟨g', rfl⟩ : ∃ g', g = g' + 1 := ⟨g - 1, by omega⟩
      rw [pk_m1] at e4
      subst e4
      have hq : r + 10 - (g' + 1) = r + 9 - g' := by omega
      rw [hq] at c ⊢
      exact ih g' (by omega) (by omega) (by omega) P hP
    · have hw := hW.2 (r + 10 - g) (by omega) (by omega) (e r + j) (by rw [hx1]; exact g3) (by omega)
      rw [pk_sub (by omega), show r - g = W (e r + j) by omega]
      exact hP
theorem v_sm {N i d r T tn mk ca M : Nat} {e V W : Nat → Nat} {a : jSS} {σ : jRS} {x2 x3 : Int32} (hi : i < 2) (hN : 8002 ≤ N) (hd : d < 2 ^ 29) (h : KB i d r T tn mk ca M e V W a σ) : ∃ v, (∀ P : Int32 → jSS → Prop, P v a → wSm N a x2 x3 P) ∧ ∀ post : Int32 → jRS → Prop, post v σ → wX7_sample N σ (nI i) x2 x3 post := by
  obtain ⟨k1, k2, k3, k4, k5, k6, k7, k8, k9, k10, k11, k12, k13, k14, k15, k16, lm, k17, k18⟩ := h
  obtain ⟨h1, h2, h3, h4, h5⟩ := id k3
  obtain ⟨q1, q2, q3⟩ := k5
  have hs := k1.1
  unfold SR at hs
  have e10 : a.1 0 10 = nI r := by rw [← k9]; grind
  have hle : e r ≤ T := by rw [← h3]; exact h1 _ _ (by omega) (by omega)
  have hten : T ≤ e r + 10 * 261 := by have := k3.ten 10 (by omega); rw [h3] at this; exact this
  have h10 : ¬ (1 : Int32) = 0 := by decide
  have hr : ∀ post : Int32 → jRS → Prop, (∀ r_15 : Int32, r_15 = jwithin x2 0 (nI (T - e r) - 1) → ((¬ r_15 = 0) → (vp_in (nI i) 2 ∧ ∀ x4_18 : Int32, x4_18 = (8192 * nI i) + ((nI (e r % 8192) + x2) - (nI (e r % 8192) + x2) / 8192 * 8192) → ((¬ x3 = 0) → (((¬ x3 = 1) → (post ((-2)) σ)) ∧ ((x3 = 1) → (vp_in x4_18 16384 ∧ post (σ.1 38 x4_18.toNatClampNeg) σ)))) ∧ ((x3 = 0) → (vp_in x4_18 16384 ∧ post (σ.1 37 x4_18.toNatClampNeg) σ)))) ∧ ((r_15 = 0) → (post ((-1)) σ))) → wX7_sample N σ (nI i) x2 x3 post := by
    intro post hh
    simp only [wX7_sample, ci hi, q1, q2]
    exact fun rr er => ⟨fun h0 => absurd (by rw [← er]; exact h0) (jSi hi), fun _ => ⟨vi hi, hh⟩⟩
  have hc : ∀ P : Int32 → jSS → Prop, (∀ r_21 : Int32, r_21 = jwithin x2 0 (nI (T - e r) - 1) → ((¬ r_21 = 0) → (((x3 = 0) → (wX4_roundsOf N a x2 (nI r) (fun r_24 a_25 => P r_24 a_25))) ∧ ((¬ x3 = 0) → (((x3 = 1) → (wX4_rateOf N a x2 (fun r_27 a_28 => P r_27 a_28))) ∧ ((¬ x3 = 1) → (P ((-2)) a)))))) ∧ ((r_21 = 0) → (P ((-1)) a))) → wSm N a x2 x3 P := by
    intro P hh
    unfold wSm
    rw [k4.2.1, e10]
    exact hh
  have out : (x2 < 0 ∨ nI (T - e r) ≤ x2) → ∃ v, (∀ P : Int32 → jSS → Prop, P v a → wSm N a x2 x3 P) ∧ ∀ post : Int32 → jRS → Prop, post v σ → wX7_sample N σ (nI i) x2 x3 post := by
    intro hx
    refine ⟨-1, fun P hP => hc P (fun rr er => ?_), fun post hp => hr post (fun rr er => ?_)⟩
    · rw [wc0 (by omega) hx] at er; exact ⟨fun hh => absurd er hh, fun _ => hP⟩
    · rw [wc0 (by omega) hx] at er; exact ⟨fun hh => absurd er hh, fun _ => hp⟩
  rcases pk_ix x2 (n := T - e r) (by omega) with g | g | ⟨j, g, rfl⟩
  · exact out (.inl g)
  · exact out (.inr g)
  · obtain ⟨d1, d2⟩ := q3 (e r + j) (by omega) (by omega)
    have hin : vp_in (nI (8192 * i + (e r + j) % 8192)) 16384 := vp_in_nI (by omega) (by omega)
    have hcl : (nI (8192 * i + (e r + j) % 8192)).toNatClampNeg = 8192 * i + (e r + j) % 8192 := cl (by omega)
    by_cases c0 : x3 = 0
    · refine ⟨nI (W (e r + j)), fun P hP => hc P (fun rr er => ?_), fun post hp => hr post (fun rr er => ?_)⟩
      · rw [wc1 (by omega) g] at er
        refine ⟨fun _ => ⟨fun _ => ?_, fun hh => absurd c0 hh⟩, fun hh => absurd (by rw [er] at hh; exact hh) h10⟩
        unfold wX4_roundsOf
        have := c_rounds (N := N) (by omega) (by omega) k3 k4 k6 (show e r + j < T by omega) N 9 (by omega) (by omega) (by rw [show r + 9 - 9 = r by omega]; omega) P hP
        rw [show r + 9 - 9 = r by omega, Nat.sub_self, nI_0] at this
        exact this
      · rw [wc1 (by omega) g] at er
        refine ⟨fun _ => ⟨vi hi, fun x4 e4 => ⟨fun hh => absurd c0 hh, fun _ => ?_⟩⟩, fun hh => absurd (by rw [er] at hh; exact hh) h10⟩
        rw [n8192 i (e r) j (by omega)] at e4
        subst e4
        rw [hcl, d1]
        exact ⟨hin, hp⟩
    · by_cases c1 : x3 = 1
      · refine ⟨nI (V (e r + j)), fun P hP => hc P (fun rr er => ?_), fun post hp => hr post (fun rr er => ?_)⟩
        · rw [wc1 (by omega) g] at er
          refine ⟨fun _ => ⟨fun hh => absurd hh c0, fun _ => ⟨fun _ => ?_, fun hh => absurd c1 hh⟩⟩, fun hh => absurd (by rw [er] at hh; exact hh) h10⟩
          unfold wX4_rateOf
          refine c_ring k4.1 (by omega) ⟨fun hh => absurd hh (nI_pos (by omega)), fun _ => pk_le 2610 ((e r + j) % 2610) (fun w => by omega) (fun _ => ⟨vp_in_nI (by omega) (by omega), ?_⟩)⟩
          rw [cl (show (e r + j) % 2610 < 2 ^ 31 by omega), k4.2.2.2 (e r + j) (by omega) (by omega)]
          exact hP
        · rw [wc1 (by omega) g] at er
          refine ⟨fun _ => ⟨vi hi, fun x4 e4 => ⟨fun _ => ⟨fun hh => absurd c1 hh, fun _ => ?_⟩, fun hh => absurd hh c0⟩⟩, fun hh => absurd (by rw [er] at hh; exact hh) h10⟩
          rw [n8192 i (e r) j (by omega)] at e4
          subst e4
          rw [hcl, d2]
          exact ⟨hin, hp⟩
      · refine ⟨-2, fun P hP => hc P (fun rr er => ?_), fun post hp => hr post (fun rr er => ?_)⟩
        · rw [wc1 (by omega) g] at er
          exact ⟨fun _ => ⟨fun hh => absurd hh c0, fun _ => ⟨fun hh => absurd hh c1, fun _ => hP⟩⟩, fun hh => absurd (by rw [er] at hh; exact hh) h10⟩
        · rw [wc1 (by omega) g] at er
          exact ⟨fun _ => ⟨vi hi, fun x4 e4 => ⟨fun _ => ⟨fun _ => hp, fun hh => absurd hh c1⟩, fun hh => absurd hh c0⟩⟩, fun hh => absurd (by rw [er] at hh; exact hh) h10⟩

theorem t_sample {N fo0 fo1 gu k : Nat} {x : jXS} {a0 a1 : jSS} {b : jGS} {σ : jRS} {p1 p2 p3 : Int32} (hN : 8002 ≤ N) (hk5 : k < 512) (h : JI fo0 fo1 gu k x a0 a1 b σ) : wX6_sample N x a0 a1 b p1 p2 p3 (fun r x2 z0 z1 zb => wX7_sample N σ p1 p2 p3 (fun r2 σ2 => r = r2 ∧ JI fo0 fo1 gu (k + 1) x2 z0 z1 zb σ2)) := by
  have hs := h.suc
  obtain ⟨t, h3, h0, hk, hK⟩ := h.kn
  obtain ⟨m0, lf0, s0, d0, al0, L0, k0, kd0⟩ := hK 0 (by omega)
  obtain ⟨m1, lf1, s1, d1, al1, L1, k1, kd1⟩ := hK 1 (by omega)
  rw [if_pos rfl, if_pos rfl] at k0
  rw [if_neg (by omega), if_neg (by omega)] at k1
  obtain ⟨r0, T0, tn0, mk0, p0, ca0, M0, e0, V0, W0, dt0, kb0, _, _⟩ := k0.kb
  obtain ⟨r1, T1, tn1, mk1, pp1, ca1, M1, e1, V1, W1, dt1, kb1, _, _⟩ := k1.kb
  obtain ⟨v0, f0, g0⟩ := v_sm (N := N) (i := 0) (x2 := p2) (x3 := p3) (by omega) hN (by omega) kb0
  obtain ⟨v1, f1, g1⟩ := v_sm (N := N) (i := 1) (x2 := p2) (x3 := p3) (by omega) hN (by omega) kb1
  rw [nI_0] at g0
  unfold wX6_sample
  refine ⟨fun c => ?_, fun c => ⟨fun c1 => ?_, fun c1 => ?_⟩⟩
  · subst c
    exact f0 (fun r z0 => wX7_sample N σ 0 p2 p3 (fun r2 σ2 => r = r2 ∧ JI fo0 fo1 gu (k + 1) x z0 a1 b σ2)) (g0 _ ⟨rfl, hs⟩)
  · subst c1
    exact f1 (fun r z1 => wX7_sample N σ 1 p2 p3 (fun r2 σ2 => r = r2 ∧ JI fo0 fo1 gu (k + 1) x a0 z1 b σ2)) (g1 _ ⟨rfl, hs⟩)
  · unfold wX7_sample
    intro r er
    rw [jSn c c1] at er
    exact ⟨fun _ => ⟨rfl, hs⟩, fun hh => absurd er hh⟩

def wBs (N : Nat) (a : jSS) (x2 : Int32) (post : Int32 → jSS → Prop) : Prop := ∀ r_13 : Int32, r_13 = jwithin x2 1 10 → ((¬ r_13 = 0) → (wX4_greatestOfLast N a x2 (fun r_15 a_16 => post r_15 a_16))) ∧ ((r_13 = 0) → (post ((-2)) a))
theorem v_bs {N i d r T tn mk ca M : Nat} {e V W : Nat → Nat} {a : jSS} {σ : jRS} {x2 : Int32} (hi : i < 2) (hN : 8002 ≤ N) (hd : d < 2 ^ 29) (h : KB i d r T tn mk ca M e V W a σ) : ∃ v, (∀ P : Int32 → jSS → Prop, P v a → wBs N a x2 P) ∧ ∀ post : Int32 → jRS → Prop, post v σ → wX7_best N σ (nI i) x2 post := by
  obtain ⟨k1, k2, k3, k4, k5, k6, k7, k8, k9, k10, k11, k12, k13, k14, k15, k16, lm, k17, k18⟩ := h
  obtain ⟨h1, h2, h3, h4, h5⟩ := id k3
  have hs := k1.1
  unfold SR at hs
  have hle : e r ≤ T := by rw [← h3]; exact h1 _ _ (by omega) (by omega)
  have hten : T ≤ e r + 10 * 261 := by have := k3.ten 10 (by omega); rw [h3] at this; exact this
  by_cases c1 : jwithin x2 1 10 = 0
  · refine ⟨-2, fun P hP => ?_, fun post hp => ?_⟩
    · unfold wBs
      intro rr er
      rw [c1] at er
      exact ⟨fun hh => absurd er hh, fun _ => hP⟩
    · simp only [wX7_best, ci hi]
      refine fun rr er => ⟨fun _ r10 er10 => ?_, fun h0 => absurd (by rw [← er]; exact h0) (jSi hi)⟩
      rw [c1] at er10
      exact ⟨fun _ => hp, fun hh => absurd er10 hh⟩
  · obtain ⟨q, q1, q2, q3⟩ := within_n (lo := 1) (hi := 10) (by omega) (by omega) c1
    subst q3
    obtain ⟨z, z1, z2⟩ := c_last (N := N) q2 (by omega) k3 k4 N 0 (-9) (by omega) (by omega) (.inl ⟨rfl, by rw [Nat.sub_zero]; exact h3⟩)
    obtain ⟨y, y1, y2⟩ := q_gf (N := N) (f := nI r - nI q + 1) hi (by omega) hle (by omega) hN h5 k5
    -- both have found the same
    have hf : ∀ j, e r ≤ j → j < T → (nI (W j) < nI r - nI q + 1 ↔ j < e (r + 10 - q)) := by
      intro j g1 g2
      have e1 : nI r - nI q + 1 = nI (r + 1) - nI q := by rw [← nI_1]; grind
      rw [e1, Int32.lt_iff_toInt_lt, pk_sub_toInt (by omega) (by omega), nI_toInt (by have := k6.1 j; omega)]
      obtain ⟨x, w1, w2, w3, w4⟩ := blk g1 10 (by rw [h3]; exact g2)
      have w5 := k6.2 x w1 w2 j w3 w4
      constructor
      · intro g
        have : e x ≤ e (r + 10 - q) := h1 _ _ (by omega) (by omega)
        omega
      · intro g
        by_cases hx : x ≤ r + 10 - q
        · omega
        · have : e (r + 10 - q) ≤ e (x - 1) := h1 _ _ (by omega) (by omega)
          omega
    have hlo : e (r + 10 - q) ≤ T := by rw [← h3]; exact h1 _ _ (by omega) (by omega)
    have hlo2 : e r ≤ e (r + 10 - q) := h1 _ _ (by omega) (by omega)
    have hyz : y = z := by
      rcases y1 with ⟨u1, u2⟩ | ⟨Z, u1, u2, u3, j, u4, u5, u6, u7⟩
      · rcases z1 with ⟨v1, v2⟩ | ⟨Z', v1, v2, v3, j', v4, v5, v6⟩
        · rw [u1, v1]
        · have := (hf j' (by omega) v5).1 (u2 j' (by omega) v5)
          omega
      · have hj : e (r + 10 - q) ≤ j := by
          by_cases g : j < e (r + 10 - q)
          · exact absurd ((hf j u4 u5).2 g) u6
          · omega
        rcases z1 with ⟨v1, v2⟩ | ⟨Z', v1, v2, v3, j', v4, v5, v6⟩
        · omega
        · have a1 := v3 j hj u5
          have a2 := u3 j' (by omega) v5 (fun g => by have := (hf j' (by omega) v5).1 g; omega)
          rw [u1, v1]
          congr 1
          omega
    subst hyz
    refine ⟨y, fun P hP => ?_, fun post hp => ?_⟩
    · unfold wBs wX4_greatestOfLast
      refine fun rr er => ⟨fun _ => ?_, fun hh => absurd (by rw [← er]; exact hh) c1⟩
      have := z2 P hP
      rw [nI_0] at this
      exact this
    · simp only [wX7_best, ci hi, k9]
      exact fun rr er => ⟨fun _ r10 er10 => ⟨fun hh => absurd (by rw [← er10]; exact hh) c1, fun _ => ⟨vi hi, y2 _ hp⟩⟩, fun h0 => absurd (by rw [← er]; exact h0) (jSi hi)⟩

theorem t_best {N fo0 fo1 gu k : Nat} {x : jXS} {a0 a1 : jSS} {b : jGS} {σ : jRS} {p1 p2 : Int32} (hN : 8002 ≤ N) (hk5 : k < 512) (h : JI fo0 fo1 gu k x a0 a1 b σ) : wX6_best N x a0 a1 b p1 p2 (fun r x2 z0 z1 zb => wX7_best N σ p1 p2 (fun r2 σ2 => r = r2 ∧ JI fo0 fo1 gu (k + 1) x2 z0 z1 zb σ2)) := by
  have hs := h.suc
  obtain ⟨t, h3, h0, hk, hK⟩ := h.kn
  obtain ⟨m0, lf0, s0, d0, al0, L0, k0, kd0⟩ := hK 0 (by omega)
  obtain ⟨m1, lf1, s1, d1, al1, L1, k1, kd1⟩ := hK 1 (by omega)
  rw [if_pos rfl, if_pos rfl] at k0
  rw [if_neg (by omega), if_neg (by omega)] at k1
  obtain ⟨r0, T0, tn0, mk0, p0, ca0, M0, e0, V0, W0, dt0, kb0, _, _⟩ := k0.kb
  obtain ⟨r1, T1, tn1, mk1, pp1, ca1, M1, e1, V1, W1, dt1, kb1, _, _⟩ := k1.kb
  obtain ⟨v0, f0, g0⟩ := v_bs (N := N) (i := 0) (x2 := p2) (by omega) hN (by omega) kb0
  obtain ⟨v1, f1, g1⟩ := v_bs (N := N) (i := 1) (x2 := p2) (by omega) hN (by omega) kb1
  rw [nI_0] at g0
  unfold wX6_best
  refine ⟨fun c => ?_, fun c => ⟨fun c1 => ?_, fun c1 => ?_⟩⟩
  · subst c
    exact f0 (fun r z0 => wX7_best N σ 0 p2 (fun r2 σ2 => r = r2 ∧ JI fo0 fo1 gu (k + 1) x z0 a1 b σ2)) (g0 _ ⟨rfl, hs⟩)
  · subst c1
    exact f1 (fun r z1 => wX7_best N σ 1 p2 (fun r2 σ2 => r = r2 ∧ JI fo0 fo1 gu (k + 1) x a0 z1 b σ2)) (g1 _ ⟨rfl, hs⟩)
  · unfold wX7_best
    intro r er
    rw [jSn c c1] at er
    exact ⟨fun hh => absurd er hh, fun _ => ⟨rfl, hs⟩⟩

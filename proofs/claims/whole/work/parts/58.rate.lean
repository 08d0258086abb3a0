/-! an answer: the rate -/
def AS2 (a a' : jSS) : Prop := (∀ k j, k ≠ 2 → k ≠ 4 → k ≠ 5 → k ≠ 6 → ¬ (k = 0 ∧ j = 12) → a'.1 k j = a.1 k j) ∧ a'.2 = a.2
def RS2 (i : Nat) (σ σ' : jRS) : Prop := (∀ k j, k ≠ 37 → k ≠ 38 → ¬ (k = 35 ∧ j = i) → ¬ (k = 36 ∧ j = i) → ¬ (k = 30 ∧ j = i) → σ'.1 k j = σ.1 k j) ∧ σ'.2 = σ.2 ∧ FR i σ σ'
def WE (r : Nat) (e W : Nat → Nat) : Prop := (∀ j, W j < 2 ^ 30) ∧ ∀ x, r < x → x ≤ r + 10 → ∀ j, e (x - 1) ≤ j → j < e x → W j + 10 = x
theorem CS.mvs {i tn M : Nat} {a a' : jSS} {σ σ' : jRS} (h : CS i tn a σ) (hA : AS2 a a') (hR : RS2 i σ σ') (h1 : a'.1 0 12 = nI M) (h2 : σ'.1 30 i = nI M) : CS i tn a' σ' := by
  obtain ⟨c1, c2, c3⟩ := h
  obtain ⟨b1, b2⟩ := hA
  obtain ⟨r1, r2, r3⟩ := hR
  refine ⟨?_, ?_, ?_⟩
  · unfold SR at c1 ⊢
    rw [b2, r2]
    grind
  · unfold CR at c2 ⊢
    grind
  · unfold TR at c3 ⊢
    obtain ⟨t1, t2, t3⟩ := c3
    refine ⟨by grind, by grind, fun j g1 g2 => ?_⟩
    have := t3 j g1 g2
    grind
theorem p_fin {N i t q r T lo M : Nat} {e V W : Nat → Nat} {a : jSS} {b : jGS} {σ : jRS} {x3 x7 sn : Int32} (hi : i < 2) (hN : 8002 ≤ N) (hr : r < 2 ^ 30) (hT : T < 2 ^ 30) (hE : EW r T e V) (hSC : SC r T e V a) (hSQ : SQ i lo T V W σ) (hlo : lo ≤ e r) (hn : T ≤ lo + 8000) (hW1 : ∀ j, lo ≤ j → j < e r → W j + 10 ≤ r) (hW2 : WE r e W) (h28 : σ.1 28 i = nI r) (h30 : σ.1 30 i = nI M) (hM : MX V lo T M) : ∃ M' a' σ', SC r T e V a' ∧ SQ i (e r) T V W σ' ∧ a'.1 0 12 = nI M' ∧ σ'.1 30 i = nI M' ∧ MX V (e r) T M' ∧ AS2 a a' ∧ RS2 i σ σ' ∧ (∀ P, wTc N a' b q (nI t) x3 P → wX5_learnRate_48 N a b (fun z0 z1 => wTc N z0 z1 q (nI t) x3 P)) ∧ ∀ post, wTr N σ' (nI i) sn x7 x3 post → wX7_takes_217 N σ (nI i) sn x7 x3 post := by
  obtain ⟨h1, h2, h3, h4, h5⟩ := id hE
  obtain ⟨M1, m1, m2, m3⟩ := c_gr (N := N) (by omega) hT hE hSC
  have hm2 : e r ≤ T := by rw [← h3]; exact h1 _ _ (by omega) (by omega)
  obtain ⟨σ', M', l1, l2, l3, l4, l5, l6, l7⟩ := q_letsGo (N := N) hi hr hT hlo hm2 hn hN h5 (fun j _ => hW2.1 j) hW1 (fun j g1 g2 => by
    obtain ⟨x, w1, w2, w3, w4⟩ := blk g1 10 (by rw [h3]; exact g2)
    have := hW2.2 x w1 w2 j w3 w4
    omega) hSQ h28 h30 hM
  have hMM : M' = M1 := l6.uq m1
  subst hMM
  refine ⟨M', aP a 0 12 (nI M'), σ', ?_, l1, ?_, l5, l6, ⟨?_, rfl⟩, ⟨fun k j g1 g2 g3 g4 g5 => l3 k j g3 g4 g5, l4, l2⟩, fun P hP => ?_, fun post hp => ?_⟩
  · obtain ⟨s1, s2, s3, s4⟩ := hSC
    refine ⟨by simp only [aP_rd]; grind, by simp only [aP_rd]; grind, fun x g1 g2 => ?_, fun j g1 g2 => ?_⟩
    · obtain ⟨q1, M2, q2, q3⟩ := s3 x g1 g2
      exact ⟨by simp only [aP_rd]; grind, M2, by simp only [aP_rd]; grind, q3⟩
    · have := s4 j g1 g2; simp only [aP_rd]; grind
  · simp only [aP_rd]; grind
  · intro k j g1 g2 g3 g4 g5; simp only [aP_rd]; grind
  · unfold wX5_learnRate_48
    refine m3 _ (fun a1 e1 => ?_)
    subst e1
    exact hP
  · unfold wX7_takes_217
    exact l7 _ hp
theorem SC.upd12 {r T : Nat} {e V : Nat → Nat} {a a' : jSS} (h : SC r T e V a) (hA : ∀ k j, k ≠ 0 → k ≠ 1 → k ≠ 3 → k ≠ 7 → k ≠ 8 → a'.1 k j = a.1 k j) : SC r T e V a' := by
  obtain ⟨s1, s2, s3, s4⟩ := h
  refine ⟨by rw [hA 2 3 (by omega) (by omega) (by omega) (by omega) (by omega)]; exact s1, by rw [hA 2 4 (by omega) (by omega) (by omega) (by omega) (by omega)]; exact s2, fun x g1 g2 => ?_, fun j g1 g2 => ?_⟩
  · rw [hA 5 _ (by omega) (by omega) (by omega) (by omega) (by omega), hA 6 _ (by omega) (by omega) (by omega) (by omega) (by omega)]
    exact s3 x g1 g2
  · rw [hA 4 _ (by omega) (by omega) (by omega) (by omega) (by omega)]
    exact s4 j g1 g2
theorem SQ.upd {i lo T : Nat} {V W : Nat → Nat} {σ σ' : jRS} (h : SQ i lo T V W σ) (hR : ∀ k j, k = 35 ∨ k = 36 ∨ k = 37 ∨ k = 38 → σ'.1 k j = σ.1 k j) : SQ i lo T V W σ' := by
  obtain ⟨s1, s2, s3⟩ := h
  refine ⟨by rw [hR _ _ (by omega)]; exact s1, by rw [hR _ _ (by omega)]; exact s2, fun j g1 g2 => ?_⟩
  rw [hR 37 _ (by omega), hR 38 _ (by omega)]
  exact s3 j g1 g2
theorem pos_n {z : Int32} (h : 1 ≤ z) : ∃ n : Nat, 0 < n ∧ n < 2 ^ 31 ∧ z = nI n := by
  have h1 := Int32.le_iff_toInt_le.1 h
  have h2 : (1 : Int32).toInt = 1 := by decide
  rw [h2] at h1
  have h3 := Int32.toInt_lt z
  refine ⟨z.toInt.toNat, by omega, by omega, ?_⟩
  apply Int32.toInt_inj.1
  rw [nI_toInt (by omega)]
  omega
theorem jmax1 (z : Int32) : jmax 1 z = if 1 ≤ z then z else 1 := by
  unfold jmax
  by_cases h : (1 : Int32) < z
  · rw [if_pos h, if_pos (Int32.le_of_lt h)]
  · rw [if_neg h]
    by_cases h2 : (1 : Int32) ≤ z
    · rw [if_pos h2]
      rcases Int32.lt_or_eq_of_le h2 with h3 | h3
      · exact absurd h3 h
      · exact h3
    · rw [if_neg h2]
theorem p_rate {N i tn t q r T lo M d dk : Nat} {e V W : Nat → Nat} {a : jSS} {b : jGS} {σ : jRS} {x3 x6 x7 sn : Int32} (hi : i < 2) (hN : 8002 ≤ N) (hr : r < 2 ^ 30) (hr0 : 0 < r) (hT : T + 1 < 2 ^ 30) (hd : 1000 * d < 2 ^ 31) (hdk : dk ≤ d) (hC : CS i tn a σ) (hnow : σ.1 0 0 = nI t) (hE : EW r T e V) (hSC : SC r T e V a) (hSQ : SQ i lo T V W σ) (hlo : lo ≤ e r) (hn : T + 1 ≤ lo + 7000) (hW1 : ∀ j, lo ≤ j → j < e r → W j + 10 ≤ r) (hW2 : WE r e W) (h28 : σ.1 28 i = nI r) (h25 : σ.1 25 i = nI d) (h30 : σ.1 30 i = nI M) (hM : MX V lo T M) (hb : T + 1 ≤ e (r + 9) + 261) (hq : q ∈ gLP b) (f3 : gF b q 3 = nI dk) (f4 : gF b q 4 = x6) (f5 : gF b q 5 = x7) : ∃ T' e' V' W' M' a' σ', T' ≤ T + 1 ∧ EW r T' e' V' ∧ SC r T' e' V' a' ∧ SQ i (e' r) T' V' W' σ' ∧ WE r e' W' ∧ e' (r + 9) = e (r + 9) ∧ σ'.1 30 i = nI M' ∧ MX V' (e' r) T' M' ∧ CS i tn a' σ' ∧ AS2 a a' ∧ RS2 i σ σ' ∧ (∀ P, wTc N a' b q (nI t) x3 P → wX5_take_84 N a b q (nI t) x3 P) ∧ ∀ post, wTr N σ' (nI i) sn x7 x3 post → wX7_takes_152 N σ (nI i) sn (nI dk) x6 x7 x3 post := by
  obtain ⟨h1, h2, h3, h4, h5⟩ := id hE
  have hs := hC.1
  unfold SR at hs
  have e07 : a.1 0 7 = nI d := by rw [← h25]; grind
  have e12 : a.1 0 12 = nI M := by rw [← h30]; grind
  have hm2 : e r ≤ T := by rw [← h3]; exact h1 _ _ (by omega) (by omega)
  have hml : e r ≤ e (r + 9) := h1 _ _ (by omega) (by omega)
  have hten : e (r + 9) ≤ e r + 9 * 261 := hE.ten 9 (by omega)
  have hML := hM.lt h5
  obtain ⟨yy, y1, y2, y3⟩ : ∃ yy : Nat, 0 < yy ∧ yy < 2 ^ 31 ∧ (if 1 ≤ nI t - x6 then nI t - x6 else 1) = nI yy := by
    by_cases hc : 1 ≤ nI t - x6
    · rw [if_pos hc]; obtain ⟨n, g1, g2, g3⟩ := pos_n hc; exact ⟨n, g1, g2, g3⟩
    · rw [if_neg hc]; exact ⟨1, by omega, by omega, rfl⟩
  have hrate : 1000 * (nI d - nI dk) / nI yy = nI (1000 * (d - dk) / yy) := by
    rw [pk_sub hdk, show (1000 : Int32) = nI 1000 from rfl, pk_mul, pk_div (by omega) y1 y2]
  have hvl : 1000 * (d - dk) / yy < 2 ^ 31 := Nat.lt_of_le_of_lt (Nat.div_le_self _ _) (by omega)
  -- the class's head
  have hcl : ∀ P, ((x7 = 0 ∨ ¬ 1000 * (d - dk) / yy < M) → wX5_learnRate_40 N a b (nI (1000 * (d - dk) / yy)) (fun z0 z1 => wTc N z0 z1 q (nI t) x3 P)) → (¬ (x7 = 0 ∨ ¬ 1000 * (d - dk) / yy < M) → wX5_learnRate_48 N a b (fun z0 z1 => wTc N z0 z1 q (nI t) x3 P)) → wX5_take_84 N a b q (nI t) x3 P := by
    intro P k1 k2
    unfold wX5_take_84 wX5_learnRate
    refine ⟨hq, hq, fun m em => ?_⟩
    rw [f4, jmax1, y3] at em
    subst em
    refine ⟨nI_ne0 y1 y2, fun v ev => ⟨hq, ?_⟩⟩
    rw [e07, f3, hrate] at ev
    subst ev
    rw [f5, e12]
    refine ⟨fun hh => k1 (.inl hh), fun hh => pk_lt (1000 * (d - dk) / yy) M (fun g => k2 (fun w => ?_)) (fun g => k1 (.inr (by omega)))⟩
    rcases w with w | w
    · exact hh w
    · exact w g
  have hrf : ∀ post, ((x7 = 0 ∨ ¬ 1000 * (d - dk) / yy < M) → wX7_takes_210 N σ (nI i) sn x7 x3 (nI (1000 * (d - dk) / yy)) post) → (¬ (x7 = 0 ∨ ¬ 1000 * (d - dk) / yy < M) → wX7_takes_217 N σ (nI i) sn x7 x3 post) → wX7_takes_152 N σ (nI i) sn (nI dk) x6 x7 x3 post := by
    intro post k1 k2
    have k3 : wX7_takes_174 N σ (nI i) sn (nI dk) x7 x3 (nI yy) post := by
      simp only [wX7_takes_174, ci hi]
      refine ⟨vi hi, nI_ne0 y1 y2, fun v ev => ?_⟩
      rw [h25, hrate] at ev
      subst ev
      rw [h30]
      refine ⟨fun hh => k1 (.inl hh), fun hh => ⟨vi hi, pk_lt (1000 * (d - dk) / yy) M (fun g => k2 (fun w => ?_)) (fun g => k1 (.inr (by omega)))⟩⟩
      rcases w with w | w
      · exact hh w
      · exact w g
    unfold wX7_takes_152
    rw [hnow]
    refine ⟨fun hh => ?_, fun hh => ?_⟩
    · rw [if_pos hh] at y3; rw [y3]; exact k3
    · rw [if_neg hh] at y3; rw [y3]; exact k3
  by_cases hk : x7 = 0 ∨ ¬ 1000 * (d - dk) / yy < M
  · obtain ⟨a1, c1, c2, c3⟩ := c_keep (N := N) (by omega) hvl hE (by omega) hSC
    obtain ⟨σ1, d1, d2, d3, d4, d5, d6⟩ := q_keep (N := N) (v := 1000 * (d - dk) / yy) hi (by omega) (show lo ≤ T by omega) (by omega) hvl hML hSQ h28 h30
    have hE' := hE.keep hr0 hb hvl
    have eqr : eup e (r + 10) (T + 1) r = e r := by unfold eup; rw [if_neg (by omega)]
    have hW2' : WE r (eup e (r + 10) (T + 1)) (vup W T r) := by
      refine ⟨fun j => ?_, fun x g1 g2 j g3 g4 => ?_⟩
      · unfold vup; by_cases hj : j = T
        · rw [if_pos hj]; exact hr
        · rw [if_neg hj]; exact hW2.1 j
      · unfold eup at g3 g4
        unfold vup
        rw [if_neg (show ¬ x - 1 = r + 10 by omega)] at g3
        by_cases hx : x = r + 10
        · rw [if_pos hx] at g4
          by_cases hj : j = T
          · rw [if_pos hj]; omega
          · rw [if_neg hj]; exact hW2.2 x g1 g2 j g3 (by rw [hx, h3]; omega)
        · rw [if_neg hx] at g4
          have : e x ≤ T := by rw [← h3]; exact h1 _ _ (by omega) (by omega)
          rw [if_neg (by omega)]
          exact hW2.2 x g1 g2 j g3 g4
    obtain ⟨M', a2, σ2, p1, p2, p3, p4, p5, p6, p7, p8, p9⟩ := p_fin (N := N) (t := t) (q := q) (b := b) (x3 := x3) (x7 := x7) (sn := sn) (lo := lo) (W := vup W T r) hi hN hr hT hE' c1 d1 (by rw [eqr]; exact hlo) (by omega) (fun j g1 g2 => by
      rw [eqr] at g2
      unfold vup
      rw [if_neg (by omega)]
      exact hW1 j g1 g2) hW2' (by rw [d3 28 i (by omega) (by omega) (by omega) (by omega)]; exact h28) d5 (hM.app (by omega))
    have hA : AS2 a a2 := ⟨fun k j g1 g2 g3 g4 g5 => by rw [p6.1 k j g1 g2 g3 g4 g5, c2.1 k j g1 g2 g3 g4], by rw [p6.2, c2.2]⟩
    have hR : RS2 i σ σ2 := ⟨fun k j g1 g2 g3 g4 g5 => by rw [p7.1 k j g1 g2 g3 g4 g5, d3 k j g1 g2 g4 g5], by rw [p7.2.1, d4], d2.tr p7.2.2⟩
    refine ⟨T + 1, _, _, _, M', a2, σ2, by omega, hE', p1, p2, hW2', ?_, p4, p5, hC.mvs hA hR p3 p4, hA, hR, fun P hP => hcl P (fun _ => ?_) (fun hh => absurd hk hh), fun post hp => hrf post (fun _ => ?_) (fun hh => absurd hk hh)⟩
    · unfold eup; rw [if_neg (by omega)]
    · unfold wX5_learnRate_40
      exact c3 _ (p8 P hP)
    · unfold wX7_takes_210
      exact d6 _ (p9 post hp)
  · obtain ⟨M', a2, σ2, p1, p2, p3, p4, p5, p6, p7, p8, p9⟩ := p_fin (N := N) (t := t) (q := q) (b := b) (x3 := x3) (x7 := x7) (sn := sn) (lo := lo) hi hN hr (by omega) hE hSC hSQ hlo (by omega) hW1 hW2 h28 h30 hM
    exact ⟨T, e, V, W, M', a2, σ2, by omega, hE, p1, p2, hW2, rfl, p4, p5, hC.mvs p6 p7 p3 p4, p6, p7, fun P hP => hcl P (fun hh => absurd hh hk) (fun _ => p8 P hP), fun post hp => hrf post (fun hh => absurd hh hk) (fun _ => p9 post hp)⟩

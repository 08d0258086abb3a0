/-! a letter leaves the gate, both sides -/
theorem LA.next {i t m lf s : Nat} {σ : jRS} (h : LA i t lf m lf s σ) : LA i (t + 1) 0 m lf s σ := by
  obtain ⟨h16, hm2, hlf, hnu, hdu, hnl, hbo⟩ := h
  refine ⟨h16, hm2, hlf, hnu, fun j hj => ?_, hnl, hbo⟩
  obtain ⟨u, u1, u2, u3, u4⟩ := hdu j hj
  have := u3 hj
  exact ⟨u, u1, by omega, fun g => by omega, by omega⟩
theorem q_placeOf {N i lf : Nat} {σ : jRS} {num : Int32} (hl : lf < 512) (hi : i < 2) (h1 : ∀ j, j < lf → ¬ σ.1 17 (512 * i + j) = num) (h2 : σ.1 17 (512 * i + lf) = num) {post : Int32 → jRS → Prop} (hp : post (nI lf) σ) : ∀ n p, p ≤ lf → lf + 1 ≤ p + n → wX7_placeOf_2 N n σ (nI i) num (nI p) post := by
  intro n
  induction n with
  | zero => intro p g1 g2; omega
  | succ n ih =>
    intro p g1 g2
    unfold wX7_placeOf_2
    rw [n512, cl (show 512 * i + p < 2 ^ 31 by omega)]
    refine ⟨vp_in_nI (by omega) (by omega), fun hh => ?_, fun hh x e => ?_⟩
    · by_cases hpl : p = lf
      · subst hpl; exact hp
      · exact absurd hh (h1 p (by omega))
    · by_cases hpl : p = lf
      · subst hpl; exact absurd h2 hh
      · rw [nI_1] at e
        subst e
        exact ih (p + 1) (by omega) (by omega)
/-- the reference's leaving, from what is served on -/
theorem q_leaves {N i t lf dl num : Nat} {σ : jRS} (hi : i < 2) (hN : 600 ≤ N) (hl : lf < 512) (hnow : σ.1 0 0 = nI t) (h5 : σ.1 0 5 = nI i) (h3 : σ.1 0 3 = nI dl) (h6 : σ.1 0 6 = nI num) (h1 : ∀ j, j < lf → ¬ σ.1 17 (512 * i + j) = nI num) (h2 : σ.1 17 (512 * i + lf) = nI num) {post : jRS → Prop} (h : wX7_leaves_56 N (rP (rP σ 13 i (σ.1 13 i + 1)) 22 (512 * i + lf) (nI (t + dl))) post) : wX7_leaves N σ post := by
  unfold wX7_leaves
  intro v ev
  rw [h5] at ev
  subst ev
  rw [ci hi]
  have i3 : vp_in (nI i) 3 := vp_in_nI (by omega) (by omega)
  refine ⟨i3, fun v2 ev2 => ⟨i3, fun s es => ?_⟩⟩
  have d5 : s.1 0 5 = nI i := by rw [es]; simp only [rP_rd]; grind
  have d6 : s.1 0 6 = nI num := by rw [es]; simp only [rP_rd]; grind
  rw [d5, d6]
  refine ⟨fun hh => ?_, fun _ => ?_⟩
  · rw [show (2 : Int32) = nI 2 from rfl] at hh
    have := (neq (by omega) (by omega)).1 hh
    omega
  · have d17 : ∀ j, s.1 17 j = σ.1 17 j := fun j => by rw [es]; simp only [rP_rd]; grind
    unfold wX7_placeOf
    refine q_placeOf hl hi (fun j g => by rw [d17]; exact h1 j g) (by rw [d17]; exact h2) ?_ N 0 (by omega) (by omega)
    intro v3 ev3
    rw [n512, cl (show 512 * i + lf < 2 ^ 31 by omega)]
    refine ⟨vp_in_nI (by omega) (by omega), fun s2 es2 => ?_⟩
    have ev3' : v3 = nI (t + dl) := by
      have e0 : s.1 0 0 = nI t := by rw [es]; simp only [rP_rd]; grind
      have e3 : s.1 0 3 = nI dl := by rw [es]; simp only [rP_rd]; grind
      rw [ev3, e0, e3, nI_add]
    subst ev2 ev3' es es2
    exact h
def wRel (N : Nat) (σ : jRS) (C : jRS → Prop) : Prop := (((σ.1 0 5) = 3) → (C σ)) ∧ ((¬ (σ.1 0 5) = 3) → (((¬ (σ.1 0 7) = (σ.1 0 0)) → (C σ)) ∧ (((σ.1 0 7) = (σ.1 0 0)) → (wX7_leaves N σ (fun s => C s)))))
theorem p_release {N gu t ql w rm dl hd : Nat} {fo k m lf s d al o : Nat → Nat} {L : Nat → Nat → Nat} {A : Nat → jSS} {b : jGS} {σ : jRS} {x : jXS} (hN : 8002 ≤ N) (ht : t < 2 ^ 30) (hnow : σ.1 0 0 = nI t) (hk : ∀ i, i < 2 → k i = lf i) (hsb0 : ∀ i, i < 2 → s i < 2 ^ 31) (h : RT fo gu t k m lf s d al L ql w rm dl hd o A b σ) : ∃ (ql' w' hd' : Nat) (lf' o' : Nat → Nat) (A' : Nat → jSS) (b' : jGS) (σ' : jRS), RT fo gu (t + 1) (fun _ => 0) m lf' s d al L ql' w' rm dl hd' o' A' b' σ' ∧ (∀ i, i < 2 → lf' i ≤ lf i + 1) ∧ (∀ j, j ≠ 5 → j ≠ 6 → j ≠ 7 → j ≠ 8 → σ'.1 0 j = σ.1 0 j) ∧ (∀ P : jXS → jSS → jSS → jGS → Prop, P x (A' 0) (A' 1) b' → wX1_release N (fo 0) (fo 1) gu x (A 0) (A 1) b (nI t) P) ∧ ∀ C, C σ' → wRel N σ C := by
  obtain ⟨h1, h2, h3, h4, h5, h6, h7, h8⟩ := h
  have hsrv := h2.srv h3
  have stay : (ql = 0 ∨ ¬ σ.1 0 7 = σ.1 0 0) → ∃ (ql' w' hd' : Nat) (lf' o' : Nat → Nat) (A' : Nat → jSS) (b' : jGS) (σ' : jRS), RT fo gu (t + 1) (fun _ => 0) m lf' s d al L ql' w' rm dl hd' o' A' b' σ' ∧ (∀ i, i < 2 → lf' i ≤ lf i + 1) ∧ (∀ j, j ≠ 5 → j ≠ 6 → j ≠ 7 → j ≠ 8 → σ'.1 0 j = σ.1 0 j) ∧ (∀ P : jXS → jSS → jSS → jGS → Prop, P x (A' 0) (A' 1) b' → wX1_release N (fo 0) (fo 1) gu x (A 0) (A 1) b (nI t) P) ∧ ∀ C, C σ' → wRel N σ C := by
    intro hc
    refine ⟨ql, w, hd, lf, o, A, b, σ, ⟨fun i hi => ?_, h2, h3, h4, h5, h6, h7, h8⟩, fun i _ => by omega, fun _ _ _ _ _ => rfl, fun P hP => ?_, fun C hC => ?_⟩
    · have := h1 i hi
      rw [hk i hi] at this
      exact ⟨this.1.next, this.2⟩
    · unfold wX1_release
      refine ⟨fun _ => hP, fun q hq => ⟨fun hh => ?_, fun _ => hP⟩⟩
      rcases hc with hc | hc
      · rw [h4.2.2.2.1 hc] at hq; exact absurd hq (by simp)
      · exfalso
        apply hc
        rw [← h5.2.2.2.1, hh, hnow]
    · unfold wRel
      refine ⟨fun _ => hC, fun hh => ⟨fun _ => hC, fun h9 => ?_⟩⟩
      rcases hc with hc | hc
      · exact absurd (hsrv.2 hc) hh
      · exact absurd h9 hc
  by_cases hq0 : ql = 0
  · exact stay (.inl hq0)
  by_cases hu : σ.1 0 7 = σ.1 0 0
  · have hqw : ql = w + 1 := by
      rcases h2.2.2.2.2.2.2.2 with g | g
      · exact absurd g.1 hq0
      · exact g
    have hns : ¬ σ.1 0 5 = 3 := fun g => hq0 (hsrv.1 g)
    have hgu : gI b 4 = nI t := by rw [h5.2.2.2.1, hu, hnow]
    obtain ⟨q1, q2, q3⟩ := h3.1 0 (by omega)
    have q2' : σ.1 0 5 = nI (o 0) := q2
    have hcl := h4.2.2.2.2 0 (by omega)
    unfold qcl at hcl
    rw [if_pos rfl] at hcl
    by_cases ho : o 0 = 2
    · -- a guest's
      rw [if_pos ho] at hcl
      have e13 : ∀ kk j, ¬ (kk = 13 ∧ j = 2) → (rP σ 13 2 (σ.1 13 2 + 1)).1 kk j = σ.1 kk j := fun kk j g => by simp only [rP_rd]; rw [if_neg g]
      have hqo : ∀ kk, qof (rP σ 13 2 (σ.1 13 2 + 1)) kk = qof σ kk := fun kk => by unfold qof; rw [e13 0 5 (by omega), e13 10 _ (by omega)]
      have hqn : ∀ kk, qnum (rP σ 13 2 (σ.1 13 2 + 1)) kk = qnum σ kk := fun kk => by unfold qnum; rw [e13 0 6 (by omega), e13 11 _ (by omega)]
      obtain ⟨w', hd', b', σ', z1, z2, z3, z4, z5, z6, z7, z8, z9, z10, z11⟩ := p_next (N := N) (a := A 0) (b := gP b 9 (gI b 9 + 1)) (σ := rP σ 13 2 (σ.1 13 2 + 1)) (t := t) (by omega) (by rw [e13 0 0 (by omega)]; exact hnow) (h2.cg (fun j g => e13 0 j (by omega))) (show QA ql o lf m _ from ⟨fun kk hkk => ⟨(h3.1 kk hkk).1, by rw [hqo]; exact (h3.1 kk hkk).2.1, fun g => by rw [hqn, e13 17 _ (by omega)]; exact (h3.1 kk hkk).2.2 g⟩, h3.2⟩) (show QC gu ql w hd o lf L _ from by
        obtain ⟨c1, c2, c3, c4, c5⟩ := h4
        exact ⟨by simp only [b_IP, b_IS, b_IL, b_IF, b_IO, b_IN, b_VP, b_VS, b_VL, b_VF, b_VO, b_VN, b_LnP, b_LnS, b_LnL, b_LnF, b_LnO, b_LnN, b_LPP, b_LPS, b_LPL, b_LPF, b_LPO, b_LPN, b_FP, b_FS, b_FL, b_FF, b_FO, b_FN, b_OP, b_OS, b_OL, b_OF, b_OO, b_ON]; rw [if_neg (by omega)]; exact c1, by simp only [b_IP, b_IS, b_IL, b_IF, b_IO, b_IN, b_VP, b_VS, b_VL, b_VF, b_VO, b_VN, b_LnP, b_LnS, b_LnL, b_LnF, b_LnO, b_LnN, b_LPP, b_LPS, b_LPL, b_LPF, b_LPO, b_LPN, b_FP, b_FS, b_FL, b_FF, b_FO, b_FN, b_OP, b_OS, b_OL, b_OF, b_OO, b_ON]; rw [if_neg (by omega)]; exact c2, c3, c4, c5⟩) (by
        obtain ⟨g1, g2, g3, g4, g5, g6, g7⟩ := h5
        unfold GS
        simp only [b_IP, b_IS, b_IL, b_IF, b_IO, b_IN, b_VP, b_VS, b_VL, b_VF, b_VO, b_VN, b_LnP, b_LnS, b_LnL, b_LnF, b_LnO, b_LnN, b_LPP, b_LPS, b_LPL, b_LPF, b_LPO, b_LPN, b_FP, b_FS, b_FL, b_FF, b_FO, b_FN, b_OP, b_OS, b_OL, b_OF, b_OO, b_ON, rP_rd]
        grind) hqw
      have hlf2 : ∀ i, i < 2 → (lf i + if o 0 = i then 1 else 0) = lf i := fun i hi => by rw [if_neg (by omega)]; rfl
      refine ⟨ql - 1, w', hd', _, _, A, b', σ', ⟨fun i hi => ?_, z1, z2, z3, z4, by rw [z7]; exact h6, by rw [z9]; exact h7, h8⟩, fun i hi => by rw [hlf2 i hi]; omega, fun j g1 g2 g3 g4 => by rw [z5 0 j (by omega) (by omega) (by omega), e13 0 j (by omega)], fun P hP => ?_, fun C hC => ?_⟩
      · have hs := h1 i hi
        rw [hk i hi] at hs
        rw [hlf2 i hi]
        have hs2 : SI i (fo i) (t + 1) 0 (m i) (lf i) (s i) (d i) (al i) (L i) (A i) b σ := ⟨hs.1.next, hs.2⟩
        refine hs2.cg (fun kk j g => ?_) (by rw [z6]; rfl) rfl (by rw [z5 13 i (by omega) (by omega) (by omega), e13 13 i (by omega)]) (fun j _ => by rw [z8]; rfl) (fun q g => by rw [z7]; exact g) (fun j _ => by rw [z9]; rfl)
        have : 16 ≤ kk := g.1
        rw [z5 kk j (by omega) (by omega) (by omega), e13 kk j (by omega)]
      · unfold wX1_release
        refine ⟨fun hh => ?_, fun q hq => ⟨fun _ => ⟨fun hh => ?_, fun q9 hq9 => ?_⟩, fun hh => absurd hgu hh⟩⟩
        · rw [hcl] at hh; exact absurd hh (by simp)
        · rw [hcl] at hh; exact absurd hh (by simp)
        · rw [hcl] at hq9
          cases hq9
          refine ⟨h6, fun _ v ev b1 e1 => ?_, fun q54 hq54 => ?_⟩
          · subst ev e1
            unfold wX1_release_76
            intro b2 e2
            subst e2
            exact z10 _ hP
          · rw [h7] at hq54; exact absurd hq54 (by simp)
      · unfold wRel
        refine ⟨fun hh => absurd hh hns, fun _ => ⟨fun hh => absurd hu hh, fun _ => ?_⟩⟩
        unfold wX7_leaves
        intro v ev
        rw [q2', ho] at ev
        subst ev
        have i3 : vp_in (nI 2) 3 := vp_in_nI (by omega) (by omega)
        rw [cl (show 2 < 2 ^ 31 by omega)]
        refine ⟨i3, fun v2 ev2 => ⟨i3, fun s2 es2 => ?_⟩⟩
        subst ev2 es2
        have d5 : (rP σ 13 2 (σ.1 13 2 + 1)).1 0 5 = 2 := by rw [e13 0 5 (by omega), q2', ho]; rfl
        rw [d5]
        exact ⟨fun _ => z11 _ hC, fun hh => absurd rfl hh⟩
    · -- a sender's
      have hi : o 0 < 2 := by omega
      obtain ⟨i, hio⟩ : ∃ i, i = o 0 := ⟨_, rfl⟩
      rw [← hio] at hi
      rw [if_neg ho, ← hio, show cn o i 0 = 0 from rfl, Nat.add_zero] at hcl
      have hnum := q3 (by omega)
      rw [← hio, show cn o i 0 = 0 from rfl, Nat.add_zero] at hnum
      have hnum' : σ.1 0 6 = σ.1 17 (512 * i + lf i) := hnum
      obtain ⟨s1, s2, s3, s4, s5, s6, s7⟩ := h1 i hi
      rw [hk i hi] at s1
      obtain ⟨l1, l2, l3, ⟨nu, n1, n2⟩, l5, l6, l7⟩ := id s1
      have hsum := h3.2 i hi
      have hlt : lf i < m i := by
        have := cn_lt (o := o) (i := i) (k := 0) (k' := ql) (by omega) hio.symm
        omega
      obtain ⟨o1, o2, o3⟩ := s3.2.1 (lf i) (by omega)
      have e22 : ∀ kk j, ¬ (kk = 13 ∧ j = i) → ¬ (kk = 22 ∧ j = 512 * i + lf i) → (rP (rP σ 13 i (σ.1 13 i + 1)) 22 (512 * i + lf i) (nI (t + dl))).1 kk j = σ.1 kk j := fun kk j g1 g2 => by simp only [rP_rd]; rw [if_neg g2, if_neg g1]
      have hqo : ∀ kk, qof (rP (rP σ 13 i (σ.1 13 i + 1)) 22 (512 * i + lf i) (nI (t + dl))) kk = qof σ kk := fun kk => by unfold qof; rw [e22 0 5 (by omega) (by omega), e22 10 _ (by omega) (by omega)]
      have hqn : ∀ kk, qnum (rP (rP σ 13 i (σ.1 13 i + 1)) 22 (512 * i + lf i) (nI (t + dl))) kk = qnum σ kk := fun kk => by unfold qnum; rw [e22 0 6 (by omega) (by omega), e22 11 _ (by omega) (by omega)]
      obtain ⟨w', hd', b', σ', z1, z2, z3, z4, z5, z6, z7, z8, z9, z10, z11⟩ := p_next (N := N) (a := if i = 0 then aP (A 0) 0 5 (σ.1 13 i + 1) else A 0) (b := gFP (gFP b (L i (lf i)) 6 1) (L i (lf i)) 7 (nI (t + dl))) (σ := rP (rP σ 13 i (σ.1 13 i + 1)) 22 (512 * i + lf i) (nI (t + dl))) (t := t) (by omega) (by rw [e22 0 0 (by omega) (by omega)]; exact hnow) (h2.cg (fun j g => e22 0 j (by omega) (by omega))) (show QA ql o lf m _ from ⟨fun kk hkk => ⟨(h3.1 kk hkk).1, by rw [hqo]; exact (h3.1 kk hkk).2.1, fun g => by rw [hqn, e22 17 _ (by omega) (by omega)]; exact (h3.1 kk hkk).2.2 g⟩, h3.2⟩) (show QC gu ql w hd o lf L _ from h4) (by
        have g := h5
        unfold GS at g ⊢
        rw [e22 0 1 (by omega) (by omega), e22 0 2 (by omega) (by omega), e22 0 3 (by omega) (by omega), e22 0 7 (by omega) (by omega), e22 0 9 (by omega) (by omega), e22 13 2 (by omega) (by omega), e22 0 12 (by omega) (by omega)]
        exact g) hqw
      have hdl := h2.2.2.2.2.1
      have hdl1 := h2.2.2.2.2.2.1
      have hdl2 := h2.2.2.2.2.2.2.1
      have hrow : ∀ kk j, 16 ≤ kk → ¬ (kk = 22 ∧ j = 512 * i + lf i) → σ'.1 kk j = σ.1 kk j := fun kk j g1 g2 => by rw [z5 kk j (by omega) (by omega) (by omega), e22 kk j (by omega) g2]
      have hrow22 : σ'.1 22 (512 * i + lf i) = nI (t + dl) := by rw [z5 22 _ (by omega) (by omega) (by omega)]; simp only [rP_rd]; rw [if_pos ⟨trivial, trivial⟩]
      have hrow13 : ∀ j, ¬ j = i → σ'.1 13 j = σ.1 13 j := fun j g => by rw [z5 13 j (by omega) (by omega) (by omega), e22 13 j (by omega) (by omega)]
      have hrow13i : σ'.1 13 i = σ.1 13 i + 1 := by rw [z5 13 i (by omega) (by omega) (by omega)]; simp only [rP_rd]; rw [if_neg (by omega), if_pos ⟨trivial, trivial⟩]
      have hgF : ∀ q kk, gF b' q kk = if q = L i (lf i) ∧ kk = 7 then nI (t + dl) else if q = L i (lf i) ∧ kk = 6 then 1 else gF b q kk := fun q kk => by rw [z8]; simp only [b_IP, b_IS, b_IL, b_IF, b_IO, b_IN, b_VP, b_VS, b_VL, b_VF, b_VO, b_VN, b_LnP, b_LnS, b_LnL, b_LnF, b_LnO, b_LnN, b_LPP, b_LPS, b_LPL, b_LPF, b_LPO, b_LPN, b_FP, b_FS, b_FL, b_FF, b_FO, b_FN, b_OP, b_OS, b_OL, b_OF, b_OO, b_ON]
      have hSI : ∀ i', i' < 2 → SI i' (fo i') (t + 1) 0 (m i') (lf i' + if o 0 = i' then 1 else 0) (s i') (d i') (al i') (L i') (va_up A i (aP (A i) 0 5 (σ.1 13 i + 1)) i') b' σ' := by
        intro i' hi'
        by_cases he : i' = i
        · subst he
          rw [va_up_self, if_pos hio.symm]
          refine ⟨⟨by rw [hrow 16 i' (by omega) (by omega)]; exact l1, l2, by omega, ⟨nu, fun j hj => by rw [hrow 17 _ (by omega) (by omega)]; exact n1 j hj, n2⟩, fun j hj => ?_, fun j g1 g2 => ?_, fun j hj => by rw [hrow 21 _ (by omega) (by omega)]; exact l7 j hj⟩, s2.cg (by omega) (fun kk j g g1 g2 g3 g4 g5 => hrow kk j g.1 (by omega)) (by rw [z6]; rfl) (fun kk j g => by simp only [aP_rd]; rw [if_neg g]) rfl, s3.cg rfl (fun q g => by rw [z7]; exact g) (fun j _ => by rw [z9]; rfl), fun j hj => ?_, s5, ?_, by rw [hrow 24 i' (by omega) (by omega)]; exact s7.1, by simp only [aP_rd]; rw [if_neg (by omega)]; exact s7.2⟩
          · by_cases hj2 : j = lf i'
            · subst hj2
              exact ⟨t + dl, hrow22, by omega, fun g => by omega, by omega⟩
            · rw [hrow 22 _ (by omega) (by omega)]
              obtain ⟨u, u1, u2, u3, u4⟩ := l5 j (by omega)
              have := u3 (by omega)
              exact ⟨u, u1, by omega, fun g => by omega, by omega⟩
          · rw [hrow 22 _ (by omega) (by omega)]; exact l6 j (by omega) g2
          · have hf := s4 j hj
            rw [hrow 17 _ (by omega) (by omega), hrow 18 _ (by omega) (by omega), hrow 19 _ (by omega) (by omega), hrow 20 _ (by omega) (by omega), hrow 21 _ (by omega) (by omega)]
            simp only [hgF]
            by_cases hj2 : j = lf i'
            · subst hj2
              rw [hrow22]
              refine ⟨by simpa using hf.1, by simpa using hf.2.1, by simpa using hf.2.2.1, by simpa using hf.2.2.2.1, by simpa using hf.2.2.2.2.1, .inr ⟨n_ne9 (by omega), by simp, by simp⟩⟩
            · have hne : ¬ L i' j = L i' (lf i') := fun g => hj2 (s3.2.2.2 _ _ (by omega) (by omega) g)
              rw [hrow 22 _ (by omega) (by omega)]
              simp only [hne, false_and, if_false]
              exact hf
          · simp only [aP_rd]; rw [if_pos ⟨trivial, trivial⟩, hrow13i]
        · rw [va_up_ne _ _ he, if_neg (by omega), Nat.add_zero]
          have hs := h1 i' hi'
          rw [hk i' hi'] at hs
          have hs2 : SI i' (fo i') (t + 1) 0 (m i') (lf i') (s i') (d i') (al i') (L i') (A i') b σ := ⟨hs.1.next, hs.2⟩
          refine hs2.cg (fun kk j g => hrow kk j g.1 (fun g2 => own_ne he g (by rw [g2.1, g2.2]; exact own_l (by omega) (by omega) (by omega)))) (by rw [z6]; rfl) rfl (hrow13 i' he) (fun j hj => ?_) (fun q g => by rw [z7]; exact g) (fun j _ => by rw [z9]; rfl)
          have hne : ¬ L i' j = L i (lf i) := fun g => by
            have e1 := (hs.2.2.1.2.1 j hj).2.2
            rw [g, o3] at e1
            exact fo_ne h8 hi hi' (fun g => he g.symm) (Option.some.inj e1)
          funext kk
          rw [hgF, if_neg (fun g => hne g.1), if_neg (fun g => hne g.1)]
      refine ⟨ql - 1, w', hd', _, _, va_up A i (aP (A i) 0 5 (σ.1 13 i + 1)), b', σ', ⟨hSI, z1, z2, z3, z4, by rw [z7]; exact h6, by rw [z9]; exact h7, h8⟩, fun i' _ => by
        by_cases h9 : o 0 = i'
        · simp only [h9, if_true]; omega
        · simp only [h9, if_false]; omega, fun j g1 g2 g3 g4 => by rw [z5 0 j (by omega) (by omega) (by omega), e22 0 j (by omega) (by omega)], fun P hP => ?_, fun C hC => ?_⟩
      · unfold wX1_release
        refine ⟨fun hh => ?_, fun q hq => ⟨fun _ => ⟨fun hh => ?_, fun q9 hq9 => ?_⟩, fun hh => absurd hgu hh⟩⟩
        · rw [hcl] at hh; exact absurd hh (by simp)
        · rw [hcl] at hh; exact absurd hh (by simp)
        · rw [hcl] at hq9
          cases hq9
          refine ⟨o2, fun hh => ?_, fun q54 hq54 => ⟨fun hh => ?_, fun q58 hq58 => ?_⟩⟩
          · rw [o3] at hh; exact absurd hh (by simp)
          · rw [hcl] at hh; exact absurd hh (by simp)
          · rw [hcl] at hq58
            cases hq58
            refine ⟨o2, fun hh => ?_, fun q61 hq61 => ?_⟩
            · rw [o3] at hh; exact absurd hh (by simp)
            · rw [o3] at hq61
              cases hq61
              have tail : ∀ (X Y : jSS), (i = 0 → X = aP (A 0) 0 5 (σ.1 13 i + 1) ∧ Y = A 1) → (i = 1 → X = A 0 ∧ Y = aP (A 1) 0 5 (σ.1 13 i + 1)) → ((gV b = none) → (False)) ∧ (∀ q_66 : Nat, gV b = some q_66 → (q_66 ∈ gLP b ∧ ∀ b_68 : jGS, b_68 = gFP b q_66 6 1 → ((gV b_68 = none) → (False)) ∧ (∀ q_70 : Nat, gV b_68 = some q_70 → (∀ v_71 : Int32, v_71 = nI t + (gI b_68 2) → q_70 ∈ gLP b_68 ∧ ∀ b_73 : jGS, b_73 = gFP b_68 q_70 7 v_71 → wX1_release_76 N (fo 0) (fo 1) gu x X Y b_73 (nI t) P)))) := by
                intro X Y hX0 hX1
                refine ⟨fun hh => ?_, fun q66 hq66 => ?_⟩
                · rw [hcl] at hh; exact absurd hh (by simp)
                · rw [hcl] at hq66
                  cases hq66
                  refine ⟨o2, fun b68 e68 => ⟨fun hh => ?_, fun q70 hq70 v71 ev71 => ?_⟩⟩
                  · rw [e68, b_VF, hcl] at hh; exact absurd hh (by simp)
                  · rw [e68, b_VF, hcl] at hq70
                    cases hq70
                    refine ⟨by rw [e68]; exact o2, fun b73 e73 => ?_⟩
                    have ev' : v71 = nI (t + dl) := by rw [ev71, e68, b_IF, h5.2.2.1, hdl, nI_add]
                    subst ev' e68 e73
                    unfold wX1_release_76
                    intro b2 e2
                    subst e2
                    rcases (show i = 0 ∨ i = 1 by omega) with e0 | e0
                    · obtain ⟨rfl, rfl⟩ := hX0 e0
                      rw [if_pos e0] at z10
                      subst e0
                      exact z10 _ hP
                    · obtain ⟨rfl, rfl⟩ := hX1 e0
                      rw [if_neg (by omega)] at z10
                      subst e0
                      exact z10 _ hP
              rcases (show i = 0 ∨ i = 1 by omega) with e0 | e0
              · refine ⟨fun _ v ev a1 e1 => tail a1 (A 1) (fun _ => ⟨?_, rfl⟩) (fun g => by omega), fun hh => absurd (by rw [e0]) hh⟩
                subst e0
                rw [e1, ev, s6]
              · refine ⟨fun hh => ?_, fun _ => ⟨by rw [e0], fun v ev a1 e1 => tail (A 0) a1 (fun g => by omega) (fun _ => ⟨rfl, ?_⟩)⟩⟩
                · rw [e0] at hh; exact absurd hh.symm h8
                · subst e0
                  rw [e1, ev, s6]
      · unfold wRel
        refine ⟨fun hh => absurd hh hns, fun _ => ⟨fun hh => absurd hu hh, fun _ => ?_⟩⟩
        have hnm := n1 (lf i) hlt
        refine q_leaves (num := nu (lf i)) hi (by omega) (by omega) hnow (by rw [q2', hio]) hdl (by rw [hnum']; exact hnm.1) (fun j hj => ?_) hnm.1 (z11 _ hC)
        rw [(n1 j (by omega)).1]
        have hb := h1 i hi
        intro g
        have hlt2 := n2 j (lf i) hj hlt
        have b1 := hnm.2
        have hsb : s i < 2 ^ 31 := hsb0 i hi
        have := (neq (by omega) (by omega)).1 g
        omega
  · exact stay (.inr hu)

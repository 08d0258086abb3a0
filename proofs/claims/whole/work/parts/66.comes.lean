/-! a letter comes to the gate, both sides -/
theorem p_comes {N ql w rm dl t z : Nat} {σ : jRS} {num : Int32} (hz : z < 3) (hnow : σ.1 0 0 = nI t) (hS : QS ql w rm dl σ) (hsrv : σ.1 0 5 = 3 ↔ ql = 0) : ∃ (r w' : Nat) (σ' : jRS), r ≤ 1 ∧ QS (ql + r) w' rm dl σ' ∧ (r = 0 → σ' = σ) ∧ (r = 1 → qof σ' ql = nI z ∧ qnum σ' ql = num) ∧ (∀ k, k < ql → qof σ' k = qof σ k ∧ qnum σ' k = qnum σ k) ∧ (∀ k j, k ≠ 10 → k ≠ 11 → ¬ (k = 0 ∧ 5 ≤ j ∧ j ≤ 9) → σ'.1 k j = σ.1 k j) ∧ σ'.2 = σ.2 ∧ (∀ post, post (nI r) σ' → wX7_comes N σ (nI z) num post) ∧ (∀ (b : jGS) (gu hd q : Nat) (o lf : Nat → Nat) (L : Nat → Nat → Nat), QC gu ql w hd o lf L b → GS b σ → q ∈ gLP b → ∃ b' : jGS, gI b' 7 = nI w' ∧ gI b' 6 = nI hd ∧ (ql + r = 0 → gV b' = none) ∧ (∀ k, k < ql → qcl b' hd k = qcl b hd k) ∧ (r = 1 → qcl b' hd ql = some q) ∧ GS b' σ' ∧ gLP b' = gLP b ∧ gF b' = gF b ∧ gO b' = gO b ∧ ∀ (a : jSS) (P : Int32 → jSS → jGS → Prop), P (nI r) a b' → wX1_admit N a b q (nI t) P) := by
  obtain ⟨s1, s2, s3, s4, s5, s6, s7, s8⟩ := id hS
  by_cases hq : ql = 0
  · have hw : w = 0 := by
      rcases s8 with g | g
      · exact g.2.1
      · omega
    have h3 : σ.1 0 5 = 3 := hsrv.2 hq
    have R : ∀ k j, ¬ (k = 0 ∧ (j = 5 ∨ j = 6 ∨ j = 7)) → (rP (rP (rP σ 0 5 (nI z)) 0 6 num) 0 7 (nI t + σ.1 0 1)).1 k j = σ.1 k j := fun k j g => by simp only [rP_rd]; grind
    refine ⟨1, 0, rP (rP (rP σ 0 5 (nI z)) 0 6 num) 0 7 (nI t + σ.1 0 1), by omega, ⟨?_, by omega, by rw [R 0 2 (by omega)]; exact s3, s4, by rw [R 0 3 (by omega)]; exact s5, s6, s7, .inr (by omega)⟩, fun g => by omega, fun _ => ⟨?_, ?_⟩, fun k hk => by omega, fun k j g1 g2 g3 => R k j (by omega), rfl, fun post hp => ?_, fun b gu hd q o lf L hC hG hin => ?_⟩
    · rw [R 0 8 (by omega), s1, hw]
    · unfold qof; rw [if_pos hq]; simp only [rP_rd]; grind
    · unfold qnum; rw [if_pos hq]; simp only [rP_rd]; grind
    · unfold wX7_comes wX7_serves
      refine ⟨fun hh => absurd h3 hh, fun _ t1 e1 t2 e2 v ev t3 e3 => ?_⟩
      have ev' : v = nI t + σ.1 0 1 := by rw [ev, e2, e1]; simp only [rP_rd]; grind
      subst ev' e3 e2 e1
      exact hp
    · obtain ⟨c1, c2, c3, c4, c5⟩ := hC
      obtain ⟨G1, G2, G3, G4, G5, G6, G7⟩ := hG
      refine ⟨gP (gS b (some q)) 4 (nI t + gI b 0), ?_, ?_, fun g => by omega, fun k hk => by omega, fun _ => ?_, ⟨?_, ?_, ?_, ?_, ?_, ?_, ?_⟩, rfl, rfl, rfl, fun a P hP => ?_⟩
      · simp only [b_IP, b_IS, b_IL, b_IF, b_IO, b_IN, b_VP, b_VS, b_VL, b_VF, b_VO, b_VN, b_LnP, b_LnS, b_LnL, b_LnF, b_LnO, b_LnN, b_LPP, b_LPS, b_LPL, b_LPF, b_LPO, b_LPN, b_FP, b_FS, b_FL, b_FF, b_FO, b_FN, b_OP, b_OS, b_OL, b_OF, b_OO, b_ON]; rw [if_neg (by omega), c1, hw]
      · simp only [b_IP, b_IS, b_IL, b_IF, b_IO, b_IN, b_VP, b_VS, b_VL, b_VF, b_VO, b_VN, b_LnP, b_LnS, b_LnL, b_LnF, b_LnO, b_LnN, b_LPP, b_LPS, b_LPL, b_LPF, b_LPO, b_LPN, b_FP, b_FS, b_FL, b_FF, b_FO, b_FN, b_OP, b_OS, b_OL, b_OF, b_OO, b_ON]; rw [if_neg (by omega), c2]
      · unfold qcl; rw [if_pos hq]; simp only [b_IP, b_IS, b_IL, b_IF, b_IO, b_IN, b_VP, b_VS, b_VL, b_VF, b_VO, b_VN, b_LnP, b_LnS, b_LnL, b_LnF, b_LnO, b_LnN, b_LPP, b_LPS, b_LPL, b_LPF, b_LPO, b_LPN, b_FP, b_FS, b_FL, b_FF, b_FO, b_FN, b_OP, b_OS, b_OL, b_OF, b_OO, b_ON]
      · simp only [b_IP, b_IS, b_IL, b_IF, b_IO, b_IN, b_VP, b_VS, b_VL, b_VF, b_VO, b_VN, b_LnP, b_LnS, b_LnL, b_LnF, b_LnO, b_LnN, b_LPP, b_LPS, b_LPL, b_LPF, b_LPO, b_LPN, b_FP, b_FS, b_FL, b_FF, b_FO, b_FN, b_OP, b_OS, b_OL, b_OF, b_OO, b_ON]; rw [R 0 1 (by omega)]; grind
      · simp only [b_IP, b_IS, b_IL, b_IF, b_IO, b_IN, b_VP, b_VS, b_VL, b_VF, b_VO, b_VN, b_LnP, b_LnS, b_LnL, b_LnF, b_LnO, b_LnN, b_LPP, b_LPS, b_LPL, b_LPF, b_LPO, b_LPN, b_FP, b_FS, b_FL, b_FF, b_FO, b_FN, b_OP, b_OS, b_OL, b_OF, b_OO, b_ON]; rw [R 0 2 (by omega)]; grind
      · simp only [b_IP, b_IS, b_IL, b_IF, b_IO, b_IN, b_VP, b_VS, b_VL, b_VF, b_VO, b_VN, b_LnP, b_LnS, b_LnL, b_LnF, b_LnO, b_LnN, b_LPP, b_LPS, b_LPL, b_LPF, b_LPO, b_LPN, b_FP, b_FS, b_FL, b_FF, b_FO, b_FN, b_OP, b_OS, b_OL, b_OF, b_OO, b_ON]; rw [R 0 3 (by omega)]; grind
      · simp only [b_IP, b_IS, b_IL, b_IF, b_IO, b_IN, b_VP, b_VS, b_VL, b_VF, b_VO, b_VN, b_LnP, b_LnS, b_LnL, b_LnF, b_LnO, b_LnN, b_LPP, b_LPS, b_LPL, b_LPF, b_LPO, b_LPN, b_FP, b_FS, b_FL, b_FF, b_FO, b_FN, b_OP, b_OS, b_OL, b_OF, b_OO, b_ON]; simp only [rP_rd]; grind
      · simp only [b_IP, b_IS, b_IL, b_IF, b_IO, b_IN, b_VP, b_VS, b_VL, b_VF, b_VO, b_VN, b_LnP, b_LnS, b_LnL, b_LnF, b_LnO, b_LnN, b_LPP, b_LPS, b_LPL, b_LPF, b_LPO, b_LPN, b_FP, b_FS, b_FL, b_FF, b_FO, b_FN, b_OP, b_OS, b_OL, b_OF, b_OO, b_ON]; rw [R 0 9 (by omega)]; grind
      · simp only [b_IP, b_IS, b_IL, b_IF, b_IO, b_IN, b_VP, b_VS, b_VL, b_VF, b_VO, b_VN, b_LnP, b_LnS, b_LnL, b_LnF, b_LnO, b_LnN, b_LPP, b_LPS, b_LPL, b_LPF, b_LPO, b_LPN, b_FP, b_FS, b_FL, b_FF, b_FO, b_FN, b_OP, b_OS, b_OL, b_OF, b_OO, b_ON]; rw [R 13 2 (by omega)]; grind
      · simp only [b_IP, b_IS, b_IL, b_IF, b_IO, b_IN, b_VP, b_VS, b_VL, b_VF, b_VO, b_VN, b_LnP, b_LnS, b_LnL, b_LnF, b_LnO, b_LnN, b_LPP, b_LPS, b_LPL, b_LPF, b_LPO, b_LPN, b_FP, b_FS, b_FL, b_FF, b_FO, b_FN, b_OP, b_OS, b_OL, b_OF, b_OO, b_ON]; rw [R 0 12 (by omega)]; grind
      · unfold wX1_admit wX1_serve
        refine ⟨fun _ => ⟨fun hh => absurd hh (by simp), fun q9 e9 b1 e1 v ev b2 e2 => ?_⟩, fun q9 h9 => ?_⟩
        · cases e9
          have ev' : v = nI t + gI b 0 := by rw [ev, e1]; rfl
          subst ev' e2 e1
          exact hP
        · rw [c4 hq] at h9; exact absurd h9 (by simp)
  · have h3 : ¬ σ.1 0 5 = 3 := fun g => hq (hsrv.1 g)
    have hqw : ql = w + 1 := by
      rcases s8 with g | g
      · exact absurd g.1 hq
      · exact g
    by_cases hw : w < rm
    · have R : ∀ k j, ¬ (k = 0 ∧ (j = 8 ∨ j = 9)) → ¬ (k = 10 ∧ j = w) → ¬ (k = 11 ∧ j = w) → (rP (rP (rP (rP σ 10 w (nI z)) 11 w num) 0 8 (nI (w + 1))) 0 9 (jmax (σ.1 0 9) (nI (w + 1)))).1 k j = σ.1 k j := fun k j g1 g2 g3 => by simp only [rP_rd]; grind
      refine ⟨1, w + 1, rP (rP (rP (rP σ 10 w (nI z)) 11 w num) 0 8 (nI (w + 1))) 0 9 (jmax (σ.1 0 9) (nI (w + 1))), by omega, ⟨?_, by omega, by rw [R 0 2 (by omega) (by omega) (by omega)]; exact s3, s4, by rw [R 0 3 (by omega) (by omega) (by omega)]; exact s5, s6, s7, .inr (by omega)⟩, fun g => by omega, fun _ => ⟨?_, ?_⟩, fun k hk => ⟨?_, ?_⟩, fun k j g1 g2 g3 => R k j (by omega) (by omega) (by omega), rfl, fun post hp => ?_, fun b gu hd q o lf L hC hG hin => ?_⟩
      · simp only [rP_rd]; grind
      · unfold qof; rw [if_neg hq, show ql - 1 = w by omega]; simp only [rP_rd]; grind
      · unfold qnum; rw [if_neg hq, show ql - 1 = w by omega]; simp only [rP_rd]; grind
      · unfold qof
        by_cases hk0 : k = 0
        · rw [if_pos hk0, if_pos hk0, R 0 5 (by omega) (by omega) (by omega)]
        · rw [if_neg hk0, if_neg hk0, R 10 _ (by omega) (by omega) (by omega)]
      · unfold qnum
        by_cases hk0 : k = 0
        · rw [if_pos hk0, if_pos hk0, R 0 6 (by omega) (by omega) (by omega)]
        · rw [if_neg hk0, if_neg hk0, R 11 _ (by omega) (by omega) (by omega)]
      · unfold wX7_comes
        refine ⟨fun _ => ?_, fun hh => absurd hh h3⟩
        rw [s1, s3]
        refine pk_lt w rm (fun _ => ⟨vp_in_nI (by omega) (by omega), fun t1 e1 => ?_⟩) (fun g => by omega)
        rw [cl (show w < 2 ^ 31 by omega)] at e1
        have d1 : t1.1 0 8 = nI w := by rw [e1]; simp only [rP_rd]; grind
        rw [d1, cl (show w < 2 ^ 31 by omega)]
        refine ⟨vp_in_nI (by omega) (by omega), fun t2 e2 v ev t3 e3 => ?_⟩
        have ev' : v = nI (w + 1) := by
          rw [ev, e2, e1]; simp only [rP_rd]; rw [if_neg (by omega), if_neg (by omega), s1, nI_1]
        have d8 : t3.1 0 8 = nI (w + 1) := by rw [e3, ev']; simp only [rP_rd]; grind
        have d9 : t3.1 0 9 = σ.1 0 9 := by rw [e3, e2, e1]; simp only [rP_rd]; grind
        rw [d8, d9]
        unfold wX7_comes_82
        subst ev'
        refine ⟨fun hle t4 e4 => ?_, fun hle t4 e4 => ?_⟩
        · have hj : jmax (σ.1 0 9) (nI (w + 1)) = σ.1 0 9 := by
            unfold jmax
            rw [if_neg (fun g => by have := Int32.lt_of_lt_of_le g hle; exact Int32.lt_irrefl this)]
          rw [hj] at hp
          subst e4 e3 e2 e1
          exact hp
        · have hj : jmax (σ.1 0 9) (nI (w + 1)) = nI (w + 1) := by
            unfold jmax
            rw [if_pos (Int32.not_le.1 hle)]
          rw [hj] at hp
          subst e4 e3 e2 e1
          exact hp
      · obtain ⟨c1, c2, c3, c4, c5⟩ := hC
        obtain ⟨G1, G2, G3, G4, G5, G6, G7⟩ := hG
        refine ⟨gP (gP (gL b ((hd + w) % 60) (some q)) 7 (nI (w + 1))) 8 (jmax (gI b 8) (nI (w + 1))), ?_, ?_, fun g => by omega, fun k hk => ?_, fun _ => ?_, ⟨?_, ?_, ?_, ?_, ?_, ?_, ?_⟩, rfl, rfl, rfl, fun a P hP => ?_⟩
        · simp only [b_IP, b_IS, b_IL, b_IF, b_IO, b_IN, b_VP, b_VS, b_VL, b_VF, b_VO, b_VN, b_LnP, b_LnS, b_LnL, b_LnF, b_LnO, b_LnN, b_LPP, b_LPS, b_LPL, b_LPF, b_LPO, b_LPN, b_FP, b_FS, b_FL, b_FF, b_FO, b_FN, b_OP, b_OS, b_OL, b_OF, b_OO, b_ON]; grind
        · simp only [b_IP, b_IS, b_IL, b_IF, b_IO, b_IN, b_VP, b_VS, b_VL, b_VF, b_VO, b_VN, b_LnP, b_LnS, b_LnL, b_LnF, b_LnO, b_LnN, b_LPP, b_LPS, b_LPL, b_LPF, b_LPO, b_LPN, b_FP, b_FS, b_FL, b_FF, b_FO, b_FN, b_OP, b_OS, b_OL, b_OF, b_OO, b_ON]; grind
        · unfold qcl
          by_cases hk0 : k = 0
          · rw [if_pos hk0, if_pos hk0]; simp only [b_IP, b_IS, b_IL, b_IF, b_IO, b_IN, b_VP, b_VS, b_VL, b_VF, b_VO, b_VN, b_LnP, b_LnS, b_LnL, b_LnF, b_LnO, b_LnN, b_LPP, b_LPS, b_LPL, b_LPF, b_LPO, b_LPN, b_FP, b_FS, b_FL, b_FF, b_FO, b_FN, b_OP, b_OS, b_OL, b_OF, b_OO, b_ON]
          · rw [if_neg hk0, if_neg hk0]; simp only [b_IP, b_IS, b_IL, b_IF, b_IO, b_IN, b_VP, b_VS, b_VL, b_VF, b_VO, b_VN, b_LnP, b_LnS, b_LnL, b_LnF, b_LnO, b_LnN, b_LPP, b_LPS, b_LPL, b_LPF, b_LPO, b_LPN, b_FP, b_FS, b_FL, b_FF, b_FO, b_FN, b_OP, b_OS, b_OL, b_OF, b_OO, b_ON]; rw [if_neg (by omega)]
        · unfold qcl; rw [if_neg hq]; simp only [b_IP, b_IS, b_IL, b_IF, b_IO, b_IN, b_VP, b_VS, b_VL, b_VF, b_VO, b_VN, b_LnP, b_LnS, b_LnL, b_LnF, b_LnO, b_LnN, b_LPP, b_LPS, b_LPL, b_LPF, b_LPO, b_LPN, b_FP, b_FS, b_FL, b_FF, b_FO, b_FN, b_OP, b_OS, b_OL, b_OF, b_OO, b_ON]; rw [if_pos (by omega)]
        · simp only [b_IP, b_IS, b_IL, b_IF, b_IO, b_IN, b_VP, b_VS, b_VL, b_VF, b_VO, b_VN, b_LnP, b_LnS, b_LnL, b_LnF, b_LnO, b_LnN, b_LPP, b_LPS, b_LPL, b_LPF, b_LPO, b_LPN, b_FP, b_FS, b_FL, b_FF, b_FO, b_FN, b_OP, b_OS, b_OL, b_OF, b_OO, b_ON]; rw [R 0 1 (by omega) (by omega) (by omega)]; grind
        · simp only [b_IP, b_IS, b_IL, b_IF, b_IO, b_IN, b_VP, b_VS, b_VL, b_VF, b_VO, b_VN, b_LnP, b_LnS, b_LnL, b_LnF, b_LnO, b_LnN, b_LPP, b_LPS, b_LPL, b_LPF, b_LPO, b_LPN, b_FP, b_FS, b_FL, b_FF, b_FO, b_FN, b_OP, b_OS, b_OL, b_OF, b_OO, b_ON]; rw [R 0 2 (by omega) (by omega) (by omega)]; grind
        · simp only [b_IP, b_IS, b_IL, b_IF, b_IO, b_IN, b_VP, b_VS, b_VL, b_VF, b_VO, b_VN, b_LnP, b_LnS, b_LnL, b_LnF, b_LnO, b_LnN, b_LPP, b_LPS, b_LPL, b_LPF, b_LPO, b_LPN, b_FP, b_FS, b_FL, b_FF, b_FO, b_FN, b_OP, b_OS, b_OL, b_OF, b_OO, b_ON]; rw [R 0 3 (by omega) (by omega) (by omega)]; grind
        · simp only [b_IP, b_IS, b_IL, b_IF, b_IO, b_IN, b_VP, b_VS, b_VL, b_VF, b_VO, b_VN, b_LnP, b_LnS, b_LnL, b_LnF, b_LnO, b_LnN, b_LPP, b_LPS, b_LPL, b_LPF, b_LPO, b_LPN, b_FP, b_FS, b_FL, b_FF, b_FO, b_FN, b_OP, b_OS, b_OL, b_OF, b_OO, b_ON]; rw [R 0 7 (by omega) (by omega) (by omega)]; grind
        · simp only [b_IP, b_IS, b_IL, b_IF, b_IO, b_IN, b_VP, b_VS, b_VL, b_VF, b_VO, b_VN, b_LnP, b_LnS, b_LnL, b_LnF, b_LnO, b_LnN, b_LPP, b_LPS, b_LPL, b_LPF, b_LPO, b_LPN, b_FP, b_FS, b_FL, b_FF, b_FO, b_FN, b_OP, b_OS, b_OL, b_OF, b_OO, b_ON]; simp only [rP_rd]; rw [G5]; grind
        · simp only [b_IP, b_IS, b_IL, b_IF, b_IO, b_IN, b_VP, b_VS, b_VL, b_VF, b_VO, b_VN, b_LnP, b_LnS, b_LnL, b_LnF, b_LnO, b_LnN, b_LPP, b_LPS, b_LPL, b_LPF, b_LPO, b_LPN, b_FP, b_FS, b_FL, b_FF, b_FO, b_FN, b_OP, b_OS, b_OL, b_OF, b_OO, b_ON]; rw [R 13 2 (by omega) (by omega) (by omega)]; grind
        · simp only [b_IP, b_IS, b_IL, b_IF, b_IO, b_IN, b_VP, b_VS, b_VL, b_VF, b_VO, b_VN, b_LnP, b_LnS, b_LnL, b_LnF, b_LnO, b_LnN, b_LPP, b_LPS, b_LPL, b_LPF, b_LPO, b_LPN, b_FP, b_FS, b_FL, b_FF, b_FO, b_FN, b_OP, b_OS, b_OL, b_OF, b_OO, b_ON]; rw [R 0 12 (by omega) (by omega) (by omega)]; grind
        · have c0 := c5 0 (by omega)
          unfold qcl at c0
          rw [if_pos rfl] at c0
          have tl : ∀ x3, x3 = nI ((hd + w) % 60) → wX1_admit_42 N a b q x3 P := by
            intro x3 e3
            subst e3
            unfold wX1_admit_42
            rw [G2, s3, c1]
            refine pk_le rm w (fun g => by omega) (fun _ => ⟨fun hh => absurd hh (nI_pos (by omega)), fun _ => pk_lt ((hd + w) % 60) 60 (fun g => ⟨hin, vp_in_nI g (by omega), fun b1 e1 v ev b2 e2 m em b3 e3 => ?_⟩) (fun g => by omega)⟩)
            rw [cl (show (hd + w) % 60 < 2 ^ 31 by omega)] at e1
            have ev' : v = nI (w + 1) := by rw [ev, e1, b_IL, c1, nI_1]
            have em' : m = jmax (gI b 8) (nI (w + 1)) := by
              have f7 : gI b2 7 = nI (w + 1) := by rw [e2, ev']; simp only [b_IP, b_IS, b_IL, b_IF, b_IO, b_IN, b_VP, b_VS, b_VL, b_VF, b_VO, b_VN, b_LnP, b_LnS, b_LnL, b_LnF, b_LnO, b_LnN, b_LPP, b_LPS, b_LPL, b_LPF, b_LPO, b_LPN, b_FP, b_FS, b_FL, b_FF, b_FO, b_FN, b_OP, b_OS, b_OL, b_OF, b_OO, b_ON]; grind
              have f8 : gI b2 8 = gI b 8 := by rw [e2, e1]; simp only [b_IP, b_IS, b_IL, b_IF, b_IO, b_IN, b_VP, b_VS, b_VL, b_VF, b_VO, b_VN, b_LnP, b_LnS, b_LnL, b_LnF, b_LnO, b_LnN, b_LPP, b_LPS, b_LPL, b_LPF, b_LPO, b_LPN, b_FP, b_FS, b_FL, b_FF, b_FO, b_FN, b_OP, b_OS, b_OL, b_OF, b_OO, b_ON]; grind
              rw [em, f7, f8]
            subst ev' em' e3 e2 e1
            exact hP
          unfold wX1_admit
          refine ⟨fun hh => ?_, fun q30 _ x3 e3 => ?_⟩
          · rw [c0] at hh; exact absurd hh (by simp)
          · rw [c2, c1, nI_add] at e3
            subst e3
            refine pk_lt (hd + w) 60 (fun g => tl _ (by rw [show (hd + w) % 60 = hd + w by omega])) (fun g x4 e4 => ?_)
            rw [show (60 : Int32) = nI 60 from rfl, pk_sub g] at e4
            exact tl _ (by rw [e4, show (hd + w) % 60 = hd + w - 60 by omega])
    · refine ⟨0, w, σ, by omega, hS, fun _ => rfl, fun g => by omega, fun k hk => ⟨rfl, rfl⟩, fun _ _ _ _ _ => rfl, rfl, fun post hp => ?_, fun b gu hd q o lf L hC hG hin => ?_⟩
      · unfold wX7_comes
        refine ⟨fun _ => ?_, fun hh => absurd hh h3⟩
        rw [s1, s3]
        exact pk_lt w rm (fun g => by omega) (fun _ => hp)
      · obtain ⟨c1, c2, c3, c4, c5⟩ := id hC
        obtain ⟨G1, G2, G3, G4, G5, G6, G7⟩ := id hG
        refine ⟨b, c1, c2, fun g => by omega, fun k hk => rfl, fun g => by omega, hG, rfl, rfl, rfl, fun a P hP => ?_⟩
        have c0 := c5 0 (by omega)
        unfold qcl at c0
        rw [if_pos rfl] at c0
        have tl : ∀ x3, wX1_admit_42 N a b q x3 P := by
          intro x3
          unfold wX1_admit_42
          rw [G2, s3, c1]
          exact pk_le rm w (fun _ => hP) (fun g => by omega)
        unfold wX1_admit
        refine ⟨fun hh => ?_, fun q30 _ x3 e3 => ⟨fun _ => tl _, fun _ x4 _ => tl _⟩⟩
        rw [c0] at hh; exact absurd hh (by simp)
/-- the line with one more entry -/
theorem QA.app {ql z r : Nat} {o lf m : Nat → Nat} {σ σ' : jRS} (h : QA ql o lf m σ) (hz : z < 3) (hr : r ≤ 1) (h1 : r = 1 → qof σ' ql = nI z ∧ (z < 2 → qnum σ' ql = σ'.1 17 (512 * z + m z))) (h2 : ∀ k, k < ql → qof σ' k = qof σ k ∧ qnum σ' k = qnum σ k) (h17 : ∀ i j, i < 2 → j < m i → σ'.1 17 (512 * i + j) = σ.1 17 (512 * i + j)) : QA (ql + r) (eup o ql z) lf (fun i => if i = z then m i + r else m i) σ' := by
  obtain ⟨q1, q2⟩ := h
  have hcn : ∀ i k, k ≤ ql → cn (eup o ql z) i k = cn o i k := fun i k hk => cn_cg k (fun k' g => by unfold eup; rw [if_neg (by omega)])
  refine ⟨fun k hk => ?_, fun i hi => ?_⟩
  · by_cases hkq : k = ql
    · have hr1 : r = 1 := by omega
      subst hkq
      have e : eup o k z k = z := by unfold eup; rw [if_pos rfl]
      rw [e]
      refine ⟨hz, (h1 hr1).1, fun g => ?_⟩
      rw [(h1 hr1).2 g, hcn z k (by omega), q2 z g]
    · have hk2 : k < ql := by omega
      have e : eup o ql z k = o k := by unfold eup; rw [if_neg hkq]
      obtain ⟨w1, w2, w3⟩ := q1 k hk2
      rw [e]
      refine ⟨w1, by rw [(h2 k hk2).1]; exact w2, fun g => ?_⟩
      have hlt := cn_lt hk2 (rfl : o k = o k)
      have hs := q2 (o k) g
      rw [(h2 k hk2).2, w3 g, hcn _ k (by omega), h17 (o k) _ g (by omega)]
  · rcases (show r = 0 ∨ r = 1 by omega) with e | e
    · subst e
      rw [Nat.add_zero, hcn i ql (by omega), q2 i hi]
      by_cases hz2 : i = z
      · simp only [hz2, if_true]; rfl
      · simp only [hz2, if_false]
    · subst e
      show lf i + (cn (eup o ql z) i ql + if eup o ql z ql = i then 1 else 0) = _
      have e2 : eup o ql z ql = z := by unfold eup; rw [if_pos rfl]
      rw [hcn i ql (by omega), e2]
      have := q2 i hi
      by_cases hz2 : i = z
      · rw [if_pos hz2.symm]; simp only [hz2, if_true]; rw [hz2] at this; omega
      · rw [if_neg (fun g => hz2 g.symm)]; simp only [hz2, if_false]; omega
theorem QC.app {gu ql w w' hd z r q : Nat} {o lf m : Nat → Nat} {L : Nat → Nat → Nat} {b b' : jGS} (h : QC gu ql w hd o lf L b) (hzz : z < 3) (hr : r ≤ 1) (h7 : gI b' 7 = nI w') (h6 : gI b' 6 = nI hd) (hv : ql + r = 0 → gV b' = none) (h1 : ∀ k, k < ql → qcl b' hd k = qcl b hd k) (h2 : r = 1 → qcl b' hd ql = some q) (hq : r = 1 → q = if z = 2 then gu else L z (m z)) (hm : z < 2 → lf z + cn o z ql = m z) : QC gu (ql + r) w' hd (eup o ql z) lf L b' := by
  obtain ⟨c1, c2, c3, c4, c5⟩ := h
  have hcn : ∀ i k, k ≤ ql → cn (eup o ql z) i k = cn o i k := fun i k hk => cn_cg k (fun k' g => by unfold eup; rw [if_neg (by omega)])
  refine ⟨h7, h6, c3, hv, fun k hk => ?_⟩
  by_cases hkq : k = ql
  · have hr1 : r = 1 := by omega
    subst hkq
    have e : eup o k z k = z := by unfold eup; rw [if_pos rfl]
    rw [e, h2 hr1, hq hr1, hcn z k (by omega)]
    by_cases hz : z = 2
    · rw [if_pos hz, if_pos hz]
    · rw [if_neg hz, if_neg hz]
      by_cases hz3 : z < 2
      · rw [hm hz3]
      · exact absurd (by omega) hz3
  · have hk2 : k < ql := by omega
    have e : eup o ql z k = o k := by unfold eup; rw [if_neg hkq]
    rw [e, h1 k hk2, c5 k hk2, hcn _ k (by omega)]

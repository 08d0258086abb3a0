/-! guests, and a blank letter -/
theorem QA.cgm {ql : Nat} {o lf m m' : Nat → Nat} {σ : jRS} (h : QA ql o lf m σ) (hm : ∀ i, i < 2 → m' i = m i) : QA ql o lf m' σ := ⟨h.1, fun i hi => by rw [hm i hi]; exact h.2 i hi⟩
theorem p_guest {N gu t t1 ql w rm dl hd : Nat} {fo k m lf s d al o : Nat → Nat} {L : Nat → Nat → Nat} {A : Nat → jSS} {b : jGS} {σ : jRS} (hnow : σ.1 0 0 = nI t) (h : RT fo gu t1 k m lf s d al L ql w rm dl hd o A b σ) : ∃ (ql' w' : Nat) (o' : Nat → Nat) (b' : jGS) (σ' : jRS), RT fo gu t1 k m lf s d al L ql' w' rm dl hd o' A b' σ' ∧ (∀ j, ¬ (5 ≤ j ∧ j ≤ 9) → j ≠ 12 → σ'.1 0 j = σ.1 0 j) ∧ (∀ P : jSS → jGS → Prop, P (A 0) b' → wX1_admitGuest N gu (A 0) b (nI t) P) ∧ ∀ post, wX7_ticks_75 N σ' post → wX7_comes N σ 2 0 (fun r_40 s_41 => ((r_40 = 0) → (wX7_ticks_71 N s_41 1 (σ.1 0 12) post)) ∧ ((¬ r_40 = 0) → (wX7_ticks_71 N s_41 0 (σ.1 0 12) post))) := by
  obtain ⟨h1, h2, h3, h4, h5, h6, h7, h8⟩ := h
  obtain ⟨r, w', σ1, c1, c2, c3, c4, c5, c6, c7, c8, c9⟩ := p_comes (N := N) (z := 2) (num := 0) (by omega) hnow h2 (h2.srv h3)
  obtain ⟨b1, d1, d2, d3, d4, d5, d6, d7, d8, d9, d10⟩ := c9 b gu hd gu o lf L h4 h5 h6
  have hA := (h3.app (z := 2) (by omega) c1 (fun g => ⟨(c4 g).1, fun g2 => by omega⟩) c5 (fun i j _ _ => c6 17 _ (by omega) (by omega) (by omega))).cgm (m' := m) (fun i hi => by rw [if_neg (by omega)])
  have hC := h4.app (m := m) (by omega) c1 d1 d2 d3 d4 d5 (z := 2) (fun _ => rfl) (fun g => by omega)
  have h01 : ¬ (nI 1) = 0 := by decide
  rcases (show r = 0 ∨ r = 1 by omega) with e | e
  · subst e
    refine ⟨ql + 0, w', _, gP b1 10 (gI b1 10 + 1), rP σ1 0 12 (σ.1 0 12 + 1), ⟨fun i hi => ?_, c2.cg (fun j g => by simp only [rP_rd]; rw [if_neg (by omega)]), ⟨fun kk hkk => ⟨(hA.1 kk hkk).1, ?_, fun g => ?_⟩, hA.2⟩, ⟨?_, ?_, hC.2.2.1, hC.2.2.2.1, hC.2.2.2.2⟩, ?_, by rw [b_LPP, d7]; exact h6, by rw [b_OP, d9]; exact h7, h8⟩, fun j g1 g2 => ?_, fun P hP => ?_, fun post hp => ?_⟩
    · refine (h1 i hi).cg (fun kk j g => ?_) (by rw [rP_2, c7]) rfl ?_ (fun j _ => by rw [b_FP, d8]) (fun q g => by rw [b_LPP, d7]; exact g) (fun j _ => by rw [b_OP, d9])
      · have := g.1
        simp only [rP_rd]
        rw [if_neg (by omega)]
        exact c6 kk j (by omega) (by omega) (by omega)
      · simp only [rP_rd]; rw [if_neg (by omega)]; exact c6 13 i (by omega) (by omega) (by omega)
    · have := (hA.1 kk hkk).2.1
      unfold qof at this ⊢
      simp only [rP_rd]
      simpa using this
    · have := (hA.1 kk hkk).2.2 g
      unfold qnum at this ⊢
      simp only [rP_rd]
      simpa using this
    · simp only [b_IP, b_IS, b_IL, b_IF, b_IO, b_IN, b_VP, b_VS, b_VL, b_VF, b_VO, b_VN, b_LnP, b_LnS, b_LnL, b_LnF, b_LnO, b_LnN, b_LPP, b_LPS, b_LPL, b_LPF, b_LPO, b_LPN, b_FP, b_FS, b_FL, b_FF, b_FO, b_FN, b_OP, b_OS, b_OL, b_OF, b_OO, b_ON]; rw [if_neg (by omega)]; exact hC.1
    · simp only [b_IP, b_IS, b_IL, b_IF, b_IO, b_IN, b_VP, b_VS, b_VL, b_VF, b_VO, b_VN, b_LnP, b_LnS, b_LnL, b_LnF, b_LnO, b_LnN, b_LPP, b_LPS, b_LPL, b_LPF, b_LPO, b_LPN, b_FP, b_FS, b_FL, b_FF, b_FO, b_FN, b_OP, b_OS, b_OL, b_OF, b_OO, b_ON]; rw [if_neg (by omega)]; exact hC.2.1
    · obtain ⟨g1, g2, g3, g4, g5, g6, g7⟩ := d6
      have e12 : σ1.1 0 12 = σ.1 0 12 := c6 0 12 (by omega) (by omega) (by omega)
      unfold GS
      simp only [b_IP, b_IS, b_IL, b_IF, b_IO, b_IN, b_VP, b_VS, b_VL, b_VF, b_VO, b_VN, b_LnP, b_LnS, b_LnL, b_LnF, b_LnO, b_LnN, b_LPP, b_LPS, b_LPL, b_LPF, b_LPO, b_LPN, b_FP, b_FS, b_FL, b_FF, b_FO, b_FN, b_OP, b_OS, b_OL, b_OF, b_OO, b_ON, rP_rd]
      grind
    · simp only [rP_rd]; rw [if_neg (by omega)]; exact c6 0 j (by omega) (by omega) (by omega)
    · unfold wX1_admitGuest
      refine d10 _ _ ⟨fun hh => absurd nI_0 hh, fun _ v ev b2 e2 => ?_⟩
      subst ev e2
      exact hP
    · refine c8 _ ⟨fun _ => ?_, fun hh => absurd nI_0 hh⟩
      unfold wX7_ticks_71
      intro v ev s2 es
      subst ev es
      exact hp
  · subst e
    refine ⟨ql + 1, w', _, b1, rP σ1 0 12 (σ.1 0 12 + 0), ⟨fun i hi => ?_, c2.cg (fun j g => by simp only [rP_rd]; rw [if_neg (by omega)]), ⟨fun kk hkk => ⟨(hA.1 kk hkk).1, ?_, fun g => ?_⟩, hA.2⟩, hC, ?_, by rw [d7]; exact h6, by rw [d9]; exact h7, h8⟩, fun j g1 g2 => ?_, fun P hP => ?_, fun post hp => ?_⟩
    · refine (h1 i hi).cg (fun kk j g => ?_) (by rw [rP_2, c7]) rfl ?_ (fun j _ => by rw [d8]) (fun q g => by rw [d7]; exact g) (fun j _ => by rw [d9])
      · have := g.1
        simp only [rP_rd]
        rw [if_neg (by omega)]
        exact c6 kk j (by omega) (by omega) (by omega)
      · simp only [rP_rd]; rw [if_neg (by omega)]; exact c6 13 i (by omega) (by omega) (by omega)
    · have := (hA.1 kk hkk).2.1
      unfold qof at this ⊢
      simp only [rP_rd]
      simpa using this
    · have := (hA.1 kk hkk).2.2 g
      unfold qnum at this ⊢
      simp only [rP_rd]
      simpa using this
    · obtain ⟨g1, g2, g3, g4, g5, g6, g7⟩ := d6
      have e12 : σ1.1 0 12 = σ.1 0 12 := c6 0 12 (by omega) (by omega) (by omega)
      have e0 : σ.1 0 12 + 0 = σ.1 0 12 := Int32.add_zero _
      rw [e0]
      unfold GS
      simp only [rP_rd]
      grind
    · simp only [rP_rd]; rw [if_neg (by omega)]; exact c6 0 j (by omega) (by omega) (by omega)
    · unfold wX1_admitGuest
      exact d10 _ _ ⟨fun _ => hP, fun hh => absurd hh h01⟩
    · refine c8 _ ⟨fun hh => absurd hh h01, fun _ => ?_⟩
      unfold wX7_ticks_71
      intro v ev s2 es
      subst ev es
      exact hp
theorem va_eta {α : Type} (f : Nat → α) (i : Nat) : va_up f i (f i) = f := by
  funext j
  unfold va_up
  by_cases h : j = i
  · rw [if_pos h, h]
  · rw [if_neg h]
/-- a blank letter, new where there is none -/
theorem p_blank {N i gu t1 ql w rm dl hd nU : Nat} {fo k m lf s d al o : Nat → Nat} {L : Nat → Nat → Nat} {A : Nat → jSS} {b : jGS} {σ : jRS} (hi : i < 2) (h : RT fo gu t1 k m lf s d al L ql w rm dl hd o A b σ) {post : Option Nat → jSS → jGS → Prop} (hp : ∀ (L1 : Nat → Nat) (a1 : jSS) (b1 : jGS), RT fo gu t1 k m lf s d (va_up al i (max (al i) (m i + 1))) (va_up L i L1) ql w rm dl hd o (va_up A i a1) b1 σ → post (some (L1 (m i))) a1 b1) : wX3_blank N (nU + (max (al i) (m i + 1) - al i)) (fo i) (A i) b nU post := by
  obtain ⟨h1, h2, h3, h4, h5, h6, h7, h8⟩ := id h
  obtain ⟨s1, s2, s3, s4, s5, s6, s7⟩ := h1 i hi
  have hm := s1.2.1
  have h11 : (A i).1 1 1 = nI (m i) := by rw [s2.m.1]; exact s1.1
  unfold wX3_blank
  rw [h11, cl (show m i < 2 ^ 31 by omega)]
  have hin : vp_in (nI (m i)) 262 := vp_in_nI (by omega) (by omega)
  refine ⟨fun hh => absurd hh (nI_pos (by omega)), fun _ => pk_lt (m i) 262 (fun _ => ⟨hin, fun hn => ?_, fun q hq => ?_⟩) (fun g => by omega)⟩
  · -- a new one
    have hal : al i = m i := by
      by_cases g : m i < al i
      · have := (s3.2.1 (m i) g).1
        rw [this] at hn; exact absurd hn (by simp)
      · omega
    refine ⟨by omega, fun q hq b1 e1 hq1 => ?_⟩
    unfold wX2_init
    refine ⟨hq1, hq1, hin, fun a1 ea1 => ?_⟩
    have e11 : a1.1 1 1 = nI (m i) := by rw [ea1, aL_1]; exact h11
    unfold wX3_blank_50
    rw [e11, cl (show m i < 2 ^ 31 by omega)]
    have e22 : a1.2.2 (m i) = some q := by rw [ea1, aL_22, if_pos rfl]
    refine ⟨hin, fun hh => ?_, fun q2 hq2 => ?_⟩
    · rw [e22] at hh; exact absurd hh (by simp)
    · rw [e22] at hq2
      cases hq2
      have hLq : ∀ i', i' < 2 → ∀ j, j < al i' → L i' j ≠ q := fun i' hi' j hj g => hq (by rw [← g]; exact ((h1 i' hi').2.2.1.2.1 j hj).2.1)
      have hgq : gu ≠ q := fun g => hq (by rw [← g]; exact h6)
      have key := hp (vup (L i) (m i) q) a1 (gOP b1 q (some (fo i)))
      have e : vup (L i) (m i) q (m i) = q := by unfold vup; rw [if_pos rfl]
      rw [e] at key
      apply key
      subst e1 ea1
      refine ⟨fun i' hi' => ?_, h2, h3, ⟨h4.1, h4.2.1, h4.2.2.1, h4.2.2.2.1, fun kk hkk => ?_⟩, h5, ?_, ?_, h8⟩
      · by_cases he : i' = i
        · subst he
          simp only [va_up_self]
          refine ⟨s1, s2.cg (by omega) (fun _ _ _ _ _ _ _ _ => rfl) rfl (fun _ _ _ => rfl) rfl, ⟨by omega, fun j hj => ?_, fun j g1 g2 => ?_, fun j j' g1 g2 g3 => ?_⟩, fun j hj => ?_, by omega, s6, s7⟩
          · rw [aL_22]
            unfold vup
            by_cases hj2 : j = m i'
            · rw [if_pos hj2, if_pos hj2]
              refine ⟨rfl, hq1, ?_⟩
              simp only [b_IP, b_IS, b_IL, b_IF, b_IO, b_IN, b_VP, b_VS, b_VL, b_VF, b_VO, b_VN, b_LnP, b_LnS, b_LnL, b_LnF, b_LnO, b_LnN, b_LPP, b_LPS, b_LPL, b_LPF, b_LPO, b_LPN, b_FP, b_FS, b_FL, b_FF, b_FO, b_FN, b_OP, b_OS, b_OL, b_OF, b_OO, b_ON]; rw [if_pos trivial]
            · rw [if_neg hj2, if_neg hj2]
              obtain ⟨w1, w2, w3⟩ := s3.2.1 j (by omega)
              refine ⟨w1, ?_, ?_⟩
              · simp only [b_IP, b_IS, b_IL, b_IF, b_IO, b_IN, b_VP, b_VS, b_VL, b_VF, b_VO, b_VN, b_LnP, b_LnS, b_LnL, b_LnF, b_LnO, b_LnN, b_LPP, b_LPS, b_LPL, b_LPF, b_LPO, b_LPN, b_FP, b_FS, b_FL, b_FF, b_FO, b_FN, b_OP, b_OS, b_OL, b_OF, b_OO, b_ON]; exact List.mem_append_left _ w2
              · have := hLq i' hi' j (by omega)
                simp only [b_IP, b_IS, b_IL, b_IF, b_IO, b_IN, b_VP, b_VS, b_VL, b_VF, b_VO, b_VN, b_LnP, b_LnS, b_LnL, b_LnF, b_LnO, b_LnN, b_LPP, b_LPS, b_LPL, b_LPF, b_LPO, b_LPN, b_FP, b_FS, b_FL, b_FF, b_FO, b_FN, b_OP, b_OS, b_OL, b_OF, b_OO, b_ON]; rw [if_neg this, if_neg this]; exact w3
          · rw [aL_22, if_neg (by omega)]; exact s3.2.2.1 j (by omega) g2
          · unfold vup at g3
            by_cases c1 : j = m i'
            · by_cases c2 : j' = m i'
              · omega
              · rw [if_pos c1, if_neg c2] at g3
                exact absurd g3.symm (hLq i' hi' j' (by omega))
            · by_cases c2 : j' = m i'
              · rw [if_neg c1, if_pos c2] at g3
                exact absurd g3 (hLq i' hi' j (by omega))
              · rw [if_neg c1, if_neg c2] at g3
                exact s3.2.2.2 j j' (by omega) (by omega) g3
          · have hne := hLq i' hi' j (by omega)
            have hv : vup (L i') (m i') q j = L i' j := by unfold vup; rw [if_neg (by omega)]
            have hf : gF (gOP (gNew b q) q (some (fo i'))) (L i' j) = gF b (L i' j) := by funext kk; simp only [b_IP, b_IS, b_IL, b_IF, b_IO, b_IN, b_VP, b_VS, b_VL, b_VF, b_VO, b_VN, b_LnP, b_LnS, b_LnL, b_LnF, b_LnO, b_LnN, b_LPP, b_LPS, b_LPL, b_LPF, b_LPO, b_LPN, b_FP, b_FS, b_FL, b_FF, b_FO, b_FN, b_OP, b_OS, b_OL, b_OF, b_OO, b_ON]; rw [if_neg hne]
            rw [hv, hf]
            exact s4 j hj
        · simp only [va_up_ne _ _ he]
          refine (h1 i' hi').cg (fun _ _ _ => rfl) rfl rfl rfl (fun j hj => ?_) (fun q2 g => ?_) (fun j hj => ?_)
          · have hne := hLq i' hi' j hj
            funext kk; simp only [b_IP, b_IS, b_IL, b_IF, b_IO, b_IN, b_VP, b_VS, b_VL, b_VF, b_VO, b_VN, b_LnP, b_LnS, b_LnL, b_LnF, b_LnO, b_LnN, b_LPP, b_LPS, b_LPL, b_LPF, b_LPO, b_LPN, b_FP, b_FS, b_FL, b_FF, b_FO, b_FN, b_OP, b_OS, b_OL, b_OF, b_OO, b_ON]; rw [if_neg hne]
          · simp only [b_IP, b_IS, b_IL, b_IF, b_IO, b_IN, b_VP, b_VS, b_VL, b_VF, b_VO, b_VN, b_LnP, b_LnS, b_LnL, b_LnF, b_LnO, b_LnN, b_LPP, b_LPS, b_LPL, b_LPF, b_LPO, b_LPN, b_FP, b_FS, b_FL, b_FF, b_FO, b_FN, b_OP, b_OS, b_OL, b_OF, b_OO, b_ON]; exact List.mem_append_left _ g
          · have hne := hLq i' hi' j hj
            simp only [b_IP, b_IS, b_IL, b_IF, b_IO, b_IN, b_VP, b_VS, b_VL, b_VF, b_VO, b_VN, b_LnP, b_LnS, b_LnL, b_LnF, b_LnO, b_LnN, b_LPP, b_LPS, b_LPL, b_LPF, b_LPO, b_LPN, b_FP, b_FS, b_FL, b_FF, b_FO, b_FN, b_OP, b_OS, b_OL, b_OF, b_OO, b_ON]; rw [if_neg hne, if_neg hne]
      · have h9 := h4.2.2.2.2 kk hkk
        show qcl b hd kk = _
        rw [h9]
        by_cases ho : o kk = 2
        · rw [if_pos ho, if_pos ho]
        · rw [if_neg ho, if_neg ho]
          by_cases he : o kk = i
          · rw [he, va_up_self]
            have hlt := cn_lt hkk he
            have hsum := h3.2 i hi
            unfold vup
            rw [if_neg (by omega)]
          · rw [va_up_ne _ _ he]
      · simp only [b_IP, b_IS, b_IL, b_IF, b_IO, b_IN, b_VP, b_VS, b_VL, b_VF, b_VO, b_VN, b_LnP, b_LnS, b_LnL, b_LnF, b_LnO, b_LnN, b_LPP, b_LPS, b_LPL, b_LPF, b_LPO, b_LPN, b_FP, b_FS, b_FL, b_FF, b_FO, b_FN, b_OP, b_OS, b_OL, b_OF, b_OO, b_ON]; exact List.mem_append_left _ h6
      · simp only [b_IP, b_IS, b_IL, b_IF, b_IO, b_IN, b_VP, b_VS, b_VL, b_VF, b_VO, b_VN, b_LnP, b_LnS, b_LnL, b_LnF, b_LnO, b_LnN, b_LPP, b_LPS, b_LPL, b_LPF, b_LPO, b_LPN, b_FP, b_FS, b_FL, b_FF, b_FO, b_FN, b_OP, b_OS, b_OL, b_OF, b_OO, b_ON]; rw [if_neg hgq, if_neg hgq]; exact h7
  · have hlt : m i < al i := by
      by_cases g : m i < al i
      · exact g
      · have := s3.2.2.1 (m i) (by omega) (by omega)
        rw [this] at hq; exact absurd hq (by simp)
    have hL := (s3.2.1 (m i) hlt).1
    unfold wX3_blank_50
    rw [h11, cl (show m i < 2 ^ 31 by omega)]
    refine ⟨hin, fun hh => ?_, fun q2 hq2 => ?_⟩
    · rw [hL] at hh; exact absurd hh (by simp)
    · rw [hL] at hq2
      cases hq2
      apply hp (L i) (A i) b
      rw [Nat.max_eq_left (by omega), va_eta, va_eta, va_eta]
      exact h

/-! passing ticks -/
theorem within_n {v : Int32} {lo hi : Nat} (hl : lo ≤ hi) (hh : hi < 2 ^ 31) (h : ¬ jwithin v (nI lo) (nI hi) = 0) : ∃ n : Nat, lo ≤ n ∧ n ≤ hi ∧ v = nI n := by
  unfold jwithin at h
  by_cases c1 : v < nI lo
  · rw [if_pos c1] at h; exact absurd rfl h
  · rw [if_neg c1] at h
    by_cases c2 : nI hi < v
    · rw [if_pos c2] at h; exact absurd rfl h
    · have e1 := Int32.le_iff_toInt_le.1 (Int32.not_lt.1 c1)
      have e3 := Int32.le_iff_toInt_le.1 (Int32.not_lt.1 c2)
      rw [nI_toInt (by omega)] at e1
      rw [nI_toInt hh] at e3
      refine ⟨v.toInt.toNat, by omega, by omega, ?_⟩
      apply Int32.toInt_inj.1
      rw [nI_toInt (by omega)]
      omega
theorem p_pass {N gu p rm dl : Nat} {fo : Nat → Nat} {y : Int32} (hN : 8002 ≤ N) : ∀ (n it t ql w hd nU : Nat) (m lf s d al o : Nat → Nat) (L : Nat → Nat → Nat) (x : jXS) (A : Nat → jSS) (b : jGS) (σ : jRS) (x2 : Int32), it ≤ p → p + 1 ≤ it + n → p ≤ 2000 → t + (p - it) ≤ 1100000 → nU + (262 - al 0) + (262 - al 1) ≤ 525 → IV fo gu t m lf s d al L ql w rm dl hd o x A b σ → ∀ post : Int32 → jXS → jSS → jSS → jGS → Prop, (∀ (m' lf' s' d' al' : Nat → Nat) (L' : Nat → Nat → Nat) (ql' w' hd' : Nat) (o' : Nat → Nat) (x' : jXS) (A' : Nat → jSS) (b' : jGS) (σ' : jRS), IV fo gu (t + (p - it)) m' lf' s' d' al' L' ql' w' rm dl hd' o' x' A' b' σ' → d 0 + d 1 ≤ d' 0 + d' 1 → (∀ post2 : Int32 → jRS → Prop, post2 (σ'.1 0 15 - y) σ' → wX7_pass_21 N n σ (nI p) y (nI it) post2) → post (x2 + nI (d' 0 + d' 1 - (d 0 + d 1))) x' (A' 0) (A' 1) b') → wX6_pass_18 N 525 (fo 0) (fo 1) gu n x (A 0) (A 1) b nU (nI p) x2 (nI it) post := by
  intro n
  induction n with
  | zero => intro it t ql w hd nU m lf s d al o L x A b σ x2 g1 g2; omega
  | succ n ih =>
    intro it t ql w hd nU m lf s d al o L x A b σ x2 g1 g2 g3 g4 g5 hIV post hpost
    by_cases hp : it = p
    · unfold wX6_pass_18
      refine pk_le p it (fun _ => ?_) (fun g => by omega)
      have := hpost m lf s d al L ql w hd o x A b σ (by rw [show t + (p - it) = t by omega]; exact hIV) (by omega) (fun post2 h2 => by
        unfold wX7_pass_21
        exact pk_le p it (fun _ => h2) (fun g => by omega))
      rw [Nat.sub_self, nI_0, Int32.add_zero] at this
      exact this
    · obtain ⟨al', a1, a2, a3, a4, a5⟩ := p_tick (N := N) hN (by omega) hIV
      unfold wX6_pass_18
      refine pk_le p it (fun g => by omega) (fun _ => ⟨al' 0 - al 0 + (al' 1 - al 1), by omega, ?_⟩)
      refine a5 _ (fun m' lf' s' d' L' ql' w' hd' o' x' A' b' σ' hre hIV' hdd x3 e3 x4 e4 => ?_)
      rw [nI_1] at e4
      subst e3 e4
      refine ih (it + 1) (t + 1) ql' w' hd' _ m' lf' s' d' al' o' L' x' A' b' σ' _ (by omega) (by omega) g3 (by omega) (by omega) hIV' post (fun m2 lf2 s2 d2 al2 L2 ql2 w2 hd2 o2 x9 A2 b2 σ2 hIV2 hdd2 hre2 => ?_)
      have key := hpost m2 lf2 s2 d2 al2 L2 ql2 w2 hd2 o2 x9 A2 b2 σ2 (by rw [show t + (p - it) = t + 1 + (p - (it + 1)) by omega]; exact hIV2) (by omega) (fun post2 h2 => by
        unfold wX7_pass_21
        refine pk_le p it (fun g => by omega) (fun _ => hre _ (fun x5 e5 => ?_))
        rw [nI_1] at e5
        subst e5
        exact hre2 post2 h2)
      rw [Int32.add_assoc, nI_add, show d' 0 + d' 1 - (d 0 + d 1) + (d2 0 + d2 1 - (d' 0 + d' 1)) = d2 0 + d2 1 - (d 0 + d 1) by omega]
      exact key
/-- the tie of class and reference, before call k -/
def JI (fo0 fo1 gu k : Nat) (x : jXS) (a0 a1 : jSS) (b : jGS) (σ : jRS) : Prop := ∃ (t : Nat) (m lf s d al : Nat → Nat) (L : Nat → Nat → Nat) (ql w rm dl hd : Nat) (o : Nat → Nat) (A : Nat → jSS), A 0 = a0 ∧ A 1 = a1 ∧ t ≤ 2000 * k ∧ IV (fun i => if i = 0 then fo0 else fo1) gu t m lf s d al L ql w rm dl hd o x A b σ
theorem JI.suc {fo0 fo1 gu k : Nat} {x : jXS} {a0 a1 : jSS} {b : jGS} {σ : jRS} (h : JI fo0 fo1 gu k x a0 a1 b σ) : JI fo0 fo1 gu (k + 1) x a0 a1 b σ := by
  obtain ⟨t, m, lf, s, d, al, L, ql, w, rm, dl, hd, o, A, h1, h2, h3, h4⟩ := h
  exact ⟨t, m, lf, s, d, al, L, ql, w, rm, dl, hd, o, A, h1, h2, by omega, h4⟩
theorem t_pass {N fo0 fo1 gu k : Nat} {x : jXS} {a0 a1 : jSS} {b : jGS} {σ : jRS} {p1 : Int32} (hN : 8002 ≤ N) (h : JI fo0 fo1 gu k x a0 a1 b σ) (hk : k < 512) : wX6_pass N 525 fo0 fo1 gu x a0 a1 b 0 p1 (fun r x2 z0 z1 zb => wX7_pass N σ p1 (fun r2 σ2 => r = r2 ∧ JI fo0 fo1 gu (k + 1) x2 z0 z1 zb σ2)) := by
  have hs := h.suc
  obtain ⟨t, m, lf, s, d, al, L, ql, w, rm, dl, hd, o, A, h1, h2, h3, h4⟩ := h
  unfold wX6_pass
  intro r er
  refine ⟨fun hr => ?_, fun hr => ?_⟩
  · have hr2 : ¬ jwithin p1 (nI 1) (nI 2000) = 0 := by rw [er] at hr; exact hr
    obtain ⟨p, q1, q2, q3⟩ := within_n (by omega) (by omega) hr2
    subst q3
    have h15 := h4.2.2.2.2.2.2.2.1
    have a0b := (h4.1.1 0 (by omega)).2.2.1.1
    have a1b := (h4.1.1 1 (by omega)).2.2.1.1
    have key := p_pass (N := N) (gu := gu) (p := p) (rm := rm) (dl := dl) (fo := fun i => if i = 0 then fo0 else fo1) (y := σ.1 0 15) hN N 0 t ql w hd 0 m lf s d al o L x A b σ 0 (by omega) (by omega) q2 (by omega) (by omega) h4 (fun r x2 z0 z1 zb => wX7_pass N σ (nI p) (fun r2 σ2 => r = r2 ∧ JI fo0 fo1 gu (k + 1) x2 z0 z1 zb σ2)) (fun m' lf' s' d' al' L' ql' w' hd' o' x' A' b' σ' hIV hdd hre => ?_)
    · rw [h1, h2] at key
      rw [nI_0] at key
      exact key
    · unfold wX7_pass
      intro r2 er2
      refine ⟨fun _ y ey => ?_, fun hh => ?_⟩
      · subst ey
        have := hre (fun r2 σ2 => 0 + nI (d' 0 + d' 1 - (d 0 + d 1)) = r2 ∧ JI fo0 fo1 gu (k + 1) x' (A' 0) (A' 1) b' σ2) ⟨?_, ⟨t + (p - 0), m', lf', s', d', al', L', ql', w', rm, dl, hd', o', A', rfl, rfl, by omega, hIV⟩⟩
        · rw [nI_0] at this
          exact this
        · rw [hIV.2.2.2.2.2.2.2.1, h15, pk_sub (by omega), Int32.zero_add]
      · rw [er2, ← er] at hh; exact absurd hh hr
  · unfold wX7_pass
    intro r2 er2
    rw [← er] at er2
    subst er2
    exact ⟨fun hh => absurd hr hh, fun _ => ⟨rfl, hs⟩⟩

/-! one letter is sent, both sides -/
def SAb (i t1 m lf s d al : Nat) (σ : jRS) : Prop := LA i t1 0 m lf s σ ∧ m ≤ al ∧ al ≤ 262 ∧ σ.1 24 i = nI s ∧ σ.1 25 i = nI d ∧ (∃ M, M < 2 ^ 31 ∧ σ.1 30 i = nI M) ∧ (∃ lm, lm < 2 ^ 31 ∧ σ.1 27 i = nI lm) ∧ PS i σ
def RA (t1 : Nat) (m lf s d al : Nat → Nat) (ql w rm dl : Nat) (o : Nat → Nat) (σ : jRS) : Prop := (∀ i, i < 2 → SAb i t1 (m i) (lf i) (s i) (d i) (al i) σ) ∧ QS ql w rm dl σ ∧ QA ql o lf m σ
theorem RT.ra {gu t1 ql w rm dl hd : Nat} {fo m lf s d al o : Nat → Nat} {L : Nat → Nat → Nat} {A : Nat → jSS} {b : jGS} {σ : jRS} (h : RT fo gu t1 (fun _ => 0) m lf s d al L ql w rm dl hd o A b σ) : RA t1 m lf s d al ql w rm dl o σ := by
  obtain ⟨h1, h2, h3, h4, h5, h6, h7, h8⟩ := h
  refine ⟨fun i hi => ?_, h2, h3⟩
  obtain ⟨s1, s2, s3, s4, s5, s6, s7⟩ := h1 i hi
  have h25 := s2.m.2.2
  obtain ⟨r, T, tn, mk, p, ca, M, e, V, W, dt, hB, hD, hc⟩ := s2
  obtain ⟨k1, k2, k3, k4, k5, k6, k7, k8, k9, k10, k11, k12, k13, k14, k15, k16, lm, k17, k18⟩ := hB
  exact ⟨s1, s5, s3.1, s7.1, h25, ⟨M, k8.lt k3.2.2.2.2, k7⟩, ⟨lm, k17, k18⟩, ⟨k1.2.1.2.2.2.2, k1.2.1.2.1⟩⟩
/-- what a send changes in the reference -/
def SX (i m s d r t : Nat) (at' lim : Int32) (nx : Int64) (σ σ' : jRS) : Prop := (∀ k j, k ≠ 10 → k ≠ 11 → ¬ (k = 0 ∧ 5 ≤ j ∧ j ≤ 9) → ¬ (j = i ∧ (k = 23 ∨ k = 24 ∨ k = 26 ∨ k = 34 ∨ k = 16)) → ¬ (17 ≤ k ∧ k ≤ 22 ∧ j = 512 * i + m) → σ'.1 k j = σ.1 k j) ∧ σ'.1 23 i = σ.1 23 i - 1 ∧ σ'.1 24 i = nI (s + 1) ∧ σ'.1 26 i = at' ∧ σ'.1 34 i = (if r = 0 then σ.1 34 i + 1 else σ.1 34 i) ∧ σ'.1 16 i = nI (m + r) ∧ (r = 1 → σ'.1 17 (512 * i + m) = nI s ∧ σ'.1 18 (512 * i + m) = nI t ∧ σ'.1 19 (512 * i + m) = nI d ∧ σ'.1 20 (512 * i + m) = at' ∧ σ'.1 21 (512 * i + m) = lim ∧ σ'.1 22 (512 * i + m) = -9) ∧ (∀ j, σ'.2 j = if j = i then nx else σ.2 j)
theorem q_send {N i t m lf s d al ql w rm dl lm M : Nat} {σ : jRS} {o lfs ms : Nat → Nat} (hi : i < 2) (hnow : σ.1 0 0 = nI t) (hsb : s + 1 < 2 ^ 31) (hSA : SAb i (t + 1) m lf s d al σ) (hM : M < 2 ^ 31) (hM2 : σ.1 30 i = nI M) (hlm : lm < 2 ^ 31) (hlm2 : σ.1 27 i = nI lm) (hS : QS ql w rm dl σ) (hA : QA ql o lfs ms σ) : ∃ (r w' : Nat) (σ' : jRS), r ≤ 1 ∧ SX i m s d r t (if m = 0 then nI t else σ.1 26 i) (if lm = 0 then 0 else 1) (jnext M (jgn (σ.1 39 i) (σ.1 40 i)) (σ.2 i) (nI t)) σ σ' ∧ QS (ql + r) w' rm dl σ' ∧ (r = 1 → qof σ' ql = nI i ∧ qnum σ' ql = nI s) ∧ (∀ k, k < ql → qof σ' k = qof σ k ∧ qnum σ' k = qnum σ k) ∧ (∀ post, post (nI r) σ' → wX7_sends N σ (nI i) post) ∧ (∀ (b : jGS) (gu hd q : Nat) (o lf : Nat → Nat) (L : Nat → Nat → Nat), QC gu ql w hd o lf L b → GS b σ → q ∈ gLP b → ∃ b' : jGS, gI b' 7 = nI w' ∧ gI b' 6 = nI hd ∧ (ql + r = 0 → gV b' = none) ∧ (∀ k, k < ql → qcl b' hd k = qcl b hd k) ∧ (r = 1 → qcl b' hd ql = some q) ∧ GS b' σ' ∧ gLP b' = gLP b ∧ gF b' = gF b ∧ gO b' = gO b ∧ ∀ (a : jSS) (P : Int32 → jSS → jGS → Prop), P (nI r) a b' → wX1_admit N a b q (nI t) P) := by
  obtain ⟨a1, a2, a3, a4, a5, a6, a7, a8⟩ := hSA
  have h16 := a1.1
  have hm := a1.2.1
  obtain ⟨σb, eb⟩ : ∃ σb : jRS, σb = rP (rP (rP σ 23 i (σ.1 23 i - 1)) 24 i (nI (s + 1))) 26 i (if m = 0 then nI t else σ.1 26 i) := ⟨_, rfl⟩
  have R : ∀ k j, ¬ (j = i ∧ (k = 23 ∨ k = 24 ∨ k = 26)) → σb.1 k j = σ.1 k j := fun k j g => by rw [eb]; simp only [rP_rd]; grind
  have b23 : σb.1 23 i = σ.1 23 i - 1 := by rw [eb]; simp only [rP_rd]; grind
  have b24 : σb.1 24 i = nI (s + 1) := by rw [eb]; simp only [rP_rd]; grind
  have b26 : σb.1 26 i = (if m = 0 then nI t else σ.1 26 i) := by rw [eb]; simp only [rP_rd]; grind
  have b2 : σb.2 = σ.2 := by rw [eb]; rfl
  have hqo : ∀ kk, qof σb kk = qof σ kk := fun kk => by unfold qof; rw [R 0 5 (by omega), R 10 _ (by omega)]
  have hqn : ∀ kk, qnum σb kk = qnum σ kk := fun kk => by unfold qnum; rw [R 0 6 (by omega), R 11 _ (by omega)]
  obtain ⟨r, w', σc, c1, c2, c3, c4, c5, c6, c7, c8, c9⟩ := p_comes (N := N) (z := i) (num := nI s) (t := t) (by omega) (by rw [R 0 0 (by omega)]; exact hnow) (hS.cg (fun j g => R 0 j (by omega))) (by rw [R 0 5 (by omega)]; exact hS.srv hA)
  have hGS : ∀ b, GS b σ → GS b σb := fun b g => g.cg (fun k j g => R k j (by omega))
  -- the reference up to the gate
  have hd54 : ∀ post, (∀ r_82 s_83, r_82 = nI r → s_83 = σc → ((r_82 = 0) → (vp_in (nI i) 2 ∧ ∀ v_86 : Int32, v_86 = (s_83.1 34 i) + 1 → vp_in (nI i) 2 ∧ ∀ s_88 : jRS, s_88 = rP s_83 34 i v_86 → wX7_sends_178 N s_88 (nI i) r_82 post)) ∧ ((¬ r_82 = 0) → (vp_in (nI i) 2 ∧ ∀ x4_90 : Int32, x4_90 = (512 * nI i) + (s_83.1 16 i) → vp_in x4_90 1024 ∧ ∀ s_92 : jRS, s_92 = rP s_83 17 x4_90.toNatClampNeg (nI s) → ∀ v_93 : Int32, v_93 = s_92.1 0 0 → vp_in x4_90 1024 ∧ ∀ s_95 : jRS, s_95 = rP s_92 18 x4_90.toNatClampNeg v_93 → vp_in (nI i) 2 ∧ ∀ v_97 : Int32, v_97 = s_95.1 25 i → vp_in x4_90 1024 ∧ ∀ s_99 : jRS, s_99 = rP s_95 19 x4_90.toNatClampNeg v_97 → vp_in (nI i) 2 ∧ ∀ v_101 : Int32, v_101 = s_99.1 26 i → vp_in x4_90 1024 ∧ ∀ s_103 : jRS, s_103 = rP s_99 20 x4_90.toNatClampNeg v_101 → vp_in (nI i) 2 ∧ (((s_103.1 27 i) ≤ 0) → (wX7_sends_145 N s_103 (nI i) r_82 x4_90 0 x4_90 post)) ∧ ((¬ (s_103.1 27 i) ≤ 0) → (wX7_sends_145 N s_103 (nI i) r_82 x4_90 1 x4_90 post))))) → wX7_sends N σ (nI i) post := by
    intro post k1
    simp only [wX7_sends, ci hi]
    refine ⟨vi hi, fun v ev => ⟨vi hi, fun t1 e1 => ⟨vi hi, fun x2 e2 => ⟨vi hi, fun v2 ev2 => ⟨vi hi, fun t2 e3 => ⟨vi hi, ?_⟩⟩⟩⟩⟩⟩
    have e2' : x2 = nI s := by rw [e2, e1]; simp only [rP_rd]; rw [if_neg (by omega)]; exact a4
    have ev2' : v2 = nI (s + 1) := by rw [ev2, e1]; simp only [rP_rd]; rw [if_neg (by omega), a4, nI_1]
    subst e2' ev2' ev
    have d16 : t2.1 16 i = nI m := by rw [e3, e1]; simp only [rP_rd]; grind
    have d26 : t2.1 26 i = σ.1 26 i := by rw [e3, e1]; simp only [rP_rd]; grind
    have d00 : t2.1 0 0 = nI t := by rw [e3, e1]; simp only [rP_rd]; grind
    rw [d16, d26, d00]
    have tl : ∀ y0, y0 = (if m = 0 then nI t else σ.1 26 i) → wX7_sends_54 N t2 (nI i) (nI s) y0 (nI i) post := by
      intro y0 ey
      simp only [wX7_sends_54, ci hi]
      refine ⟨vi hi, fun t3 e4 => ?_⟩
      have e5 : t3 = σb := by rw [e4, e3, e1, ey, eb]
      rw [e5]
      exact c8 _ (k1 _ _ rfl rfl)
    refine ⟨fun hh => ⟨vi hi, tl _ ?_⟩, fun hh => tl _ ?_⟩
    · rw [if_neg (fun g => hh (by rw [g, nI_0]))]
    · rw [if_pos]
      by_cases g : m = 0
      · exact g
      · exact absurd hh (nI_ne0 (by omega) (by omega))
  have PSm : ∀ σ9 : jRS, σ9.1 39 i = σ.1 39 i → σ9.1 40 i = σ.1 40 i → PS i σ9 := fun σ9 g1 g2 => by unfold PS at a8 ⊢; rw [g1, g2]; exact a8
  have C : ∀ k j, k ≠ 10 → k ≠ 11 → ¬ (k = 0 ∧ 5 ≤ j ∧ j ≤ 9) → ¬ (j = i ∧ (k = 23 ∨ k = 24 ∨ k = 26)) → σc.1 k j = σ.1 k j := fun k j g1 g2 g3 g4 => by rw [c6 k j g1 g2 g3, R k j g4]
  rcases (show r = 0 ∨ r = 1 by omega) with e | e
  · subst e
    refine ⟨0, w', rL (rP σc 34 i (σ.1 34 i + 1)) i (jnext M (jgn (σ.1 39 i) (σ.1 40 i)) (σ.2 i) (nI t)), by omega, ⟨fun k j g1 g2 g3 g4 g5 => ?_, ?_, ?_, ?_, ?_, ?_, fun g => by omega, fun j => ?_⟩, c2.cg (fun j g => ?_), fun g => by omega, fun k hk => ⟨?_, ?_⟩, fun post hp => hd54 post (fun r2 s2 er es => ⟨fun _ => ⟨vi hi, fun v ev => ⟨vi hi, fun s3 es3 => ?_⟩⟩, fun hh => ?_⟩), fun b gu hd q o lf L hC hG hin => ?_⟩
    · rw [rL_1]; simp only [rP_rd]; rw [if_neg (by omega)]; exact C k j g1 g2 g3 (by omega)
    · rw [rL_1]; simp only [rP_rd]; rw [if_neg (by omega), c6 23 i (by omega) (by omega) (by omega)]; exact b23
    · rw [rL_1]; simp only [rP_rd]; rw [if_neg (by omega), c6 24 i (by omega) (by omega) (by omega)]; exact b24
    · rw [rL_1]; simp only [rP_rd]; rw [if_neg (by omega), c6 26 i (by omega) (by omega) (by omega)]; exact b26
    · rw [rL_1]; simp only [rP_rd]; simp
    · rw [rL_1]; simp only [rP_rd]; rw [if_neg (by omega), C 16 i (by omega) (by omega) (by omega) (by omega)]; exact h16
    · rw [rL_2, rP_2, c7, b2]
    · rw [rL_1]; simp only [rP_rd]; rw [if_neg (by omega)]
    · rw [← hqo k]
      have := (c5 k hk).1
      rw [← this]
      unfold qof
      rw [rL_1]; simp only [rP_rd]; simp
    · rw [← hqn k]
      have := (c5 k hk).2
      rw [← this]
      unfold qnum
      rw [rL_1]; simp only [rP_rd]; simp
    · subst er es
      have ev' : v = σ.1 34 i + 1 := by rw [ev, C 34 i (by omega) (by omega) (by omega) (by omega)]
      subst ev'
      have q39 : s3.1 39 i = σ.1 39 i := by rw [es3]; simp only [rP_rd]; rw [if_neg (by omega)]; exact C 39 i (by omega) (by omega) (by omega) (by omega)
      have q40 : s3.1 40 i = σ.1 40 i := by rw [es3]; simp only [rP_rd]; rw [if_neg (by omega)]; exact C 40 i (by omega) (by omega) (by omega) (by omega)
      have q30 : s3.1 30 i = nI M := by rw [es3]; simp only [rP_rd]; rw [if_neg (by omega)]; rw [C 30 i (by omega) (by omega) (by omega) (by omega)]; exact hM2
      have q00 : s3.1 0 0 = nI t := by rw [es3]; simp only [rP_rd]; rw [if_neg (by omega)]; rw [C 0 0 (by omega) (by omega) (by omega) (by omega)]; exact hnow
      have q2 : s3.2 i = σ.2 i := by rw [es3, rP_2, c7, b2]
      refine q_178 (M := M) hi (.inl nI_0) hM q30 (PSm _ q39 q40) ?_
      rw [q39, q40, q2, q00, es3]
      exact hp
    · subst er; exact absurd nI_0 hh
    · obtain ⟨b1, d1, d2, d3, d4, d5, d6, d7, d8, d9, d10⟩ := c9 b gu hd q o lf L hC (hGS b hG) hin
      refine ⟨b1, d1, d2, d3, d4, d5, d6.cg (fun k j g => ?_), d7, d8, d9, d10⟩
      rw [rL_1]; simp only [rP_rd]; rw [if_neg (by omega)]
  · subst e
    have h10 : ¬ nI 1 = 0 := by decide
    obtain ⟨lim, hlim⟩ : ∃ lim : Int32, lim = (if lm = 0 then 0 else 1) := ⟨_, rfl⟩
    have hlb : lim = 0 ∨ lim = 1 := by
      rw [hlim]
      by_cases g : lm = 0
      · rw [if_pos g]; exact .inl rfl
      · rw [if_neg g]; exact .inr rfl
    obtain ⟨σd, ed⟩ : ∃ σd : jRS, σd = rP (rP (rP (rP (rP (rP (rP σc 17 (512 * i + m) (nI s)) 18 (512 * i + m) (nI t)) 19 (512 * i + m) (nI d)) 20 (512 * i + m) (if m = 0 then nI t else σ.1 26 i)) 21 (512 * i + m) lim) 22 (512 * i + m) (-9)) 16 i (nI (m + 1)) := ⟨_, rfl⟩
    have D : ∀ k j, ¬ (k = 16 ∧ j = i) → ¬ (17 ≤ k ∧ k ≤ 22 ∧ j = 512 * i + m) → σd.1 k j = σc.1 k j := fun k j g1 g2 => by
      rw [ed]; simp only [rP_rd]
      rw [if_neg g1, if_neg (by omega), if_neg (by omega), if_neg (by omega), if_neg (by omega), if_neg (by omega), if_neg (by omega)]
    have d2 : σd.2 = σ.2 := by rw [ed]; simp only [rP_2]; rw [c7, b2]
    refine ⟨1, w', rL σd i (jnext M (jgn (σ.1 39 i) (σ.1 40 i)) (σ.2 i) (nI t)), by omega, ⟨fun k j g1 g2 g3 g4 g5 => ?_, ?_, ?_, ?_, ?_, ?_, fun g => ?_, fun j => ?_⟩, c2.cg (fun j g => by rw [rL_1]; exact D 0 j (by omega) (by omega)), fun g => ?_, fun k hk => ⟨?_, ?_⟩, fun post hp => hd54 post (fun r2 s2 er es => ⟨fun hh => ?_, fun _ => ⟨vi hi, fun x4 e4 => ?_⟩⟩), fun b gu hd q o lf L hC hG hin => ?_⟩
    · rw [rL_1, D k j (by omega) (by omega)]; exact C k j g1 g2 g3 (by omega)
    · rw [rL_1, D 23 i (by omega) (by omega), c6 23 i (by omega) (by omega) (by omega)]; exact b23
    · rw [rL_1, D 24 i (by omega) (by omega), c6 24 i (by omega) (by omega) (by omega)]; exact b24
    · rw [rL_1, D 26 i (by omega) (by omega), c6 26 i (by omega) (by omega) (by omega)]; exact b26
    · rw [rL_1, D 34 i (by omega) (by omega), if_neg (by omega)]; exact C 34 i (by omega) (by omega) (by omega) (by omega)
    · rw [rL_1, ed]; simp only [rP_rd]; simp
    · rw [rL_1, ed, ← hlim]
      simp only [rP_rd]
      refine ⟨?_, ?_, ?_, ?_, ?_, ?_⟩ <;> simp
    · rw [rL_2, d2]
    · obtain ⟨y1, y2⟩ := c4 g
      refine ⟨?_, ?_⟩
      · rw [← y1]
        unfold qof
        rw [rL_1, D 0 5 (by omega) (by omega), D 10 _ (by omega) (by omega)]
      · rw [← y2]
        unfold qnum
        rw [rL_1, D 0 6 (by omega) (by omega), D 11 _ (by omega) (by omega)]
    · rw [← hqo k, ← (c5 k hk).1]
      unfold qof
      rw [rL_1, D 0 5 (by omega) (by omega), D 10 _ (by omega) (by omega)]
    · rw [← hqn k, ← (c5 k hk).2]
      unfold qnum
      rw [rL_1, D 0 6 (by omega) (by omega), D 11 _ (by omega) (by omega)]
    · subst er; exact absurd hh h10
    · subst es
      rw [C 16 i (by omega) (by omega) (by omega) (by omega), h16, n512] at e4
      subst e4
      rw [cl (show 512 * i + m < 2 ^ 31 by omega)]
      have hin : vp_in (nI (512 * i + m)) 1024 := vp_in_nI (by omega) (by omega)
      refine ⟨hin, fun t1 f1 v1 ev1 => ⟨hin, fun t2 f2 => ⟨vi hi, fun v2 ev2 => ⟨hin, fun t3 f3 => ⟨vi hi, fun v3 ev3 => ⟨hin, fun t4 f4 => ⟨vi hi, ?_⟩⟩⟩⟩⟩⟩⟩
      have ev1' : v1 = nI t := by rw [ev1, f1]; simp only [rP_rd]; rw [if_neg (by omega), C 0 0 (by omega) (by omega) (by omega) (by omega)]; exact hnow
      have ev2' : v2 = nI d := by rw [ev2, f2, f1]; simp only [rP_rd]; rw [if_neg (by omega), if_neg (by omega), C 25 i (by omega) (by omega) (by omega) (by omega)]; exact a5
      have ev3' : v3 = (if m = 0 then nI t else σ.1 26 i) := by rw [ev3, f3, f2, f1]; simp only [rP_rd]; rw [if_neg (by omega), if_neg (by omega), if_neg (by omega), c6 26 i (by omega) (by omega) (by omega)]; exact b26
      subst ev1' ev2' ev3'
      have q27 : t4.1 27 i = nI lm := by
        rw [f4, f3, f2, f1]; simp only [rP_rd]
        rw [if_neg (by omega), if_neg (by omega), if_neg (by omega), if_neg (by omega), C 27 i (by omega) (by omega) (by omega) (by omega)]; exact hlm2
      have q16 : t4.1 16 i = nI m := by
        rw [f4, f3, f2, f1]; simp only [rP_rd]
        rw [if_neg (by omega), if_neg (by omega), if_neg (by omega), if_neg (by omega), C 16 i (by omega) (by omega) (by omega) (by omega)]; exact h16
      rw [q27]
      have tl : ∀ y0, y0 = lim → wX7_sends_145 N t4 (nI i) r2 (nI (512 * i + m)) y0 (nI (512 * i + m)) post := by
        intro y0 ey
        simp only [wX7_sends_145, ci hi, cl (show 512 * i + m < 2 ^ 31 by omega)]
        refine ⟨hin, fun t5 f5 => ⟨hin, fun t6 f6 => ⟨vi hi, fun v4 ev4 => ⟨vi hi, fun t7 f7 => ?_⟩⟩⟩⟩
        rw [ey, narb hlb] at f5
        have ev4' : v4 = nI (m + 1) := by
          rw [ev4, f6, f5]; simp only [rP_rd]; rw [if_neg (by omega), if_neg (by omega), q16, nI_1]
        have e7 : t7 = σd := by rw [f7, ev4', f6, f5, f4, f3, f2, f1, ed]
        have q39 : t7.1 39 i = σ.1 39 i := by rw [e7, D 39 i (by omega) (by omega)]; exact C 39 i (by omega) (by omega) (by omega) (by omega)
        have q40 : t7.1 40 i = σ.1 40 i := by rw [e7, D 40 i (by omega) (by omega)]; exact C 40 i (by omega) (by omega) (by omega) (by omega)
        have q30 : t7.1 30 i = nI M := by rw [e7, D 30 i (by omega) (by omega), C 30 i (by omega) (by omega) (by omega) (by omega)]; exact hM2
        have q00 : t7.1 0 0 = nI t := by rw [e7, D 0 0 (by omega) (by omega), C 0 0 (by omega) (by omega) (by omega) (by omega)]; exact hnow
        have q2 : t7.2 i = σ.2 i := by rw [e7, d2]
        subst er
        refine q_178 (M := M) hi (.inr rfl) hM q30 (PSm _ q39 q40) ?_
        rw [q39, q40, q2, q00, e7]
        exact hp
      exact pk_le lm 0 (fun g => tl 0 (by rw [hlim, if_pos (by omega)])) (fun g => tl 1 (by rw [hlim, if_neg (by omega)]))
    · obtain ⟨b1, w1, w2, w3, w4, w5, w6, w7, w8, w9, w10⟩ := c9 b gu hd q o lf L hC (hGS b hG) hin
      exact ⟨b1, w1, w2, w3, w4, w5, w6.cg (fun k j g => by rw [rL_1]; exact D k j (by omega) (by omega)), w7, w8, w9, w10⟩

/-! sending: window, gain, pace; one answer for both sides -/
def jwin (st best least : Int32) : Int64 := if st = 3 then 4 else if best = 0 then 10 else if least = -9 then 10 else if st = 2 then jmaxl 4 (2 * jprod best least) else jmaxl 4 (289 * jprod best least / 100)
theorem c_window {N : Nat} {a : jSS} {post : Int64 → jSS → Prop} (h : post (jwin (a.1 3 0) (a.1 0 12) (a.1 0 13)) a) : wX5_window N a post := by
  unfold wX5_window wX5_window_31 wX5_window_69
  unfold jwin at h
  by_cases c1 : a.1 3 0 = 3
  · rw [if_pos c1] at h
    exact ⟨fun hh => absurd c1 hh, fun _ => h⟩
  · rw [if_neg c1] at h
    refine ⟨fun _ => ?_, fun hh => absurd hh c1⟩
    by_cases c2 : a.1 0 12 = 0
    · rw [if_pos c2] at h
      exact ⟨fun _ => h, fun hh => absurd c2 hh⟩
    · rw [if_neg c2] at h
      refine ⟨fun hh => absurd hh c2, fun _ => ?_⟩
      by_cases c3 : a.1 0 13 = -9
      · rw [if_pos c3] at h
        exact ⟨fun hh => absurd c3 hh, fun _ => h⟩
      · rw [if_neg c3] at h
        refine ⟨fun _ => ?_, fun hh => absurd hh c3⟩
        by_cases c4 : a.1 3 0 = 2
        · rw [if_pos c4] at h
          exact ⟨fun hh => absurd c4 hh, fun _ => c_product (fun m em => by rw [em]; exact h)⟩
        · rw [if_neg c4] at h
          exact ⟨fun _ => c_product (fun m em => by rw [em]; exact h), fun hh => absurd hh c4⟩
theorem jmaxl4 (y : Int64) : jmaxl 4 y = if 0 ≤ lg_cmp y 4 then y else 4 := by
  unfold jmaxl
  by_cases h : y < 4
  · rw [if_pos h, if_neg (by rw [lg_cmp_ge]; exact lg_lt_not_le h)]
  · rw [if_neg h]
    by_cases h2 : 0 ≤ lg_cmp y 4
    · rw [if_pos h2]
    · exfalso
      rw [lg_cmp_ge] at h2
      rcases lg_tri y 4 with g | g | g
      · exact h g
      · exact h2 (by rw [g]; exact Int64.le_refl _)
      · exact h2 (Int64.le_of_lt g)
theorem q_window73 {N : Nat} {σ : jRS} {y : Int64} {post : Int64 → jRS → Prop} (h : post (jmaxl 4 y) σ) : wX7_window_73 N σ y post := by
  rw [jmaxl4] at h
  unfold wX7_window_73
  refine ⟨fun g => ?_, fun g => ?_⟩
  · rw [if_pos g] at h; exact h
  · rw [if_neg g] at h; exact h
theorem q_window {N i : Nat} {σ : jRS} {post : Int64 → jRS → Prop} (hi : i < 2) (h : post (jwin (σ.1 39 i) (σ.1 30 i) (σ.1 31 i)) σ) : wX7_window N σ (nI i) post := by
  simp only [wX7_window, wX7_window_34, ci hi]
  unfold jwin at h
  by_cases c1 : σ.1 39 i = 3
  · rw [if_pos c1] at h
    exact ⟨vi hi, fun hh => absurd c1 hh, fun _ => h⟩
  · rw [if_neg c1] at h
    refine ⟨vi hi, fun _ => ⟨vi hi, ?_⟩, fun hh => absurd hh c1⟩
    by_cases c2 : σ.1 30 i = 0
    · rw [if_pos c2] at h
      exact ⟨fun _ => h, fun hh => absurd c2 hh⟩
    · rw [if_neg c2] at h
      refine ⟨fun hh => absurd hh c2, fun _ => ⟨vi hi, ?_⟩⟩
      by_cases c3 : σ.1 31 i = -9
      · rw [if_pos c3] at h
        exact ⟨fun hh => absurd c3 hh, fun _ => h⟩
      · rw [if_neg c3] at h
        refine ⟨fun _ => ⟨vi hi, ?_⟩, fun hh => absurd hh c3⟩
        by_cases c4 : σ.1 39 i = 2
        · rw [if_pos c4] at h
          exact ⟨fun hh => absurd c4 hh, fun _ => q_product hi (q_window73 h)⟩
        · rw [if_neg c4] at h
          exact ⟨fun _ => q_product hi (q_window73 h), fun hh => absurd hh c4⟩
def jfree (cnt : Int32) (win next : Int64) (now : Int32) : Int32 := if 0 ≤ lg_cmp cnt.toInt64 win then 0 else if 0 < lg_cmp next (1000 * now.toInt64) then 0 else 1
theorem c_free {N : Nat} {a : jSS} {win : Int64} {now : Int32} {post : Int32 → jSS → Prop} (h : post (jfree (a.1 1 1) win a.2.1 now) a) : wX5_isFree N a win now post := by
  unfold wX5_isFree
  unfold jfree at h
  by_cases c1 : 0 ≤ lg_cmp (a.1 1 1).toInt64 win
  · rw [if_pos c1] at h; exact ⟨fun _ => h, fun hh => absurd c1 hh⟩
  · rw [if_neg c1] at h
    refine ⟨fun hh => absurd hh c1, fun _ => ?_⟩
    by_cases c2 : 0 < lg_cmp a.2.1 (1000 * now.toInt64)
    · rw [if_pos c2] at h; exact ⟨fun _ => h, fun hh => absurd c2 hh⟩
    · rw [if_neg c2] at h; exact ⟨fun hh => absurd hh c2, fun _ => h⟩
theorem q_open {N i : Nat} {σ : jRS} {post : Int32 → jRS → Prop} (hi : i < 2) (h : post (jfree (σ.1 16 i) (jwin (σ.1 39 i) (σ.1 30 i) (σ.1 31 i)) (σ.2 i) (σ.1 0 0)) σ) : wX7_isOpen N σ (nI i) post := by
  simp only [wX7_isOpen, ci hi]
  refine ⟨vi hi, q_window hi ?_⟩
  unfold jfree at h
  by_cases c1 : 0 ≤ lg_cmp (σ.1 16 i).toInt64 (jwin (σ.1 39 i) (σ.1 30 i) (σ.1 31 i))
  · rw [if_pos c1] at h; exact ⟨fun _ => h, fun hh => absurd c1 hh⟩
  · rw [if_neg c1] at h
    refine ⟨fun hh => absurd hh c1, fun _ => ⟨vi hi, ?_⟩⟩
    by_cases c2 : 0 < lg_cmp (σ.2 i) (1000 * (σ.1 0 0).toInt64)
    · rw [if_pos c2] at h; exact ⟨fun _ => h, fun hh => absurd c2 hh⟩
    · rw [if_neg c2] at h; exact ⟨fun hh => absurd hh c2, fun _ => h⟩
def PS (i : Nat) (σ : jRS) : Prop := (σ.1 39 i = 0 ∨ σ.1 39 i = 1 ∨ σ.1 39 i = 2 ∨ σ.1 39 i = 3) ∧ ∃ ph : Nat, ph < 8 ∧ σ.1 40 i = nI ph
def jgn (st ph : Int32) : Nat := if st = 0 then 289 else if st = 1 then 35 else if st = 2 then (if ph = 0 then 125 else if ph = 1 then 75 else 100) else 100
theorem jgn_b (st ph : Int32) : 0 < jgn st ph ∧ jgn st ph < 300 := by
  unfold jgn
  repeat' split
  all_goals omega
theorem q_gain {N i : Nat} {σ : jRS} {post : Int32 → jRS → Prop} (hi : i < 2) (hP : PS i σ) (h : post (nI (jgn (σ.1 39 i) (σ.1 40 i))) σ) : wX7_gain N σ (nI i) post := by
  simp only [wX7_gain, ci hi]
  refine ⟨vi hi, fun v ev => ?_⟩
  subst ev
  unfold jgn at h
  have n01 : ¬ (1 : Int32) = 0 := by decide
  have n02 : ¬ (2 : Int32) = 0 := by decide
  have n12 : ¬ (2 : Int32) = 1 := by decide
  have n03 : ¬ (3 : Int32) = 0 := by decide
  have n13 : ¬ (3 : Int32) = 1 := by decide
  have n23 : ¬ (3 : Int32) = 2 := by decide
  rcases hP.1 with c | c | c | c
  · rw [c, if_pos rfl] at h
    rw [c]
    exact ⟨fun _ => h, fun hh => absurd rfl hh⟩
  · rw [c, if_neg n01, if_pos rfl] at h
    rw [c]
    exact ⟨fun hh => absurd hh n01, fun _ => ⟨fun _ => h, fun hh => absurd rfl hh⟩⟩
  · rw [c, if_neg n02, if_neg n12, if_pos rfl] at h
    rw [c]
    refine ⟨fun hh => absurd hh n02, fun _ => ⟨fun hh => absurd hh n12, fun _ => ⟨fun _ => ⟨vi hi, fun c2 => ⟨vi hi, fun c3 => ?_, fun c3 => ?_⟩, fun c2 => ?_⟩, fun hh => absurd rfl hh⟩⟩⟩
    · rw [if_neg c2, if_neg c3] at h; exact h
    · rw [if_neg c2, if_pos c3] at h; exact h
    · rw [if_pos c2] at h; exact h
  · rw [c, if_neg n03, if_neg n13, if_neg n23] at h
    rw [c]
    exact ⟨fun hh => absurd hh n03, fun _ => ⟨fun hh => absurd hh n13, fun _ => ⟨fun hh => absurd hh n23, fun _ => ⟨fun _ => h, fun hh => absurd rfl hh⟩⟩⟩⟩
theorem jgn_c {st p q : Int32} (h : st = 2 → p = q) : jgn st p = jgn st q := by
  unfold jgn
  by_cases h2 : st = 2
  · rw [h h2]
  · rw [if_neg h2, if_neg h2]
theorem c_gain {N ph : Nat} {a : jSS} {post : Int32 → jSS → Prop} (hp : ph < 8) (h1 : a.1 3 0 = 2 → a.1 3 1 = nI ph) (h : post (nI (jgn (a.1 3 0) (a.1 3 1))) a) : wX0_gain N a post := by
  unfold wX0_gain
  intro v ev
  subst ev
  unfold jgn at h
  by_cases c0 : a.1 3 0 = 0
  · rw [if_pos c0] at h; exact ⟨fun _ => h, fun hh => absurd c0 hh⟩
  · rw [if_neg c0] at h
    refine ⟨fun hh => absurd hh c0, fun _ => ?_⟩
    by_cases c1 : a.1 3 0 = 1
    · rw [if_pos c1] at h; exact ⟨fun _ => h, fun hh => absurd c1 hh⟩
    · rw [if_neg c1] at h
      refine ⟨fun hh => absurd hh c1, fun _ => ?_⟩
      by_cases c2 : a.1 3 0 = 2
      · rw [if_pos c2] at h
        refine ⟨fun _ => ?_, fun hh => absurd c2 hh⟩
        rw [h1 c2] at h ⊢
        refine ⟨fun hh => absurd hh (nI_pos (by omega)), fun _ => pk_le 8 ph (fun g => by omega) (fun _ => ⟨vp_in_nI hp (by omega), ?_⟩)⟩
        rw [cl (show ph < 2 ^ 31 by omega)]
        have : jGains ph = nI (if nI ph = 0 then 125 else if nI ph = 1 then 75 else 100) := by
          rcases (show ph = 0 ∨ ph = 1 ∨ 2 ≤ ph by omega) with e | e | e
          · subst e; rfl
          · subst e; rfl
          · rw [if_neg (nI_ne0 (by omega) (by omega)), if_neg (fun g => by
              rw [show (1 : Int32) = nI 1 from rfl] at g
              have := (neq (by omega) (by omega)).1 g
              omega)]
            unfold jGains
            rw [if_neg (by omega), if_neg (by omega)]
            rfl
        rw [this]; exact h
      · rw [if_neg c2] at h; exact ⟨fun hh => absurd hh c2, fun _ => h⟩
def jnext (M g : Nat) (next : Int64) (now : Int32) : Int64 := if M = 0 then next else jmaxl next (1000 * now.toInt64) + 100000000 / ((nI M).toInt64 * (nI g).toInt64)
theorem jdiv {M g : Nat} (hM : M < 2 ^ 31) (hg0 : 0 < g) (hg : g < 300) : ((nI M).toInt64 * (nI g).toInt64 = 0 ↔ M = 0) ∧ (lg_cmp ((nI M).toInt64 * (nI g).toInt64) 0 ≤ 0 ↔ M = 0) := by
  rw [nI_l hM, nI_l (by omega)]
  have e : lN M * lN g = lN (M * g) := (Int64.ofNat_mul M g).symm
  have hb : M * g < 2 ^ 63 := by
    have h1 : M * g ≤ 2 ^ 31 * 300 := Nat.mul_le_mul (by omega) (by omega)
    omega
  have h0 : M * g = 0 ↔ M = 0 := by
    rw [Nat.mul_eq_zero]
    omega
  rw [e, lg_cmp_le]
  refine ⟨?_, ?_⟩
  · rw [show (0 : Int64) = lN 0 from rfl, pk_lEQ hb (by omega)]; exact h0
  · rw [show (0 : Int64) = lN 0 from rfl, pk_lLE hb (by omega)]; omega
theorem c_putOff {N M ph : Nat} {a : jSS} {now : Int32} {post : jSS → Prop} (hp : ph < 8) (h1 : a.1 3 0 = 2 → a.1 3 1 = nI ph) (hM : M < 2 ^ 31) (h12 : a.1 0 12 = nI M) (h : post (aN a (jnext M (jgn (a.1 3 0) (a.1 3 1)) a.2.1 now))) : wX5_putOffNext N a now post := by
  unfold wX5_putOffNext
  refine c_gain hp h1 ?_
  obtain ⟨g1, g2⟩ := jgn_b (a.1 3 0) (a.1 3 1)
  obtain ⟨d1, d2⟩ := jdiv hM g1 g2
  intro x2 e2
  rw [h12] at e2
  subst e2
  unfold jnext at h
  refine ⟨fun hh => ?_, fun hh m em => ⟨fun g => ?_, fun v ev a1 e1 => ?_⟩⟩
  · rw [if_pos (d2.1 hh)] at h; exact h
  · exact hh (d2.2 (d1.1 g))
  · rw [if_neg (fun g => hh (d2.2 g))] at h
    subst em ev e1
    exact h
theorem q_178 {N i M : Nat} {σ : jRS} {x3 : Int32} {post : Int32 → jRS → Prop} (hi : i < 2) (hx : x3 = 0 ∨ x3 = 1) (hM : M < 2 ^ 31) (h30 : σ.1 30 i = nI M) (hP : PS i σ) (h : post x3 (rL σ i (jnext M (jgn (σ.1 39 i) (σ.1 40 i)) (σ.2 i) (σ.1 0 0)))) : wX7_sends_178 N σ (nI i) x3 post := by
  obtain ⟨g1, g2⟩ := jgn_b (σ.1 39 i) (σ.1 40 i)
  obtain ⟨d1, d2⟩ := jdiv hM g1 g2
  simp only [wX7_sends_178, ci hi, h30]
  unfold jnext at h
  refine ⟨vi hi, pk_le M 0 (fun g => ⟨hx, ?_⟩) (fun g => ⟨vi hi, ?_⟩)⟩
  · rw [if_pos (by omega)] at h
    have : rL σ i (σ.2 i) = σ := by
      apply Prod.ext
      · rfl
      · funext j
        rw [rL_2]
        by_cases hj : j = i
        · rw [if_pos hj, hj]
        · rw [if_neg hj]
    rw [this] at h
    exact h
  · rw [if_neg (by omega)] at h
    have tl : ∀ y0, y0 = jmaxl (σ.2 i) (1000 * (σ.1 0 0).toInt64) → wX7_sends_224 N σ (nI i) x3 y0 post := by
      intro y0 ey
      simp only [wX7_sends_224, ci hi, h30]
      refine ⟨vi hi, q_gain hi hP ⟨fun g9 => ?_, fun v ev => ⟨vi hi, fun s es => ⟨hx, ?_⟩⟩⟩⟩
      · have := d1.1 g9; omega
      · subst ey ev es; exact h
    refine ⟨fun hh => tl _ ?_, fun hh => ⟨vi hi, tl _ ?_⟩⟩
    · unfold jmaxl
      rw [lg_cmp_le] at hh
      rw [if_neg (lg_le_not_lt hh)]
    · unfold jmaxl
      rw [lg_cmp_le] at hh
      rcases lg_tri (1000 * (σ.1 0 0).toInt64) (σ.2 i) with g | g | g
      · rw [if_pos g]
      · exact absurd (by rw [g]; exact Int64.le_refl _) hh
      · exact absurd (Int64.le_of_lt g) hh

/-! samples: numbered since the start; e x = how many have a round below x - 9, so those of round q lie from e (q + 9) to e (q + 10) -/
theorem nle {a b : Nat} (ha : a < 2 ^ 31) (hb : b < 2 ^ 31) : nI a ≤ nI b ↔ a ≤ b := ⟨fun h => Classical.byContradiction fun g => nI_ge (by omega) ha h, fun h => nI_le h hb⟩
theorem nlt {a b : Nat} (ha : a < 2 ^ 31) (hb : b < 2 ^ 31) : nI a < nI b ↔ a < b := ⟨fun h => Classical.byContradiction fun g => nI_nlt (by omega) ha h, fun h => nI_lt h hb⟩
theorem neq {a b : Nat} (ha : a < 2 ^ 31) (hb : b < 2 ^ 31) : nI a = nI b ↔ a = b := ⟨fun h => by have := congrArg Int32.toNatClampNeg h; rwa [nI_clamp ha, nI_clamp hb] at this, fun h => by rw [h]⟩
theorem jmax_n {a b : Nat} (ha : a < 2 ^ 31) (hb : b < 2 ^ 31) : jmax (nI a) (nI b) = nI (max a b) := by
  unfold jmax
  by_cases h : a < b
  · rw [if_pos ((nlt ha hb).2 h), Nat.max_eq_right (by omega)]
  · rw [if_neg (fun g => h ((nlt ha hb).1 g)), Nat.max_eq_left (by omega)]
def MX (V : Nat → Nat) (lo hi M : Nat) : Prop := (∀ j, lo ≤ j → j < hi → V j ≤ M) ∧ (M = 0 ∨ ∃ j, lo ≤ j ∧ j < hi ∧ V j = M)
theorem MX.uq {V : Nat → Nat} {lo hi M M' : Nat} (h : MX V lo hi M) (h' : MX V lo hi M') : M = M' := by
  unfold MX at h h'
  grind
theorem MX.app {V : Nat → Nat} {lo T M v : Nat} (h : MX V lo T M) (hl : lo ≤ T) : MX (fun j => if j = T then v else V j) lo (T + 1) (max M v) := by
  obtain ⟨h1, h2⟩ := h
  refine ⟨fun j g1 g2 => ?_, ?_⟩
  · by_cases hj : j = T
    · simp only [hj, if_true]; omega
    · have := h1 j g1 (by omega); simp only [if_neg hj]; omega
  · by_cases hv : M ≤ v
    · right; exact ⟨T, hl, by omega, by simp; omega⟩
    · rcases h2 with h2 | ⟨j, g1, g2, g3⟩
      · left; omega
      · right; refine ⟨j, g1, by omega, ?_⟩; show (if j = T then v else V j) = max M v; rw [if_neg (by omega)]; omega
theorem MX.drop {V : Nat → Nat} {lo T M : Nat} (h : MX V lo T M) (hv : V lo < M) : MX V (lo + 1) T M := by
  obtain ⟨h1, h2⟩ := h
  refine ⟨fun j g1 g2 => h1 j (by omega) g2, ?_⟩
  rcases h2 with h2 | ⟨j, g1, g2, g3⟩
  · left; exact h2
  · right; refine ⟨j, ?_, g2, g3⟩
    have : j ≠ lo := by rintro rfl; omega
    omega
theorem MX.cg {V V' : Nat → Nat} {lo hi M : Nat} (h : MX V lo hi M) (hv : ∀ j, lo ≤ j → j < hi → V' j = V j) : MX V' lo hi M := by
  obtain ⟨h1, h2⟩ := h
  refine ⟨fun j g1 g2 => by rw [hv j g1 g2]; exact h1 j g1 g2, ?_⟩
  rcases h2 with h2 | ⟨j, g1, g2, g3⟩
  · left; exact h2
  · right; exact ⟨j, g1, g2, by rw [hv j g1 g2]; exact g3⟩
theorem MX.lt {V : Nat → Nat} {lo hi M : Nat} (h : MX V lo hi M) (hv : ∀ j, V j < 2 ^ 31) : M < 2 ^ 31 := by
  rcases h.2 with h2 | ⟨j, g1, g2, g3⟩
  · omega
  · rw [← g3]; exact hv j
def EW (r T : Nat) (e V : Nat → Nat) : Prop := (∀ x y, x ≤ y → y ≤ r + 10 → e x ≤ e y) ∧ (∀ x, x ≤ 10 → e x = 0) ∧ e (r + 10) = T ∧ (∀ x, x < r + 10 → e (x + 1) ≤ e x + 261) ∧ ∀ j, V j < 2 ^ 31
def SC (r T : Nat) (e V : Nat → Nat) (a : jSS) : Prop := a.1 2 3 = nI (e r % 2610) ∧ a.1 2 4 = nI (T - e r) ∧ (∀ x, r < x → x ≤ r + 10 → a.1 5 (x % 10) = nI (e x - e (x - 1)) ∧ ∃ M, a.1 6 (x % 10) = nI M ∧ MX V (e (x - 1)) (e x) M) ∧ ∀ j, e r ≤ j → j < T → a.1 4 (j % 2610) = nI (V j)
/-- what the samples' methods of the class may touch -/
def AS (a a' : jSS) : Prop := (∀ k j, k ≠ 2 → k ≠ 4 → k ≠ 5 → k ≠ 6 → a'.1 k j = a.1 k j) ∧ a'.2 = a.2
def eup (e : Nat → Nat) (x0 T : Nat) : Nat → Nat := fun x => if x = x0 then T else e x
theorem EW.begin {r T : Nat} {e V : Nat → Nat} (h : EW r T e V) : EW (r + 1) T (eup e (r + 11) T) V := by
  obtain ⟨h1, h2, h3, h4, h5⟩ := h
  refine ⟨fun x y g1 g2 => ?_, fun x g => ?_, ?_, fun x g => ?_, h5⟩
  · unfold eup
    by_cases hy : y = r + 11
    · rw [if_pos hy]
      by_cases hx : x = r + 11
      · rw [if_pos hx]; omega
      · rw [if_neg hx, ← h3]; exact h1 x (r + 10) (by omega) (by omega)
    · rw [if_neg hy, if_neg (by omega)]; exact h1 x y g1 (by omega)
  · unfold eup; rw [if_neg (by omega)]; exact h2 x g
  · unfold eup; rw [if_pos (by omega)]
  · unfold eup
    by_cases hx : x = r + 10
    · rw [if_pos (by omega), if_neg (by omega), hx, h3]; omega
    · rw [if_neg (by omega), if_neg (by omega)]; exact h4 x (by omega)
theorem EW.keep {r T v : Nat} {e V : Nat → Nat} (h : EW r T e V) (hr : 0 < r) (hb : T + 1 ≤ e (r + 9) + 261) (hv : v < 2 ^ 31) : EW r (T + 1) (eup e (r + 10) (T + 1)) (fun j => if j = T then v else V j) := by
  obtain ⟨h1, h2, h3, h4, h5⟩ := h
  refine ⟨fun x y g1 g2 => ?_, fun x g => ?_, ?_, fun x g => ?_, fun j => ?_⟩
  · unfold eup
    by_cases hy : y = r + 10
    · rw [if_pos hy]
      by_cases hx : x = r + 10
      · rw [if_pos hx]; omega
      · rw [if_neg hx]; have := h1 x (r + 10) (by omega) (by omega); omega
    · rw [if_neg hy, if_neg (by omega)]; exact h1 x y g1 (by omega)
  · unfold eup; rw [if_neg (by omega)]; exact h2 x g
  · unfold eup; rw [if_pos rfl]
  · unfold eup
    by_cases hx : x = r + 9
    · rw [if_pos (by omega), if_neg (by omega), hx]; exact hb
    · rw [if_neg (by omega), if_neg (by omega)]; exact h4 x g
  · show (if j = T then v else V j) < 2 ^ 31
    by_cases hj : j = T
    · rw [if_pos hj]; exact hv
    · rw [if_neg hj]; exact h5 j
theorem EW.ten {r T : Nat} {e V : Nat → Nat} (h : EW r T e V) : ∀ n, n ≤ 10 → e (r + n) ≤ e r + n * 261 := by
  intro n
  induction n with
  | zero => intro _; simp
  | succ n ih => intro hn; have h6 := ih (by omega); have h7 := h.2.2.2.1 (r + n) (by omega); rw [← Nat.add_assoc, Nat.succ_mul]; exact Nat.le_trans h7 (by rw [← Nat.add_assoc]; exact Nat.add_le_add_right h6 261)
theorem c_ring {N f k : Nat} {a : jSS} {post : Int32 → jSS → Prop} (h3 : a.1 2 3 = nI (f % 2610)) (hk : k ≤ 2610) (h : post (nI ((f + k) % 2610)) a) : wX4_ringPlace N a (nI k) post := by
  unfold wX4_ringPlace
  intro x2 e2
  rw [h3, nI_add] at e2
  subst e2
  refine pk_lt (f % 2610 + k) 2610 (fun g => ?_) (fun g => ?_)
  · rw [show (f + k) % 2610 = f % 2610 + k by omega] at h; exact h
  · rw [show (2610 : Int32) = nI 2610 from rfl, pk_sub g]
    by_cases hh : f % 2610 + k = 5220
    · exfalso; omega
    · rw [show (f + k) % 2610 = f % 2610 + k - 2610 by omega] at h; exact h
theorem c_begin {N r T : Nat} {e V : Nat → Nat} {a : jSS} (hr : r < 2 ^ 30) (hT : T < 2 ^ 30) (hE : EW r T e V) (hS : SC r T e V a) : ∃ a', SC (r + 1) T (eup e (r + 11) T) V a' ∧ AS a a' ∧ ∀ post, post a' → wX4_beginRound N a (nI (r + 1)) post := by
  obtain ⟨h1, h2, h3, h4, h5⟩ := id hE
  obtain ⟨s1, s2, s3, s4⟩ := hS
  have hm : e r ≤ e (r + 1) := h1 _ _ (by omega) (by omega)
  have hm2 : e (r + 1) ≤ T := by rw [← h3]; exact h1 _ _ (by omega) (by omega)
  have hm3 : e (r + 1) ≤ e r + 261 := h4 r (by omega)
  have hp := s3 (r + 1) (by omega) (by omega)
  rw [show r + 1 - 1 = r by omega] at hp
  refine ⟨aP (aP (aP (aP a 2 3 (nI (e (r + 1) % 2610))) 2 4 (nI (T - e (r + 1)))) 5 ((r + 1) % 10) 0) 6 ((r + 1) % 10) 0, ⟨?_, ?_, fun x g1 g2 => ?_, fun j g1 g2 => ?_⟩, ⟨?_, rfl⟩, fun post hpost => ?_⟩
  · simp only [aP_rd]; unfold eup; rw [if_neg (show ¬ r + 1 = r + 11 by omega)]; grind
  · simp only [aP_rd]; unfold eup; rw [if_neg (show ¬ r + 1 = r + 11 by omega)]; grind
  · unfold eup
    by_cases hx : x = r + 11
    · rw [if_pos hx, if_neg (show ¬ x - 1 = r + 11 by omega), show x % 10 = (r + 1) % 10 by omega, show x - 1 = r + 10 by omega, h3]
      refine ⟨?_, 0, ?_, ?_⟩
      · simp only [aP_rd]; rw [show T - T = 0 by omega, nI_0]; grind
      · simp only [aP_rd]; rw [nI_0]; grind
      · exact ⟨fun j q1 q2 => by omega, .inl rfl⟩
    · rw [if_neg hx, if_neg (show ¬ x - 1 = r + 11 by omega)]
      have hne : x % 10 ≠ (r + 1) % 10 := by omega
      obtain ⟨q1, M, q2, q3⟩ := s3 x (by omega) (by omega)
      refine ⟨?_, M, ?_, q3⟩
      · simp only [aP_rd]; grind
      · simp only [aP_rd]; grind
  · have := s4 j (by unfold eup at g1; rw [if_neg (by omega)] at g1; omega) g2
    simp only [aP_rd]; grind
  · intro k j g1 g2 g3 g4; simp only [aP_rd]; grind
  · unfold wX4_beginRound
    intro p ep
    rw [fmA (by omega)] at ep
    subst ep
    rw [cl (show (r + 1) % 10 < 2 ^ 31 by omega)]
    have hb : vp_in (nI ((r + 1) % 10)) 10 := vp_in_nI (by omega) (by omega)
    refine ⟨hb, ?_⟩
    rw [hp.1]
    refine c_ring s1 (by omega) (fun a1 e1 => ⟨hb, fun v ev a2 e2 => ⟨hb, fun a3 e3 => ⟨hb, fun a4 e4 => ?_⟩⟩⟩)
    rw [show e r + (e (r + 1) - e r) = e (r + 1) by omega] at e1
    subst e1
    have ev' : v = nI (T - e (r + 1)) := by
      rw [ev]
      simp only [aP_rd]
      rw [if_neg (by omega), if_neg (by omega), s2, hp.1, pk_sub (by omega)]
      congr 1
      omega
    subst ev' e2 e3 e4
    exact hpost
theorem c_keep {N r T v : Nat} {e V : Nat → Nat} {a : jSS} (hr : r < 2 ^ 30) (hT : T < 2 ^ 30) (hv : v < 2 ^ 31) (hE : EW r T e V) (hb : T < e r + 2610) (hS : SC r T e V a) : ∃ a', SC r (T + 1) (eup e (r + 10) (T + 1)) (fun j => if j = T then v else V j) a' ∧ AS a a' ∧ ∀ post, post a' → wX4_keep N a (nI r) (nI v) post := by
  obtain ⟨h1, h2, h3, h4, h5⟩ := id hE
  obtain ⟨s1, s2, s3, s4⟩ := hS
  have hm2 : e r ≤ T := by rw [← h3]; exact h1 _ _ (by omega) (by omega)
  have hm3 : e (r + 9) ≤ T := by rw [← h3]; exact h1 _ _ (by omega) (by omega)
  obtain ⟨p1, M, p2, p3⟩ := s3 (r + 10) (by omega) (by omega)
  have z1 : r + 10 - 1 = r + 9 := by omega
  have z2 : (r + 10) % 10 = r % 10 := by omega
  rw [h3, z1] at p3
  rw [h3, z1, z2] at p1
  rw [z2] at p2
  have hM := p3.lt h5
  refine ⟨aP (aP (aP (aP a 4 (T % 2610) (nI v)) 2 4 (nI (T - e r + 1))) 5 (r % 10) (nI (T - e (r + 9) + 1))) 6 (r % 10) (nI (max M v)), ⟨?_, ?_, fun x g1 g2 => ?_, fun j g1 g2 => ?_⟩, ⟨?_, rfl⟩, fun post hpost => ?_⟩
  · simp only [aP_rd]; unfold eup; rw [if_neg (show ¬ r = r + 10 by omega)]; grind
  · simp only [aP_rd]; unfold eup; rw [if_neg (show ¬ r = r + 10 by omega), show T + 1 - e r = T - e r + 1 by omega]; grind
  · unfold eup
    by_cases hx : x = r + 10
    · rw [if_pos hx, if_neg (show ¬ x - 1 = r + 10 by omega), show x % 10 = r % 10 by omega, show x - 1 = r + 9 by omega]
      refine ⟨?_, max M v, ?_, p3.app hm3⟩
      · simp only [aP_rd]; rw [show T + 1 - e (r + 9) = T - e (r + 9) + 1 by omega]; grind
      · simp only [aP_rd]; grind
    · rw [if_neg hx, if_neg (show ¬ x - 1 = r + 10 by omega)]
      have hne : x % 10 ≠ r % 10 := by omega
      obtain ⟨q1, M2, q2, q3⟩ := s3 x (by omega) (by omega)
      have hxT : e x ≤ T := by rw [← h3]; exact h1 _ _ (by omega) (by omega)
      refine ⟨?_, M2, ?_, q3.cg (fun j w1 w2 => by rw [if_neg (by omega)])⟩
      · simp only [aP_rd]; grind
      · simp only [aP_rd]; grind
  · have hl : e r ≤ j := by unfold eup at g1; rw [if_neg (by omega)] at g1; exact g1
    by_cases hj : j = T
    · subst hj; simp only [aP_rd]; grind
    · have hq := s4 j hl (by omega)
      have hne : j % 2610 ≠ T % 2610 := by omega
      simp only [aP_rd]; rw [if_neg hj]; grind
  · intro k j g1 g2 g3 g4; simp only [aP_rd]; grind
  · unfold wX4_keep
    rw [s2]
    refine c_ring s1 (by omega) ?_
    rw [show e r + (T - e r) = T by omega, s2]
    refine pk_le 2610 (T - e r) (fun g => by omega) (fun g => ?_)
    refine ⟨fun hh => absurd hh (nI_pos (by omega)), fun _ => ?_⟩
    refine pk_lt (T % 2610) 2610 (fun g => ?_) (fun g => by omega)
    rw [cl (show T % 2610 < 2 ^ 31 by omega)]
    refine ⟨vp_in_nI g (by omega), fun a1 e1 v1 ev1 a2 e2 r1 er1 => ?_⟩
    rw [fmA (by omega)] at er1
    subst er1
    rw [cl (show r % 10 < 2 ^ 31 by omega)]
    have hin : vp_in (nI (r % 10)) 10 := vp_in_nI (by omega) (by omega)
    refine ⟨hin, fun v2 ev2 => ⟨hin, fun a3 e3 => ⟨hin, fun m em => ⟨hin, fun a4 e4 => ?_⟩⟩⟩⟩
    have ev1' : v1 = nI (T - e r + 1) := by
      rw [ev1, e1]; simp only [aP_rd]; rw [if_neg (by omega), s2, nI_1]
    subst ev1'
    have ev2' : v2 = nI (T - e (r + 9) + 1) := by
      rw [ev2, e2, e1]; simp only [aP_rd]; rw [if_neg (by omega), if_neg (by omega), p1, nI_1]
    subst ev2'
    have em' : m = nI (max M v) := by
      rw [em, e3, e2, e1]
      have : (aP (aP (aP a 4 (T % 2610) (nI v)) 2 4 (nI (T - e r + 1))) 5 (r % 10) (nI (T - e (r + 9) + 1))).1 6 (r % 10) = nI M := by
        simp only [aP_rd]; grind
      rw [this, jmax_n hM hv]
    subst em' e4 e3 e2 e1
    exact hpost
theorem blk {e : Nat → Nat} {r j : Nat} (hl : e r ≤ j) : ∀ n, j < e (r + n) → ∃ x, r < x ∧ x ≤ r + n ∧ e (x - 1) ≤ j ∧ j < e x := by
  intro n
  induction n with
  | zero => intro h; exact absurd h (by simp; omega)
  | succ n ih =>
    intro h
    by_cases hj : j < e (r + n)
    · obtain ⟨x, g1, g2, g3, g4⟩ := ih hj
      exact ⟨x, g1, by omega, g3, g4⟩
    · exact ⟨r + (n + 1), by omega, by omega, by rw [show r + (n + 1) - 1 = r + n by omega]; omega, h⟩
theorem c_gr {N r T : Nat} {e V : Nat → Nat} {a : jSS} (hN : 11 ≤ N) (hE : EW r T e V) (hS : SC r T e V a) : ∃ M, MX V (e r) T M ∧ M < 2 ^ 31 ∧ ∀ post : Int32 → jSS → Prop, post (nI M) a → wX4_greatestOfAll N a post := by
  obtain ⟨h1, h2, h3, h4, h5⟩ := id hE
  obtain ⟨s1, s2, s3, s4⟩ := hS
  have key : ∀ n p Z : Nat, p ≤ 10 → 11 ≤ p + n → Z < 2 ^ 31 → (∀ x, r < x → x ≤ r + 10 → x % 10 < p → ∀ j, e (x - 1) ≤ j → j < e x → V j ≤ Z) → (Z = 0 ∨ ∃ j, e r ≤ j ∧ j < T ∧ V j = Z) → ∃ M, MX V (e r) T M ∧ M < 2 ^ 31 ∧ ∀ post : Int32 → jSS → Prop, post (nI M) a → wX4_greatestOfAll_4 N n a (nI Z) (nI p) post := by
    intro n
    induction n with
    | zero => intro p Z g1 g2; omega
    | succ n ih =>
      intro p Z g1 g2 g3 g4 g5
      by_cases hp : p = 10
      · subst hp
        refine ⟨Z, ⟨fun j q1 q2 => ?_, g5⟩, g3, fun post hpost => ?_⟩
        · obtain ⟨x, w1, w2, w3, w4⟩ := blk q1 10 (by rw [h3]; exact q2)
          exact g4 x w1 w2 (by omega) j w3 w4
        · unfold wX4_greatestOfAll_4
          exact pk_le 10 10 (fun _ => hpost) (fun g => by omega)
      · obtain ⟨x0, y1, y2, y3⟩ : ∃ x, r < x ∧ x ≤ r + 10 ∧ x % 10 = p := ⟨r + 1 + (p + 10 - (r + 1) % 10) % 10, by omega, by omega, by omega⟩
        obtain ⟨q1, M, q2, q3⟩ := s3 x0 y1 y2
        have hM := q3.lt h5
        rw [y3] at q2
        have b1 : e r ≤ e (x0 - 1) := h1 _ _ (by omega) (by omega)
        have b2 : e x0 ≤ T := by rw [← h3]; exact h1 _ _ (by omega) (by omega)
        obtain ⟨M', w1, w2, w3⟩ := ih (p + 1) (max Z M) (by omega) (by omega) (by omega) (fun x v1 v2 v3 j v4 v5 => by
          by_cases hx : x = x0
          · subst hx; have := q3.1 j v4 v5; omega
          · have := g4 x v1 v2 (by omega) j v4 v5; omega) (by
          by_cases hz : Z ≤ M
          · rcases q3.2 with k1 | ⟨j, k1, k2, k3⟩
            · left; omega
            · right; exact ⟨j, by omega, by omega, by omega⟩
          · rcases g5 with k1 | ⟨j, k1, k2, k3⟩
            · left; omega
            · right; exact ⟨j, by omega, by omega, by omega⟩)
        refine ⟨M', w1, w2, fun post hpost => ?_⟩
        unfold wX4_greatestOfAll_4
        refine pk_le 10 p (fun g => by omega) (fun g => ⟨vp_in_nI (by omega) (by omega), fun m em p1 ep1 => ?_⟩)
        rw [cl (show p < 2 ^ 31 by omega), q2, jmax_n g3 hM] at em
        rw [nI_1] at ep1
        subst em ep1
        exact w3 post hpost
  exact key N 0 0 (by omega) (by omega) (by omega) (fun x _ _ g => by omega) (.inl rfl)

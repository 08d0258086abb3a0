/-! samples: numbered since the start; e x = how many have a round below x - 9, so those of round q lie from e (q + 9) to e (q + 10) -/
theorem nle {a b : Nat} (ha : a < 2 ^ 31) (hb : b < 2 ^ 31) : nI a ≤ nI b ↔ a ≤ b := ⟨fun h => Classical.byContradiction fun g => nI_ge (by omega) ha h, fun h => nI_le h hb⟩
theorem nlt {a b : Nat} (ha : a < 2 ^ 31) (hb : b < 2 ^ 31) : nI a < nI b ↔ a < b := ⟨fun h => Classical.byContradiction fun g => nI_nlt (by omega) ha h, fun h => nI_lt h hb⟩
theorem neq {a b : Nat} (ha : a < 2 ^ 31) (hb : b < 2 ^ 31) : nI a = nI b ↔ a = b := ⟨fun h => by have := congrArg Int32.toNatClampNeg h; rwa [nI_clamp ha, nI_clamp hb] at this, fun h => by rw [h]⟩
theorem jmax_n {a b : Nat} (ha : a < 2 ^ 31) (hb : b < 2 ^ 31) : jmax (nI a) (nI b) = nI (max a b) := by
  unfold jmax
  by_cases h : a < b
  · rw [if_pos ((nlt ha hb).2 h), Nat.max_eq_right (by omega)]
  · rw [if_neg (fun g => h ((nlt ha hb).1 g)), Nat.max_eq_left (by omega)]
def MX (V : Nat → Nat) (lo hi M : Nat) : Prop := (∀ j, lo ≤ j → j < hi → V j ≤ M) ∧ (M = 0 ∨ ∃ j, lo ≤ j ∧ j < hi ∧ V j = M)
theorem MX.uq {V : Nat → Nat} {lo hi M M' : Nat} (h : MX V lo hi M) (h' : MX V lo hi M') : M = M' := by
  unfold MX at h h'
  grind
theorem MX.app {V : Nat → Nat} {lo T M v : Nat} (h : MX V lo T M) (hl : lo ≤ T) : MX (fun j => if j = T then v else V j) lo (T + 1) (max M v) := by
  obtain ⟨h1, h2⟩ := h
  refine ⟨fun j g1 g2 => ?_, ?_⟩
  · by_cases hj : j = T
    · simp only [hj, if_true]; omega
    · have := h1 j g1 (by omega); simp only [if_neg hj]; omega
  · by_cases hv : M ≤ v
    · right; exact ⟨T, hl, by omega, by simp; omega⟩
    · rcases h2 with h2 | ⟨j, g1, g2, g3⟩
      · left; omega
      · right; refine ⟨j, g1, by omega, ?_⟩; show (if j = T then v else V j) = max M v; rw [if_neg (by omega)]; omega
theorem MX.drop {V : Nat → Nat} {lo T M : Nat} (h : MX V lo T M) (hv : V lo < M) : MX V (lo + 1) T M := by
  obtain ⟨h1, h2⟩ := h
  refine ⟨fun j g1 g2 => h1 j (by omega) g2, ?_⟩
  rcases h2 with h2 | ⟨j, g1, g2, g3⟩
  · left; exact h2
  · right; refine ⟨j, ?_, g2, g3⟩
    have : j ≠ lo := by rintro rfl; omega
    omega
theorem MX.cg {V V' : Nat → Nat} {lo hi M : Nat} (h : MX V lo hi M) (hv : ∀ j, lo ≤ j → j < hi → V' j = V j) : MX V' lo hi M := by
  obtain ⟨h1, h2⟩ := h
  refine ⟨fun j g1 g2 => by rw [hv j g1 g2]; exact h1 j g1 g2, ?_⟩
  rcases h2 with h2 | ⟨j, g1, g2, g3⟩
  · left; exact h2
  · right; exact ⟨j, g1, g2, by rw [hv j g1 g2]; exact g3⟩
theorem MX.lt {V : Nat → Nat} {lo hi M : Nat} (h : MX V lo hi M) (hv : ∀ j, V j < 2 ^ 31) : M < 2 ^ 31 := by
  rcases h.2 with h2 | ⟨j, g1, g2, g3⟩
  · omega
  · rw [← g3]; exact hv j
def EW (r T : Nat) (e V : Nat → Nat) : Prop := (∀ x y, x ≤ y → y ≤ r + 10 → e x ≤ e y) ∧ (∀ x, x ≤ 10 → e x = 0) ∧ e (r + 10) = T ∧ (∀ x, x < r + 10 → e (x + 1) ≤ e x + 261) ∧ ∀ j, V j < 2 ^ 31
/-- the class's samples: rates in a ring; counts and greatest by how many rounds ago -/
def SC (r T : Nat) (e V : Nat → Nat) (a : jSS) : Prop := a.1 2 3 = nI (e r % 2610) ∧ a.1 2 4 = nI (T - e r) ∧ (∀ x, r < x → x ≤ r + 10 → a.1 5 (r + 10 - x) = nI (e x - e (x - 1)) ∧ ∃ M, a.1 6 (r + 10 - x) = nI M ∧ MX V (e (x - 1)) (e x) M) ∧ ∀ j, e r ≤ j → j < T → a.1 4 (j % 2610) = nI (V j)
/-- what the samples' methods of the class may touch -/
def AS (a a' : jSS) : Prop := (∀ k j, k ≠ 2 → k ≠ 4 → k ≠ 5 → k ≠ 6 → a'.1 k j = a.1 k j) ∧ a'.2 = a.2
def eup (e : Nat → Nat) (x0 T : Nat) : Nat → Nat := fun x => if x = x0 then T else e x
theorem EW.begin {r T : Nat} {e V : Nat → Nat} (h : EW r T e V) : EW (r + 1) T (eup e (r + 11) T) V := by
  obtain ⟨h1, h2, h3, h4, h5⟩ := h
  refine ⟨fun x y g1 g2 => ?_, fun x g => ?_, ?_, fun x g => ?_, h5⟩
  · unfold eup
    by_cases hy : y = r + 11
    · rw [if_pos hy]
      by_cases hx : x = r + 11
      · rw [if_pos hx]; omega
      · rw [if_neg hx, ← h3]; exact h1 x (r + 10) (by omega) (by omega)
    · rw [if_neg hy, if_neg (by omega)]; exact h1 x y g1 (by omega)
  · unfold eup; rw [if_neg (by omega)]; exact h2 x g
  · unfold eup; rw [if_pos (by omega)]
  · unfold eup
    by_cases hx : x = r + 10
    · rw [if_pos (by omega), if_neg (by omega), hx, h3]; omega
    · rw [if_neg (by omega), if_neg (by omega)]; exact h4 x (by omega)
theorem EW.keep {r T v : Nat} {e V : Nat → Nat} (h : EW r T e V) (hr : 0 < r) (hb : T + 1 ≤ e (r + 9) + 261) (hv : v < 2 ^ 31) : EW r (T + 1) (eup e (r + 10) (T + 1)) (fun j => if j = T then v else V j) := by
  obtain ⟨h1, h2, h3, h4, h5⟩ := h
  refine ⟨fun x y g1 g2 => ?_, fun x g => ?_, ?_, fun x g => ?_, fun j => ?_⟩
  · unfold eup
    by_cases hy : y = r + 10
    · rw [if_pos hy]
      by_cases hx : x = r + 10
      · rw [if_pos hx]; omega
      · rw [if_neg hx]; have := h1 x (r + 10) (by omega) (by omega); omega
    · rw [if_neg hy, if_neg (by omega)]; exact h1 x y g1 (by omega)
  · unfold eup; rw [if_neg (by omega)]; exact h2 x g
  · unfold eup; rw [if_pos rfl]
  · unfold eup
    by_cases hx : x = r + 9
    · rw [if_pos (by omega), if_neg (by omega), hx]; exact hb
    · rw [if_neg (by omega), if_neg (by omega)]; exact h4 x g
  · show (if j = T then v else V j) < 2 ^ 31
    by_cases hj : j = T
    · rw [if_pos hj]; exact hv
    · rw [if_neg hj]; exact h5 j
theorem EW.ten {r T : Nat} {e V : Nat → Nat} (h : EW r T e V) : ∀ n, n ≤ 10 → e (r + n) ≤ e r + n * 261 := by
  intro n
  induction n with
  | zero => intro _; simp
  | succ n ih => intro hn; have h6 := ih (by omega); have h7 := h.2.2.2.1 (r + n) (by omega); rw [← Nat.add_assoc, Nat.succ_mul]; exact Nat.le_trans h7 (by rw [← Nat.add_assoc]; exact Nat.add_le_add_right h6 261)
theorem c_ring {N f k : Nat} {a : jSS} {post : Int32 → jSS → Prop} (h3 : a.1 2 3 = nI (f % 2610)) (hk : k ≤ 2610) (h : post (nI ((f + k) % 2610)) a) : wX4_ringPlace N a (nI k) post := by
  unfold wX4_ringPlace
  intro x2 e2
  rw [h3, nI_add] at e2
  subst e2
  refine pk_lt (f % 2610 + k) 2610 (fun g => ?_) (fun g => ?_)
  · rw [show (f + k) % 2610 = f % 2610 + k by omega] at h; exact h
  · rw [show (2610 : Int32) = nI 2610 from rfl, pk_sub g]
    by_cases hh : f % 2610 + k = 5220
    · exfalso; omega
    · rw [show (f + k) % 2610 = f % 2610 + k - 2610 by omega] at h; exact h
theorem z0 : (0 : Int32).toNatClampNeg = 0 := by decide
theorem z9 : (9 : Int32).toNatClampNeg = 9 := by decide
/-- the rounds' rows moved on, from place g down -/
theorem c_beg {N : Nat} : ∀ (n g : Nat) (a : jSS), g ≤ 9 → g + 1 ≤ n → ∃ a' : jSS, (∀ k q, k ≠ 5 → k ≠ 6 → a'.1 k q = a.1 k q) ∧ a'.2 = a.2 ∧ (∀ k, (k = 5 ∨ k = 6) → ∀ q, a'.1 k q = if q = 0 then 0 else if q ≤ g then a.1 k (q - 1) else a.1 k q) ∧ ∀ post, post a' → wX4_beginRound_30 N n a (nI g) post := by
  intro n
  induction n with
  | zero => intro g a h1 h2; omega
  | succ n ih =>
    intro g a h1 h2
    by_cases hg : g = 0
    · subst hg
      refine ⟨aP (aP a 5 0 0) 6 0 0, ?_, rfl, ?_, fun post hp => ?_⟩
      · intro k q g1 g2; simp only [aP_rd]; grind
      · intro k hk q; simp only [aP_rd]; grind
      · unfold wX4_beginRound_30
        rw [z0]
        refine pk_le 0 0 (fun _ a1 e1 a2 e2 => ?_) (fun h => by omega)
        subst e2 e1
        exact hp
    · obtain ⟨g', rfl⟩ : ∃ g', g = g' + 1 := ⟨g - 1, by omega⟩
      obtain ⟨a', f1, f2, f3, f4⟩ := ih g' (aP (aP a 5 (g' + 1) (a.1 5 g')) 6 (g' + 1) (a.1 6 g')) (by omega) (by omega)
      refine ⟨a', fun k q q1 q2 => ?_, ?_, fun k hk q => ?_, fun post hp => ?_⟩
      · rw [f1 k q q1 q2]; simp only [aP_rd]; grind
      · rw [f2]; rfl
      · rw [f3 k hk q]; simp only [aP_rd]; grind
      · unfold wX4_beginRound_30
        have e1 : nI (g' + 1) - 1 = nI g' := by rw [show (1 : Int32) = nI 1 from rfl, pk_sub (by omega), Nat.add_sub_cancel]
        refine pk_le (g' + 1) 0 (fun h => by omega) (fun _ => ?_)
        rw [e1, cl (show g' < 2 ^ 31 by omega), cl (show g' + 1 < 2 ^ 31 by omega)]
        refine ⟨vp_in_nI (by omega) (by omega), fun v ev => ⟨vp_in_nI (by omega) (by omega), fun s1 es => ⟨vp_in_nI (by omega) (by omega), fun v2 ev2 => ⟨vp_in_nI (by omega) (by omega), fun s2 es2 x3 ex3 => ?_⟩⟩⟩⟩
        rw [pk_m1] at ex3
        subst ev es ev2 es2 ex3
        have := f4 post hp
        simpa [aP_rd] using this
theorem c_begin {N r T : Nat} {e V : Nat → Nat} {a : jSS} (hN : 11 ≤ N) (hT : T < 2 ^ 30) (hE : EW r T e V) (hS : SC r T e V a) : ∃ a', SC (r + 1) T (eup e (r + 11) T) V a' ∧ AS a a' ∧ ∀ post, post a' → wX4_beginRound N a post := by
  obtain ⟨h1, h2, h3, h4, h5⟩ := id hE
  obtain ⟨s1, s2, s3, s4⟩ := hS
  have hm : e r ≤ e (r + 1) := h1 _ _ (by omega) (by omega)
  have hm2 : e (r + 1) ≤ T := by rw [← h3]; exact h1 _ _ (by omega) (by omega)
  have hm3 : e (r + 1) ≤ e r + 261 := h4 r (by omega)
  have hp := (s3 (r + 1) (by omega) (by omega)).1
  rw [show r + 10 - (r + 1) = 9 by omega, show r + 1 - 1 = r by omega] at hp
  obtain ⟨a1, f1, f2, f3, f4⟩ := c_beg (N := N) N 9 (aP (aP a 2 3 (nI (e (r + 1) % 2610))) 2 4 (nI (T - e (r + 1)))) (by omega) (by omega)
  refine ⟨a1, ⟨?_, ?_, fun x g1 g2 => ?_, fun j g1 g2 => ?_⟩, ⟨?_, f2⟩, fun post hpost => ?_⟩
  · rw [f1 2 3 (by omega) (by omega)]; simp only [aP_rd]; unfold eup; rw [if_neg (show ¬ r + 1 = r + 11 by omega)]; grind
  · rw [f1 2 4 (by omega) (by omega)]; simp only [aP_rd]; unfold eup; rw [if_neg (show ¬ r + 1 = r + 11 by omega)]; grind
  · unfold eup
    by_cases hx : x = r + 11
    · rw [if_pos hx, if_neg (show ¬ x - 1 = r + 11 by omega), show r + 1 + 10 - x = 0 by omega, show x - 1 = r + 10 by omega, h3]
      refine ⟨?_, 0, ?_, ?_⟩
      · rw [f3 5 (by omega) 0, if_pos rfl, show T - T = 0 by omega, nI_0]
      · rw [f3 6 (by omega) 0, if_pos rfl, nI_0]
      · exact ⟨fun j q1 q2 => by omega, .inl rfl⟩
    · rw [if_neg hx, if_neg (show ¬ x - 1 = r + 11 by omega)]
      obtain ⟨q1, M, q2, q3⟩ := s3 x (by omega) (by omega)
      have w5 := f3 5 (by omega) (r + 1 + 10 - x)
      have w6 := f3 6 (by omega) (r + 1 + 10 - x)
      rw [if_neg (show ¬ r + 1 + 10 - x = 0 by omega), if_pos (show r + 1 + 10 - x ≤ 9 by omega), show r + 1 + 10 - x - 1 = r + 10 - x by omega] at w5 w6
      simp only [aP_rd] at w5 w6
      refine ⟨?_, M, ?_, q3⟩
      · grind
      · grind
  · have := s4 j (by unfold eup at g1; rw [if_neg (by omega)] at g1; omega) g2
    rw [f1 4 _ (by omega) (by omega)]; simp only [aP_rd]; grind
  · intro k j g1 g2 g3 g4; rw [f1 k j g3 g4]; simp only [aP_rd]; grind
  · unfold wX4_beginRound
    intro x1 ex1
    rw [z9, hp] at ex1
    subst ex1
    refine c_ring s1 (by omega) (fun a2 e2 v ev a3 e3 => ?_)
    rw [show e r + (e (r + 1) - e r) = e (r + 1) by omega] at e2
    subst e2
    have ev' : v = nI (T - e (r + 1)) := by
      rw [ev]
      simp only [aP_rd]
      rw [if_neg (by omega), s2, pk_sub (by omega)]
      congr 1
      omega
    subst ev' e3
    exact f4 post hpost
theorem c_keep {N r T v : Nat} {e V : Nat → Nat} {a : jSS} (hT : T < 2 ^ 30) (hv : v < 2 ^ 31) (hE : EW r T e V) (hb : T < e r + 2610) (hS : SC r T e V a) : ∃ a', SC r (T + 1) (eup e (r + 10) (T + 1)) (fun j => if j = T then v else V j) a' ∧ AS a a' ∧ ∀ post, post a' → wX4_keep N a (nI v) post := by
  obtain ⟨h1, h2, h3, h4, h5⟩ := id hE
  obtain ⟨s1, s2, s3, s4⟩ := hS
  have hm2 : e r ≤ T := by rw [← h3]; exact h1 _ _ (by omega) (by omega)
  have hm3 : e (r + 9) ≤ T := by rw [← h3]; exact h1 _ _ (by omega) (by omega)
  obtain ⟨p1, M, p2, p3⟩ := s3 (r + 10) (by omega) (by omega)
  have z1 : r + 10 - 1 = r + 9 := by omega
  have z2 : r + 10 - (r + 10) = 0 := by omega
  rw [h3, z1] at p3
  rw [z2, h3, z1] at p1
  rw [z2] at p2
  have hM := p3.lt h5
  refine ⟨aP (aP (aP (aP a 4 (T % 2610) (nI v)) 2 4 (nI (T - e r + 1))) 5 0 (nI (T - e (r + 9) + 1))) 6 0 (nI (max M v)), ⟨?_, ?_, fun x g1 g2 => ?_, fun j g1 g2 => ?_⟩, ⟨?_, rfl⟩, fun post hpost => ?_⟩
  · simp only [aP_rd]; unfold eup; rw [if_neg (show ¬ r = r + 10 by omega)]; grind
  · simp only [aP_rd]; unfold eup; rw [if_neg (show ¬ r = r + 10 by omega), show T + 1 - e r = T - e r + 1 by omega]; grind
  · unfold eup
    by_cases hx : x = r + 10
    · rw [if_pos hx, if_neg (show ¬ x - 1 = r + 10 by omega), show r + 10 - x = 0 by omega, show x - 1 = r + 9 by omega]
      refine ⟨?_, max M v, ?_, p3.app hm3⟩
      · simp only [aP_rd]; rw [show T + 1 - e (r + 9) = T - e (r + 9) + 1 by omega]; grind
      · simp only [aP_rd]; grind
    · rw [if_neg hx, if_neg (show ¬ x - 1 = r + 10 by omega)]
      have hne : r + 10 - x ≠ 0 := by omega
      obtain ⟨q1, M2, q2, q3⟩ := s3 x (by omega) (by omega)
      have hxT : e x ≤ T := by rw [← h3]; exact h1 _ _ (by omega) (by omega)
      refine ⟨?_, M2, ?_, q3.cg (fun j w1 w2 => by rw [if_neg (by omega)])⟩
      · simp only [aP_rd]; grind
      · simp only [aP_rd]; grind
  · have hl : e r ≤ j := by unfold eup at g1; rw [if_neg (by omega)] at g1; exact g1
    by_cases hj : j = T
    · subst hj; simp only [aP_rd]; grind
    · have hq := s4 j hl (by omega)
      have hne : j % 2610 ≠ T % 2610 := by omega
      simp only [aP_rd]; rw [if_neg hj]; grind
  · intro k j g1 g2 g3 g4; simp only [aP_rd]; grind
  · unfold wX4_keep
    rw [s2]
    refine c_ring s1 (by omega) ?_
    rw [show e r + (T - e r) = T by omega, s2]
    refine pk_le 2610 (T - e r) (fun g => by omega) (fun g => ?_)
    refine ⟨fun hh => absurd hh (nI_pos (by omega)), fun _ => ?_⟩
    refine pk_lt (T % 2610) 2610 (fun g => ?_) (fun g => by omega)
    rw [cl (show T % 2610 < 2 ^ 31 by omega), z0]
    refine ⟨vp_in_nI g (by omega), fun a1 e1 v1 ev1 a2 e2 v2 ev2 a3 e3 m em a4 e4 => ?_⟩
    have ev1' : v1 = nI (T - e r + 1) := by
      rw [ev1, e1]; simp only [aP_rd]; rw [if_neg (by omega), s2, nI_1]
    subst ev1'
    have ev2' : v2 = nI (T - e (r + 9) + 1) := by
      rw [ev2, e2, e1]; simp only [aP_rd]; rw [if_neg (by omega), if_neg (by omega), p1, nI_1]
    subst ev2'
    have em' : m = nI (max M v) := by
      rw [em, e3, e2, e1]
      have : (aP (aP (aP a 4 (T % 2610) (nI v)) 2 4 (nI (T - e r + 1))) 5 0 (nI (T - e (r + 9) + 1))).1 6 0 = nI M := by
        simp only [aP_rd]; grind
      rw [this, jmax_n hM hv]
    subst em' e4 e3 e2 e1
    exact hpost
theorem blk {e : Nat → Nat} {r j : Nat} (hl : e r ≤ j) : ∀ n, j < e (r + n) → ∃ x, r < x ∧ x ≤ r + n ∧ e (x - 1) ≤ j ∧ j < e x := by
  intro n
  induction n with
  | zero => intro h; exact absurd h (by simp; omega)
  | succ n ih =>
    intro h
    by_cases hj : j < e (r + n)
    · obtain ⟨x, g1, g2, g3, g4⟩ := ih hj
      exact ⟨x, g1, by omega, g3, g4⟩
    · exact ⟨r + (n + 1), by omega, by omega, by rw [show r + (n + 1) - 1 = r + n by omega]; omega, h⟩

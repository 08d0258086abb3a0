/-! samples, the reference's ring; W j = the round of sample j -/
def SQ (i lo T : Nat) (V W : Nat → Nat) (σ : jRS) : Prop := σ.1 35 i = nI (lo % 8192) ∧ σ.1 36 i = nI (T - lo) ∧ ∀ j, lo ≤ j → j < T → σ.1 37 (8192 * i + j % 8192) = nI (W j) ∧ σ.1 38 (8192 * i + j % 8192) = nI (V j)
def vup (V : Nat → Nat) (T v : Nat) : Nat → Nat := fun j => if j = T then v else V j
theorem n8192 (i lo k : Nat) (hk : k < 8192) : (8192 : Int32) * nI i + ((nI (lo % 8192) + nI k) - (nI (lo % 8192) + nI k) / 8192 * 8192) = nI (8192 * i + (lo + k) % 8192) := by
  rw [nI_add, show (8192 : Int32) = nI 8192 from rfl, pk_rem (by omega) (by omega) (by omega), pk_mul, nI_add]
  congr 2
  omega
theorem n_m9 {v : Nat} (h : v < 2 ^ 31) : ¬ nI v ≤ -9 := by
  intro g
  have g2 := Int32.le_iff_toInt_le.1 g
  rw [nI_toInt h] at g2
  simp at g2
  omega
theorem n_ne9 {v : Nat} (h : v < 2 ^ 31) : ¬ nI v = -9 := fun g => n_m9 h (by rw [g]; exact Int32.le_refl _)
theorem n_ne1 {v : Nat} (h : v < 2 ^ 31) : ¬ nI v = -1 := by
  intro g
  have g2 := congrArg Int32.toInt g
  rw [nI_toInt h] at g2
  simp at g2
theorem sub10 {a b : Nat} (ha : a < 2 ^ 30) (hb : b < 2 ^ 30) : nI a - 10 < nI b ↔ a < b + 10 := by
  rw [Int32.lt_iff_toInt_lt, show (10 : Int32) = nI 10 from rfl, pk_sub_toInt ha (by omega), nI_toInt (by omega)]
  omega
theorem q_keep {N i lo T ρ v M : Nat} {V W : Nat → Nat} {σ : jRS} (hi : i < 2) (hT : T < 2 ^ 30) (hl : lo ≤ T) (hn : T < lo + 8000) (hv : v < 2 ^ 31) (hM : M < 2 ^ 31) (hS : SQ i lo T V W σ) (h28 : σ.1 28 i = nI ρ) (h30 : σ.1 30 i = nI M) : ∃ σ', SQ i lo (T + 1) (vup V T v) (vup W T ρ) σ' ∧ FR i σ σ' ∧ (∀ k j, k ≠ 37 → k ≠ 38 → ¬ (k = 36 ∧ j = i) → ¬ (k = 30 ∧ j = i) → σ'.1 k j = σ.1 k j) ∧ σ'.2 = σ.2 ∧ σ'.1 30 i = nI (max M v) ∧ ∀ post, post σ' → wX7_keepsSample N σ (nI i) (nI v) post := by
  obtain ⟨s1, s2, s3⟩ := hS
  have hp : 8192 * i + T % 8192 < 16384 := by omega
  refine ⟨rP (rP (rP (rP σ 37 (8192 * i + T % 8192) (nI ρ)) 38 (8192 * i + T % 8192) (nI v)) 36 i (nI (T - lo + 1))) 30 i (nI (max M v)), ⟨?_, ?_, fun j g1 g2 => ?_⟩, (((FR.put (by unfold own; grind)).tr (FR.put (by unfold own; grind))).tr (FR.put (by unfold own; grind))).tr (FR.put (by unfold own; grind)), ?_, rfl, ?_, fun post hp2 => ?_⟩
  · simp only [rP_rd]; grind
  · simp only [rP_rd]; rw [show T + 1 - lo = T - lo + 1 by omega]; grind
  · by_cases hj : j = T
    · subst hj
      unfold vup
      simp only [rP_rd]; grind
    · have := s3 j g1 (by omega)
      have hne : 8192 * i + j % 8192 ≠ 8192 * i + T % 8192 := by omega
      unfold vup
      simp only [rP_rd]; grind
  · intro k j g1 g2 g3 g4; simp only [rP_rd]; grind
  · simp only [rP_rd]; grind
  · simp only [wX7_keepsSample, wX7_keepsSample_78, ci hi]
    refine ⟨vi hi, vi hi, fun x3 e3 => ⟨vi hi, fun v1 ev1 => ?_⟩⟩
    rw [s1, s2, n8192 i lo (T - lo) (by omega), show lo + (T - lo) = T by omega] at e3
    subst e3
    rw [cl (show 8192 * i + T % 8192 < 2 ^ 31 by omega)]
    have hin := vp_in_nI hp (by omega)
    refine ⟨hin, fun σ1 e1 => ⟨hin, fun σ2 e2 => ⟨vi hi, fun v2 ev2 => ⟨vi hi, fun σ3 e4 => ⟨vi hi, ?_⟩⟩⟩⟩⟩
    rw [h28] at ev1
    have ev2' : v2 = nI (T - lo + 1) := by
      rw [ev2, e2, e1]; simp only [rP_rd]; rw [if_neg (by omega), if_neg (by omega), s2, nI_1]
    subst ev2' ev1
    have h30' : σ3.1 30 i = nI M := by rw [e4, e2, e1]; simp only [rP_rd]; grind
    rw [h30']
    refine pk_le v M (fun g => ⟨vi hi, vi hi, fun σ4 e5 => ?_⟩) (fun g => ⟨vi hi, fun σ4 e5 => ?_⟩)
    · rw [Nat.max_eq_left g] at hp2
      subst e5 e4 e2 e1
      exact hp2
    · rw [Nat.max_eq_right (by omega)] at hp2
      subst e5 e4 e2 e1
      exact hp2
/-- what the search for the greatest has found among samples lo to hi -/
def GF (V W : Nat → Nat) (f : Int32) (lo hi : Nat) (x : Int32) : Prop := (x = -9 ∧ ∀ j, lo ≤ j → j < hi → nI (W j) < f) ∨ ∃ Z, x = nI Z ∧ Z < 2 ^ 31 ∧ (∀ j, lo ≤ j → j < hi → ¬ nI (W j) < f → V j ≤ Z) ∧ ∃ j, lo ≤ j ∧ j < hi ∧ ¬ nI (W j) < f ∧ V j = Z
theorem q_gf {N i lo T : Nat} {V W : Nat → Nat} {σ : jRS} {f : Int32} (hi : i < 2) (hT : T < 2 ^ 30) (hl : lo ≤ T) (hn : T ≤ lo + 8000) (hN : 8002 ≤ N) (hV : ∀ j, V j < 2 ^ 31) (hS : SQ i lo T V W σ) : ∃ x, GF V W f lo T x ∧ ∀ post : Int32 → jRS → Prop, post x σ → wX7_greatestFrom N σ (nI i) f post := by
  obtain ⟨s1, s2, s3⟩ := hS
  have key : ∀ n k : Nat, ∀ y : Int32, k ≤ T - lo → T - lo + 1 ≤ k + n → GF V W f lo (lo + k) y → ∃ x, GF V W f lo T x ∧ ∀ post : Int32 → jRS → Prop, post x σ → wX7_greatestFrom_6 N n σ (nI i) f y (nI k) post := by
    intro n
    induction n with
    | zero => intro k y g1 g2; omega
    | succ n ih =>
      intro k y g1 g2 g3
      by_cases hk : k = T - lo
      · refine ⟨y, by rw [show T = lo + k by omega]; exact g3, fun post hp => ?_⟩
        simp only [wX7_greatestFrom_6, ci hi, s2]
        exact ⟨vi hi, pk_le (T - lo) k (fun _ => hp) (fun g => by omega)⟩
      · obtain ⟨d1, d2⟩ := s3 (lo + k) (by omega) (by omega)
        have hb : 8192 * i + (lo + k) % 8192 < 16384 := by omega
        have hin := vp_in_nI hb (by omega)
        by_cases hc : nI (W (lo + k)) < f
        · have hg : GF V W f lo (lo + (k + 1)) y := by
            rcases g3 with ⟨q1, q2⟩ | ⟨Z, q1, q2, q3, j, q4, q5, q6, q7⟩
            · left; exact ⟨q1, fun j w1 w2 => by
                by_cases hj : j = lo + k
                · rw [hj]; exact hc
                · exact q2 j w1 (by omega)⟩
            · right; exact ⟨Z, q1, q2, fun j w1 w2 w3 => by
                by_cases hj : j = lo + k
                · rw [hj] at w3; exact absurd hc w3
                · exact q3 j w1 (by omega) w3, j, q4, by omega, q6, q7⟩
          obtain ⟨x, z1, z2⟩ := ih (k + 1) y (by omega) (by omega) hg
          refine ⟨x, z1, fun post hp => ?_⟩
          simp only [wX7_greatestFrom_6, wX7_greatestFrom_70, wX7_greatestFrom_71, ci hi, s1, s2]
          refine ⟨vi hi, pk_le (T - lo) k (fun g => by omega) (fun _ => ⟨vi hi, fun x5 e5 => ?_⟩)⟩
          rw [n8192 i lo k (by omega)] at e5
          subst e5
          rw [cl (show 8192 * i + (lo + k) % 8192 < 2 ^ 31 by omega), d1]
          refine ⟨hin, fun _ x4 e4 => ?_, fun hh => absurd hc hh⟩
          rw [nI_1] at e4
          subst e4
          exact z2 post hp
        · by_cases hle : nI (V (lo + k)) ≤ y
          · have hg : GF V W f lo (lo + (k + 1)) y := by
              rcases g3 with ⟨q1, q2⟩ | ⟨Z, q1, q2, q3, j, q4, q5, q6, q7⟩
              · rw [q1] at hle; exact absurd hle (n_m9 (hV _))
              · right; exact ⟨Z, q1, q2, fun j w1 w2 w3 => by
                  by_cases hj : j = lo + k
                  · rw [hj]; rw [q1] at hle; exact (nle (hV _) q2).1 hle
                  · exact q3 j w1 (by omega) w3, j, q4, by omega, q6, q7⟩
            obtain ⟨x, z1, z2⟩ := ih (k + 1) y (by omega) (by omega) hg
            refine ⟨x, z1, fun post hp => ?_⟩
            simp only [wX7_greatestFrom_6, wX7_greatestFrom_70, wX7_greatestFrom_71, ci hi, s1, s2]
            refine ⟨vi hi, pk_le (T - lo) k (fun g => by omega) (fun _ => ⟨vi hi, fun x5 e5 => ?_⟩)⟩
            rw [n8192 i lo k (by omega)] at e5
            subst e5
            rw [cl (show 8192 * i + (lo + k) % 8192 < 2 ^ 31 by omega), d1, d2]
            refine ⟨hin, fun hh => absurd hh hc, fun _ => ⟨hin, fun _ x4 e4 => ?_, fun hh => absurd hle hh⟩⟩
            rw [nI_1] at e4
            subst e4
            exact z2 post hp
          · have hg : GF V W f lo (lo + (k + 1)) (nI (V (lo + k))) := by
              right
              refine ⟨V (lo + k), rfl, hV _, fun j w1 w2 w3 => ?_, lo + k, by omega, by omega, hc, rfl⟩
              by_cases hj : j = lo + k
              · rw [hj]; exact Nat.le_refl _
              · rcases g3 with ⟨q1, q2⟩ | ⟨Z, q1, q2, q3, j2, q4, q5, q6, q7⟩
                · exact absurd (q2 j w1 (by omega)) w3
                · have e1 := q3 j w1 (by omega) w3
                  rw [q1] at hle
                  have e2 : ¬ V (lo + k) ≤ Z := fun e => hle ((nle (hV _) q2).2 e)
                  omega
            obtain ⟨x, z1, z2⟩ := ih (k + 1) _ (by omega) (by omega) hg
            refine ⟨x, z1, fun post hp => ?_⟩
            simp only [wX7_greatestFrom_6, wX7_greatestFrom_70, wX7_greatestFrom_71, ci hi, s1, s2]
            refine ⟨vi hi, pk_le (T - lo) k (fun g => by omega) (fun _ => ⟨vi hi, fun x5 e5 => ?_⟩)⟩
            rw [n8192 i lo k (by omega)] at e5
            subst e5
            rw [cl (show 8192 * i + (lo + k) % 8192 < 2 ^ 31 by omega), d1, d2]
            refine ⟨hin, fun hh => absurd hh hc, fun _ => ⟨hin, fun hh => absurd hh hle, fun _ => ⟨hin, fun x4 e4 => ?_⟩⟩⟩
            rw [nI_1] at e4
            subst e4
            exact z2 post hp
  obtain ⟨x, z1, z2⟩ := key N 0 (-9) (by omega) (by omega) (.inl ⟨rfl, fun j q1 q2 => by omega⟩)
  exact ⟨x, z1, fun post hp => z2 post hp⟩
/-- letting the too old go -/
theorem q_letsGo {N i lo lo' T ρ : Nat} {V W : Nat → Nat} {σ : jRS} {M : Nat} (hi : i < 2) (hρ : ρ < 2 ^ 30) (hT : T < 2 ^ 30) (hl : lo ≤ lo') (hl' : lo' ≤ T) (hn : T ≤ lo + 8000) (hN : 8002 ≤ N) (hV : ∀ j, V j < 2 ^ 31) (hW : ∀ j, j < T → W j < 2 ^ 30) (h1 : ∀ j, lo ≤ j → j < lo' → W j + 10 ≤ ρ) (h2 : ∀ j, lo' ≤ j → j < T → ρ < W j + 10) (hS : SQ i lo T V W σ) (h28 : σ.1 28 i = nI ρ) (h30 : σ.1 30 i = nI M) (hM : MX V lo T M) : ∃ σ' M', SQ i lo' T V W σ' ∧ FR i σ σ' ∧ (∀ k j, ¬ (k = 35 ∧ j = i) → ¬ (k = 36 ∧ j = i) → ¬ (k = 30 ∧ j = i) → σ'.1 k j = σ.1 k j) ∧ σ'.2 = σ.2 ∧ σ'.1 30 i = nI M' ∧ MX V lo' T M' ∧ ∀ post, post σ' → wX7_letsGo N σ (nI i) post := by
  have key : ∀ n lo : Nat, ∀ fl : Int32, ∀ σ : jRS, lo ≤ lo' → lo' - lo < n → T ≤ lo + 8000 → (∀ j, lo ≤ j → j < lo' → W j + 10 ≤ ρ) → SQ i lo T V W σ → σ.1 28 i = nI ρ → (fl = 0 → ∃ M, σ.1 30 i = nI M ∧ MX V lo T M) → ∃ σ' M', SQ i lo' T V W σ' ∧ FR i σ σ' ∧ (∀ k j, ¬ (k = 35 ∧ j = i) → ¬ (k = 36 ∧ j = i) → ¬ (k = 30 ∧ j = i) → σ'.1 k j = σ.1 k j) ∧ σ'.2 = σ.2 ∧ σ'.1 30 i = nI M' ∧ MX V lo' T M' ∧ ∀ post, post σ' → wX7_letsGo_2 N n σ (nI i) fl post := by
    intro n
    induction n with
    | zero => intro lo fl σ g1 g2; omega
    | succ n ih =>
      intro lo fl σ g1 g2 gn g3 g4 g5 g6
      obtain ⟨s1, s2, s3⟩ := id g4
      have hin : vp_in (8192 * nI i + nI (lo % 8192)) 16384 := by
        rw [show (8192 : Int32) = nI 8192 from rfl, pk_mul, nI_add]; exact vp_in_nI (by omega) (by omega)
      have hcl : (8192 * nI i + nI (lo % 8192)).toNatClampNeg = 8192 * i + lo % 8192 := by
        rw [show (8192 : Int32) = nI 8192 from rfl, pk_mul, nI_add]; exact cl (by omega)
      by_cases he : lo = lo'
      · -- done
        subst he
        have hfin : ∃ σ' M', SQ i lo T V W σ' ∧ FR i σ σ' ∧ (∀ k j, ¬ (k = 35 ∧ j = i) → ¬ (k = 36 ∧ j = i) → ¬ (k = 30 ∧ j = i) → σ'.1 k j = σ.1 k j) ∧ σ'.2 = σ.2 ∧ σ'.1 30 i = nI M' ∧ MX V lo T M' ∧ ∀ post, post σ' → wX7_letsGo_107 N σ (nI i) fl post := by
          by_cases hf : fl = 0
          · obtain ⟨M0, w1, w2⟩ := g6 hf
            refine ⟨σ, M0, g4, FR.rf, fun _ _ _ _ _ => rfl, rfl, w1, w2, fun post hp => ?_⟩
            unfold wX7_letsGo_107
            exact ⟨fun _ => hp, fun hh => absurd hf hh⟩
          · obtain ⟨x, w1, w2⟩ := q_gf (N := N) (f := 0) hi hT hl' gn hN hV g4
            have hlow : ∀ j, ¬ nI (W j) < 0 ∨ T ≤ j := fun j => by
              by_cases hj : j < T
              · left; exact nI_pos (by have := hW j hj; omega)
              · right; omega
            rcases w1 with ⟨q1, q2⟩ | ⟨Z, q1, q2, q3, j, q4, q5, q6, q7⟩
            · have hemp : lo = T := by
                by_cases hlt : lo < T
                · have := q2 lo (by omega) hlt
                  rcases hlow lo with h | h
                  · exact absurd this h
                  · omega
                · omega
              refine ⟨rP σ 30 i 0, 0, ⟨?_, ?_, fun j a1 a2 => by omega⟩, FR.put (by unfold own; grind), ?_, rfl, ?_, ⟨fun j a1 a2 => by omega, .inl rfl⟩, fun post hp => ?_⟩
              · simp only [rP_rd]; grind
              · simp only [rP_rd]; grind
              · intro k j a1 a2 a3; simp only [rP_rd]; grind
              · simp only [rP_rd]; rw [nI_0]; grind
              · simp only [wX7_letsGo_107, wX7_letsGo_134, ci hi]
                refine ⟨fun hh => absurd hh hf, fun _ => w2 _ ⟨fun hh => absurd q1 hh, fun _ => ⟨vi hi, fun s es => ?_⟩⟩⟩
                subst es; exact hp
            · refine ⟨rP σ 30 i (nI Z), Z, ⟨?_, ?_, fun j a1 a2 => ?_⟩, FR.put (by unfold own; grind), ?_, rfl, ?_, ⟨fun j a1 a2 => ?_, .inr ⟨j, q4, q5, q7⟩⟩, fun post hp => ?_⟩
              · simp only [rP_rd]; grind
              · simp only [rP_rd]; grind
              · have := s3 j a1 a2; simp only [rP_rd]; grind
              · intro k j a1 a2 a3; simp only [rP_rd]; grind
              · simp only [rP_rd]; grind
              · rcases hlow j with h | h
                · exact q3 j a1 a2 h
                · omega
              · simp only [wX7_letsGo_107, wX7_letsGo_134, ci hi]
                refine ⟨fun hh => absurd hh hf, fun _ => w2 _ ⟨fun _ => ⟨vi hi, fun s es => ?_⟩, fun hh => absurd (by rw [q1] at hh; exact hh) (n_ne9 q2)⟩⟩
                rw [q1] at es
                subst es; exact hp
        obtain ⟨σ', M', f1, f2, f3, f4, f5, f6, f7⟩ := hfin
        refine ⟨σ', M', f1, f2, f3, f4, f5, f6, fun post hp => ?_⟩
        simp only [wX7_letsGo_2, ci hi, s2, s1, g5, hcl]
        refine ⟨vi hi, pk_le (T - lo) 0 (fun _ => f7 post hp) (fun g => ⟨vi hi, hin, vi hi, ?_⟩)⟩
        obtain ⟨d1, d2⟩ := s3 lo (by omega) (by omega)
        rw [d1]
        exact ⟨fun _ => f7 post hp, fun hh => absurd ((sub10 hρ (hW _ (by omega))).2 (h2 lo (by omega) (by omega))) hh⟩
      · obtain ⟨d1, d2⟩ := s3 lo (by omega) (by omega)
        have hold := g3 lo (by omega) (by omega)
        -- the state without its first
        have hS1 : SQ i (lo + 1) T V W (rP (rP σ 35 i (nI ((lo + 1) % 8192))) 36 i (nI (T - (lo + 1)))) := by
          refine ⟨?_, ?_, fun j a1 a2 => ?_⟩
          · simp only [rP_rd]; grind
          · simp only [rP_rd]; grind
          · have := s3 j (by omega) a2; simp only [rP_rd]; grind
        have h28' : (rP (rP σ 35 i (nI ((lo + 1) % 8192))) 36 i (nI (T - (lo + 1)))).1 28 i = nI ρ := by simp only [rP_rd]; grind
        have hFR : FR i σ (rP (rP σ 35 i (nI ((lo + 1) % 8192))) 36 i (nI (T - (lo + 1)))) := (FR.put (by unfold own; grind)).tr (FR.put (by unfold own; grind))
        have hstep : ∀ fl' : Int32, (fl' = 0 → ∃ M, (rP (rP σ 35 i (nI ((lo + 1) % 8192))) 36 i (nI (T - (lo + 1)))).1 30 i = nI M ∧ MX V (lo + 1) T M) → ∃ σ' M', SQ i lo' T V W σ' ∧ FR i σ σ' ∧ (∀ k j, ¬ (k = 35 ∧ j = i) → ¬ (k = 36 ∧ j = i) → ¬ (k = 30 ∧ j = i) → σ'.1 k j = σ.1 k j) ∧ σ'.2 = σ.2 ∧ σ'.1 30 i = nI M' ∧ MX V lo' T M' ∧ ∀ post, post σ' → wX7_letsGo_75 N σ (nI i) fl' (fun z0 x1 x2 => wX7_letsGo_2 N n z0 x1 x2 post) post := by
          intro fl' hfl
          obtain ⟨σ', M', f1, f2, f3, f4, f5, f6, f7⟩ := ih (lo + 1) fl' _ (by omega) (by omega) (by omega) (fun j a1 a2 => g3 j (by omega) a2) hS1 h28' hfl
          refine ⟨σ', M', f1, hFR.tr f2, fun k j a1 a2 a3 => ?_, ?_, f5, f6, fun post hp => ?_⟩
          · rw [f3 k j a1 a2 a3]; simp only [rP_rd]; grind
          · rw [f4]; rfl
          · simp only [wX7_letsGo_75, ci hi]
            refine ⟨vi hi, fun v ev => ⟨vi hi, fun t1 et1 => ⟨vi hi, fun v2 ev2 => ⟨vi hi, fun t2 et2 => ?_⟩⟩⟩⟩
            have ev' : v = nI ((lo + 1) % 8192) := by
              rw [ev, s1, nI_1, show (8192 : Int32) = nI 8192 from rfl, pk_rem (by omega) (by omega) (by omega)]
              congr 1
              omega
            have ev2' : v2 = nI (T - (lo + 1)) := by
              rw [ev2, et1]; simp only [rP_rd]; rw [if_neg (by omega), s2, show (1 : Int32) = nI 1 from rfl, pk_sub (by omega)]
              congr 1
            subst ev' ev2' et2 et1
            exact f7 post hp
        have hhead : ∀ post, ((¬ fl = 0) → wX7_letsGo_70 N σ (nI i) (fun z0 x1 x2 => wX7_letsGo_2 N n z0 x1 x2 post) post) → (fl = 0 → (σ.1 38 (8192 * i + lo % 8192) < σ.1 30 i → wX7_letsGo_75 N σ (nI i) 0 (fun z0 x1 x2 => wX7_letsGo_2 N n z0 x1 x2 post) post) ∧ (¬ σ.1 38 (8192 * i + lo % 8192) < σ.1 30 i → wX7_letsGo_70 N σ (nI i) (fun z0 x1 x2 => wX7_letsGo_2 N n z0 x1 x2 post) post)) → wX7_letsGo_2 N (n + 1) σ (nI i) fl post := by
          intro post k1 k2
          simp only [wX7_letsGo_2, ci hi, s2, s1, g5, hcl, d1]
          refine ⟨vi hi, pk_le (T - lo) 0 (fun g => by omega) (fun _ => ⟨vi hi, hin, vi hi, fun hh => absurd ((sub10 hρ (hW _ (by omega))).1 hh) (by omega), fun _ => ⟨k1, fun hf => ⟨vi hi, hin, vi hi, k2 hf⟩⟩⟩)⟩
        by_cases hf : fl = 0
        · obtain ⟨M0, w1, w2⟩ := g6 hf
          have hM0 := w2.lt hV
          by_cases hlt : V lo < M0
          · obtain ⟨σ', M', f1, f2, f3, f4, f5, f6, f7⟩ := hstep 0 (fun _ => ⟨M0, by simp only [rP_rd]; grind, w2.drop hlt⟩)
            refine ⟨σ', M', f1, f2, f3, f4, f5, f6, fun post hp => hhead post (fun hh => absurd hf hh) (fun _ => ⟨fun _ => f7 post hp, fun hh => absurd ?_ hh⟩)⟩
            rw [d2, w1]; exact (nlt (hV _) hM0).2 hlt
          · obtain ⟨σ', M', f1, f2, f3, f4, f5, f6, f7⟩ := hstep 1 (fun hh => absurd hh (by decide))
            refine ⟨σ', M', f1, f2, f3, f4, f5, f6, fun post hp => hhead post (fun hh => absurd hf hh) (fun _ => ⟨fun hh => absurd ?_ hlt, fun _ => f7 post hp⟩)⟩
            rw [d2, w1] at hh; exact (nlt (hV _) hM0).1 hh
        · obtain ⟨σ', M', f1, f2, f3, f4, f5, f6, f7⟩ := hstep 1 (fun hh => absurd hh (by decide))
          exact ⟨σ', M', f1, f2, f3, f4, f5, f6, fun post hp => hhead post (fun _ => f7 post hp) (fun hh => absurd hh hf)⟩
  obtain ⟨σ', M', r1⟩ := key N lo 0 σ hl (by omega) hn h1 hS h28 (fun _ => ⟨M, h30, hM⟩)
  exact ⟨σ', M', r1⟩
/-- what the class has found behind place lo -/
def CG (V : Nat → Nat) (lo T : Nat) (x : Int32) : Prop := (x = -9 ∧ lo = T) ∨ ∃ Z, x = nI Z ∧ Z < 2 ^ 31 ∧ (∀ j, lo ≤ j → j < T → V j ≤ Z) ∧ ∃ j, lo ≤ j ∧ j < T ∧ V j = Z
theorem c_last {N r T q : Nat} {e V : Nat → Nat} {a : jSS} (hq : q ≤ 10) (hT : T < 2 ^ 30) (hE : EW r T e V) (hS : SC r T e V a) : ∀ n it : Nat, ∀ y : Int32, it ≤ q → q + 1 ≤ it + n → CG V (e (r + 10 - it)) T y → ∃ z, CG V (e (r + 10 - q)) T z ∧ ∀ P : Int32 → jSS → Prop, P z a → wX4_greatestOfLast_5 N n a (nI q) y (nI it) P := by
  intro n
  induction n with
  | zero => intro it y g1 g2; omega
  | succ n ih =>
    intro it y g1 g2 g3
    obtain ⟨h1, h2, h3, h4, h5⟩ := id hE
    by_cases hi : it = q
    · subst hi
      refine ⟨y, g3, fun P hP => ?_⟩
      unfold wX4_greatestOfLast_5
      exact pk_le it it (fun _ => hP) (fun g => by omega)
    · obtain ⟨c1, M, c2, c3⟩ := hS.2.2.1 (r + 10 - it) (by omega) (by omega)
      have hx1 : r + 10 - it - 1 = r + 10 - (it + 1) := by omega
      have hx2 : r + 10 - (r + 10 - it) = it := by omega
      rw [hx1] at c1 c3
      rw [hx2] at c1 c2
      have hM := c3.lt h5
      have m1 : e (r + 10 - (it + 1)) ≤ e (r + 10 - it) := h1 _ _ (by omega) (by omega)
      have m3 : e (r + 10 - it) ≤ T := by rw [← h3]; exact h1 _ _ (by omega) (by omega)
      have head : ∀ P : Int32 → jSS → Prop, ((e (r + 10 - it) - e (r + 10 - (it + 1)) = 0) → wX4_greatestOfLast_5 N n a (nI q) y (nI (it + 1)) P) → ((0 < e (r + 10 - it) - e (r + 10 - (it + 1))) → wX4_greatestOfLast_5 N n a (nI q) (jmax y (nI M)) (nI (it + 1)) P) → wX4_greatestOfLast_5 N (n + 1) a (nI q) y (nI it) P := by
        intro P w1 w2
        unfold wX4_greatestOfLast_5 wX4_greatestOfLast_36
        refine pk_le q it (fun g => by omega) (fun _ => pk_le 10 it (fun g => by omega) (fun _ => ?_))
        rw [cl (show it < 2 ^ 31 by omega), c1, c2]
        have hin : vp_in (nI it) 10 := vp_in_nI (by omega) (by omega)
        refine ⟨hin, pk_le (e (r + 10 - it) - e (r + 10 - (it + 1))) 0 (fun g x4 e4 => ?_) (fun g => ⟨hin, fun m em x4 e4 => ?_⟩)⟩
        · rw [nI_1] at e4; subst e4; exact w1 (by omega)
        · rw [nI_1] at e4; subst e4 em; exact w2 (by omega)
      by_cases hz : e (r + 10 - it) - e (r + 10 - (it + 1)) = 0
      · obtain ⟨z, z1, z2⟩ := ih (it + 1) y (by omega) (by omega) (by rw [show e (r + 10 - (it + 1)) = e (r + 10 - it) by omega]; exact g3)
        exact ⟨z, z1, fun P hP => head P (fun _ => z2 P hP) (fun g => by omega)⟩
      · have hnew : CG V (e (r + 10 - (it + 1))) T (jmax y (nI M)) := by
          right
          obtain ⟨j0, j1, j2, j3⟩ : ∃ j, e (r + 10 - (it + 1)) ≤ j ∧ j < e (r + 10 - it) ∧ V j = M := by
            rcases c3.2 with w | w
            · have := c3.1 (e (r + 10 - (it + 1))) (by omega) (by omega)
              exact ⟨e (r + 10 - (it + 1)), by omega, by omega, by omega⟩
            · exact w
          rcases g3 with ⟨w1, w2⟩ | ⟨Z, w1, w2, w3, j, w4, w5, w6⟩
          · refine ⟨M, ?_, hM, fun j v1 v2 => c3.1 j v1 (by omega), j0, j1, by omega, j3⟩
            rw [w1]
            unfold jmax
            rw [if_pos (Int32.not_le.1 (n_m9 hM))]
          · refine ⟨max Z M, by rw [w1, jmax_n w2 hM], by omega, fun j v1 v2 => ?_, ?_⟩
            · by_cases hj : j < e (r + 10 - it)
              · have := c3.1 j v1 hj; omega
              · have := w3 j (by omega) v2; omega
            · by_cases hZ : Z ≤ M
              · exact ⟨j0, j1, by omega, by omega⟩
              · exact ⟨j, by omega, w5, by omega⟩
        obtain ⟨z, z1, z2⟩ := ih (it + 1) _ (by omega) (by omega) hnew
        exact ⟨z, z1, fun P hP => head P (fun g => absurd g hz) (fun _ => z2 P hP)⟩
theorem c_gr {N r T : Nat} {e V : Nat → Nat} {a : jSS} (hN : 11 ≤ N) (hT : T < 2 ^ 30) (hE : EW r T e V) (hS : SC r T e V a) : ∃ M, MX V (e r) T M ∧ M < 2 ^ 31 ∧ ∀ post : Int32 → jSS → Prop, post (nI M) a → wX4_greatestOfAll N a post := by
  obtain ⟨z, z1, z2⟩ := c_last (N := N) (q := 10) (by omega) hT hE hS N 0 (-9) (by omega) (by omega) (.inl ⟨rfl, by rw [Nat.sub_zero]; exact hE.2.2.1⟩)
  rw [show r + 10 - 10 = r by omega] at z1
  rcases z1 with ⟨w1, w2⟩ | ⟨Z, w1, w2, w3, w4⟩
  · refine ⟨0, ⟨fun j g1 g2 => by omega, .inl rfl⟩, by omega, fun post hp => ?_⟩
    unfold wX4_greatestOfAll wX4_greatestOfLast
    refine z2 _ (fun m em => ?_)
    rw [w1, show jmax 0 (-9) = nI 0 from by decide] at em
    subst em
    exact hp
  · refine ⟨Z, ⟨w3, .inr w4⟩, w2, fun post hp => ?_⟩
    unfold wX4_greatestOfAll wX4_greatestOfLast
    refine z2 _ (fun m em => ?_)
    rw [w1, ← nI_0, jmax_n (by omega) w2, Nat.max_eq_right (by omega)] at em
    subst em
    exact hp

/-! taking all answers that are due -/
def LA (i t k m lf s : Nat) (σ : jRS) : Prop := σ.1 16 i = nI m ∧ m ≤ 261 ∧ lf ≤ m ∧ (∃ nu : Nat → Nat, (∀ j, j < m → σ.1 17 (512 * i + j) = nI (nu j) ∧ nu j < s) ∧ ∀ j j', j < j' → j' < m → nu j < nu j') ∧ (∀ j, j < lf → ∃ u : Nat, σ.1 22 (512 * i + j) = nI u ∧ t ≤ u ∧ (j < k → t < u) ∧ u + (lf - 1 - j) ≤ t + 199) ∧ (∀ j, lf ≤ j → j < m → σ.1 22 (512 * i + j) = -9) ∧ ∀ j, j < m → σ.1 21 (512 * i + j) = 0 ∨ σ.1 21 (512 * i + j) = 1
def LK (fo al : Nat) (L : Nat → Nat) (a : jSS) (b : jGS) : Prop := al ≤ 262 ∧ (∀ j, j < al → a.2.2 j = some (L j) ∧ L j ∈ gLP b ∧ gO b (L j) = some fo) ∧ (∀ j, al ≤ j → j < 262 → a.2.2 j = none) ∧ ∀ j j', j < al → j' < al → L j = L j' → j = j'
def LF (i m : Nat) (L : Nat → Nat) (b : jGS) (σ : jRS) : Prop := ∀ j, j < m → gF b (L j) 1 = σ.1 17 (512 * i + j) ∧ gF b (L j) 2 = σ.1 18 (512 * i + j) ∧ gF b (L j) 3 = σ.1 19 (512 * i + j) ∧ gF b (L j) 4 = σ.1 20 (512 * i + j) ∧ gF b (L j) 5 = σ.1 21 (512 * i + j) ∧ ((σ.1 22 (512 * i + j) = -9 ∧ gF b (L j) 6 = 0) ∨ (¬ σ.1 22 (512 * i + j) = -9 ∧ gF b (L j) 6 = 1 ∧ gF b (L j) 7 = σ.1 22 (512 * i + j)))
theorem KN.m {i m d : Nat} {a : jSS} {σ : jRS} (h : KN i m d a σ) : a.1 1 1 = σ.1 16 i ∧ a.1 0 7 = nI d ∧ σ.1 25 i = nI d := by
  obtain ⟨r, T, tn, mk, p, ca, M, e, V, W, dt, hB, hD, hc⟩ := h
  have h1 := hB.1.1
  have h2 := hB.2.2.2.2.2.2.2.2.2.2.2.2.2.2.2.1
  unfold SR at h1
  refine ⟨by grind, ?_, h2⟩
  rw [← h2]; grind
theorem p_one {N i fo t k m lf s d al : Nat} {L : Nat → Nat} {a : jSS} {b : jGS} {σ : jRS} (hi : i < 2) (hN : 8002 ≤ N) (ht : t < 2 ^ 30) (hd : 1000 * (d + 1) < 2 ^ 31) (hnow : σ.1 0 0 = nI t) (hA : LA i t k m lf s σ) (hK : KN i m d a σ) (hL : LK fo al L a b) (hm : m ≤ al) (hF : LF i m L b σ) (hk : k < lf) : ∃ a' σ' L', LA i t k (m - 1) (lf - 1) s σ' ∧ KN i (m - 1) (d + 1) a' σ' ∧ LK fo al L' a' b ∧ LF i (m - 1) L' b σ' ∧ FX i σ σ' ∧ σ'.1 0 15 = σ.1 0 15 + 1 ∧ (∀ j, σ'.1 23 j = σ.1 23 j ∧ σ'.1 24 j = σ.1 24 j) ∧ (∀ j, j ≤ 6 → a'.1 0 j = a.1 0 j) ∧ (∀ c, lf + c < m → L' (lf - 1 + c) = L (lf + c) ∧ σ'.1 17 (512 * i + (lf - 1 + c)) = σ.1 17 (512 * i + (lf + c))) ∧ (∀ P : jSS → jGS → Prop, P a' b → wX3_remove N a b (nI k) (fun a1 b1 => wX5_take N a1 b1 (L k) (nI t) P)) ∧ ∀ post, post σ' → wX7_takes N σ (nI i) (nI k) post := by
  obtain ⟨h16, hm2, hlf, ⟨nu, hn1, hn2⟩, hdu, hnl, hbo⟩ := hA
  have hm11 : a.1 1 1 = nI m := by rw [hK.m.1]; exact h16
  obtain ⟨L1, L2, L3, L4⟩ := hL
  obtain ⟨a1, A1, A2, A3, A4, A5⟩ := c_remove (N := N) (L := L) (b := b) (k := k) (by omega) hm11 hm2 (by omega) (fun j hj => ⟨(L2 j (by omega)).1, (L2 j (by omega)).2.1⟩)
  obtain ⟨σ1, ⟨B1, B2, B3, B4, B5⟩, B6⟩ := q_takesOff (N := N) (k := k) hi (by omega) h16 hm2 (by omega) hbo
  obtain ⟨r, T, tn, mk, p, ca, M, e, V, W, dt, hB, hD, hc⟩ := hK
  obtain ⟨k1, k2, k3, k4, k5, k6, k7, k8, k9, k10, k11, k12, k13, k14, k15, k16, lm, k17, k18⟩ := hB
  have hS1 : SR i a1 σ1 := by
    have := k1.1
    unfold SR at this ⊢
    rw [A3, B4]
    grind
  have hC1 : CS i tn a1 σ1 := k1.mv hS1 (fun kk j g => A2 kk j (by omega)) (fun kk j g => B3 kk j (by omega) (by omega)) (by rw [B3 34 i (by omega) (by omega)]; exact k1.2.1.2.2.2.1)
  have hB1 : KB i d r T tn mk ca M e V W a1 σ1 := ⟨hC1, k2, k3, k4.upd12 (fun kk j g1 g2 g3 g4 g5 => A2 kk j (by omega)), k5.upd (fun kk j g => B3 kk j (by omega) (by omega)), k6, by rw [B3 30 i (by omega) (by omega)]; exact k7, k8, by rw [B3 28 i (by omega) (by omega)]; exact k9, k10, k11, by rw [B3 29 i (by omega) (by omega)]; exact k12, k13, k14, k15, by rw [B3 25 i (by omega) (by omega)]; exact k16, lm, k17, by rw [B3 27 i (by omega) (by omega)]; exact k18⟩
  have hdk := hD.2.1 k (by omega)
  have hD1 : DT i (m - 1) d mk (if k < p then p - 1 else p) (fun j => if j < k then dt j else dt (j + 1)) σ1 := by
    refine ⟨?_, fun j hj => ?_, fun j j' g1 g2 => ?_⟩
    · have := hD.1
      by_cases hp : k < p
      · rw [if_pos hp]; omega
      · rw [if_neg hp]; omega
    · rw [B2 19 j (by omega) (by omega) (by omega)]
      by_cases hj2 : j < k
      · have := hD.2.1 j (by omega)
        dsimp only
        rw [if_neg (by omega), if_pos hj2]
        refine ⟨this.1, this.2.1, ?_⟩
        rw [this.2.2]
        by_cases hp : k < p
        · rw [if_pos hp]; omega
        · rw [if_neg hp]
      · have := hD.2.1 (j + 1) (by omega)
        dsimp only
        rw [if_pos (by omega), if_neg hj2]
        refine ⟨this.1, this.2.1, ?_⟩
        rw [this.2.2]
        by_cases hp : k < p
        · rw [if_pos hp]; omega
        · rw [if_neg hp]; omega
    · show (if j < k then dt j else dt (j + 1)) ≤ (if j' < k then dt j' else dt (j' + 1))
      by_cases c1 : j < k
      · rw [if_pos c1]
        by_cases c2 : j' < k
        · rw [if_pos c2]; exact hD.2.2 j j' g1 (by omega)
        · rw [if_neg c2]; exact hD.2.2 j (j' + 1) (by omega) (by omega)
      · rw [if_neg c1, if_neg (by omega)]; exact hD.2.2 (j + 1) (j' + 1) (by omega) (by omega)
  have hnow1 : σ1.1 0 0 = nI t := by rw [B3 0 0 (by omega) (by omega)]; exact hnow
  have hFk := hF k (by omega)
  obtain ⟨a2, σ2, C1, C2, C3, C4, C5, C6, C7, C8, C9⟩ := p_core (N := N) (q := L k) (b := b) (dk := dt k) (sn := σ.1 18 (512 * i + k)) (x6 := σ.1 20 (512 * i + k)) (x7 := σ.1 21 (512 * i + k)) hi hN ht hd hdk.2.1 (by omega) hnow1 hB1 hD1 (fun g => by
    have := hdk.2.2.1 g
    rw [if_pos this]; omega) (L2 k (by omega)).2.1 hFk.2.1 (by rw [hFk.2.2.1]; exact hdk.1) hFk.2.2.2.1 hFk.2.2.2.2.1
  have rows : ∀ kk j, 17 ≤ kk → kk ≤ 22 → j < 512 → σ2.1 kk (512 * i + j) = if k ≤ j ∧ j < m - 1 then σ.1 kk (512 * i + j + 1) else σ.1 kk (512 * i + j) := fun kk j g1 g2 g3 => by rw [C4 kk _ (by omega) (by omega)]; exact B2 kk j g1 g2 g3
  refine ⟨a2, σ2, (fun j => if j < k then L j else if j < m - 1 then L (j + 1) else if j = m - 1 then L k else L j), ⟨by rw [C4 16 i (by omega) (by omega)]; exact B1, by omega, by omega, ⟨fun j => if j < k then nu j else nu (j + 1), fun j hj => ?_, fun j j' g1 g2 => ?_⟩, fun j hj => ?_, fun j g1 g2 => ?_, fun j hj => ?_⟩, C1, ⟨L1, fun j hj => ?_, fun j g1 g2 => ?_, fun j j' g1 g2 g3 => ?_⟩, fun j hj => ?_, ?_, ?_, fun j => ?_, fun j hj => ?_, fun c hcm => ?_, fun P hP => A5 _ (C8 P hP), fun post hp => ?_⟩
  · rw [rows 17 j (by omega) (by omega) (by omega)]
    by_cases c1 : j < k
    · dsimp only; rw [if_neg (by omega), if_pos c1]; exact hn1 j (by omega)
    · dsimp only; rw [if_pos (by omega), if_neg c1]; exact hn1 (j + 1) (by omega)
  · show (if j < k then nu j else nu (j + 1)) < (if j' < k then nu j' else nu (j' + 1))
    by_cases c1 : j < k
    · rw [if_pos c1]
      by_cases c2 : j' < k
      · rw [if_pos c2]; exact hn2 j j' g1 (by omega)
      · rw [if_neg c2]; exact hn2 j (j' + 1) (by omega) (by omega)
    · rw [if_neg c1, if_neg (by omega)]; exact hn2 (j + 1) (j' + 1) (by omega) (by omega)
  · rw [rows 22 j (by omega) (by omega) (by omega)]
    by_cases c1 : j < k
    · rw [if_neg (by omega)]
      obtain ⟨u, u1, u2, u3, u4⟩ := hdu j (by omega)
      exact ⟨u, u1, u2, u3, by omega⟩
    · rw [if_pos (by omega)]
      obtain ⟨u, u1, u2, u3, u4⟩ := hdu (j + 1) (by omega)
      exact ⟨u, u1, u2, fun g => absurd g c1, by omega⟩
  · rw [rows 22 j (by omega) (by omega) (by omega), if_pos (by omega)]
    exact hnl (j + 1) (by omega) (by omega)
  · rw [rows 21 j (by omega) (by omega) (by omega)]
    by_cases c1 : j < k
    · rw [if_neg (by omega)]; exact hbo j (by omega)
    · rw [if_pos (by omega)]; exact hbo (j + 1) (by omega)
  · rw [C6, A4]
    by_cases c1 : j < k
    · simp only [if_pos c1]; exact L2 j hj
    · simp only [if_neg c1]
      by_cases c2 : j < m - 1
      · simp only [if_pos c2]; exact L2 (j + 1) (by omega)
      · simp only [if_neg c2]
        by_cases c3 : j = m - 1
        · simp only [if_pos c3]; exact L2 k (by omega)
        · simp only [if_neg c3]; exact L2 j hj
  · rw [C6, A4, if_neg (by omega), if_neg (by omega), if_neg (by omega)]; exact L3 j g1 g2
  · have inj := L4
    revert g3
    simp only
    split <;> split <;> (try split) <;> (try split) <;> (try split) <;> (try split) <;> intro g3 <;> (have g4 := inj _ _ (by omega) (by omega) g3; omega)
  · show gF b (if j < k then L j else if j < m - 1 then L (j + 1) else if j = m - 1 then L k else L j) 1 = _ ∧ _
    rw [rows 17 j (by omega) (by omega) (by omega), rows 18 j (by omega) (by omega) (by omega), rows 19 j (by omega) (by omega) (by omega), rows 20 j (by omega) (by omega) (by omega), rows 21 j (by omega) (by omega) (by omega), rows 22 j (by omega) (by omega) (by omega)]
    by_cases c1 : j < k
    · have c2 : ¬ (k ≤ j ∧ j < m - 1) := by omega
      simp only [if_pos c1, if_neg c2]
      exact hF j (by omega)
    · have c2 : k ≤ j ∧ j < m - 1 := by omega
      simp only [if_neg c1, if_pos c2, if_pos c2.2]
      exact hF (j + 1) (by omega)
  · exact B5.fx.tr C2
  · rw [C3, B3 0 15 (by omega) (by omega)]
  · exact ⟨by rw [C4 23 j (by omega) (by omega), B3 23 j (by omega) (by omega)], by rw [C4 24 j (by omega) (by omega), B3 24 j (by omega) (by omega)]⟩
  · rw [C7 j hj, A2 0 j (by omega)]
  · refine ⟨?_, ?_⟩
    · show (if lf - 1 + c < k then L (lf - 1 + c) else if lf - 1 + c < m - 1 then L (lf - 1 + c + 1) else if lf - 1 + c = m - 1 then L k else L (lf - 1 + c)) = L (lf + c)
      rw [if_neg (by omega), if_pos (by omega)]
      congr 1
      omega
    · rw [rows 17 (lf - 1 + c) (by omega) (by omega) (by omega), if_pos (by omega), show 512 * i + (lf - 1 + c) + 1 = 512 * i + (lf + c) by omega]
  · simp only [wX7_takes]
    intro x3 e3
    rw [n512] at e3
    subst e3
    have hin : vp_in (nI (512 * i + k)) 1024 := vp_in_nI (by omega) (by omega)
    rw [cl (show 512 * i + k < 2 ^ 31 by omega)]
    refine ⟨hin, fun x4 e4 => ⟨hin, fun x5 e5 => ⟨hin, fun x6 e6 => ⟨hin, fun x7 e7 => B6 _ ?_⟩⟩⟩⟩
    have e5' : x5 = nI (dt k) := by rw [e5]; exact hdk.1
    subst e4 e5' e6 e7
    exact C9 post hp
theorem q_skip {N i m : Nat} {σ : jRS} (hi : i < 2) (h16 : σ.1 16 i = nI m) (hm : m ≤ 261) : ∀ n k : Nat, k ≤ m → m + 1 ≤ k + n → (∀ j, k ≤ j → j < m → ¬ σ.1 22 (512 * i + j) = σ.1 0 0) → ∀ post, post σ → wX7_takesAll_2 N n σ (nI i) (nI k) post := by
  intro n
  induction n with
  | zero => intro k g1 g2; omega
  | succ n ih =>
    intro k g1 g2 g3 post hp
    simp only [wX7_takesAll_2, ci hi, h16]
    refine ⟨vi hi, pk_le m k (fun _ => hp) (fun g => ?_)⟩
    rw [n512, cl (show 512 * i + k < 2 ^ 31 by omega)]
    refine ⟨vp_in_nI (by omega) (by omega), fun _ x2 e2 => ?_, fun hh => absurd hh (g3 k (by omega) (by omega))⟩
    rw [nI_1] at e2
    subst e2
    exact ih (k + 1) (by omega) (by omega) (fun j q1 q2 => g3 j (by omega) q2) post hp
theorem p_due {N i fo t s al D : Nat} {b : jGS} {x2 : Int32} (hi : i < 2) (hN : 8002 ≤ N) (ht : t < 2 ^ 30) (hDD : 1000 * D < 2 ^ 31) : ∀ (n it k m lf d : Nat) (a : jSS) (σ : jRS) (L : Nat → Nat), k ≤ lf → it + (m - k) ≤ 261 → m + 1 ≤ k + n → d + lf ≤ D → σ.1 0 0 = nI t → LA i t k m lf s σ → KN i m d a σ → LK fo al L a b → m ≤ al → LF i m L b σ → ∃ m' lf' d' a' σ' L', LA i t lf' m' lf' s σ' ∧ KN i m' d' a' σ' ∧ LK fo al L' a' b ∧ LF i m' L' b σ' ∧ m' ≤ al ∧ m' + lf = m + lf' ∧ d' + lf' = d + lf ∧ lf' ≤ lf ∧ FX i σ σ' ∧ σ'.1 0 15 = σ.1 0 15 + nI (d' - d) ∧ (∀ j, σ'.1 23 j = σ.1 23 j ∧ σ'.1 24 j = σ.1 24 j) ∧ (∀ j, j ≤ 6 → a'.1 0 j = a.1 0 j) ∧ (∀ c, lf + c < m → L' (lf' + c) = L (lf + c) ∧ σ'.1 17 (512 * i + (lf' + c)) = σ.1 17 (512 * i + (lf + c))) ∧ (∀ P : Int32 → jSS → jGS → Prop, P (nI d' - x2) a' b → wX5_takeDue_10 N n a b (nI t) x2 (nI k) (nI it) P) ∧ ∀ post, post σ' → wX7_takesAll_2 N n σ (nI i) (nI k) post := by
  intro n
  induction n with
  | zero => intro it k m lf d a σ L g1 g2 g3 _ _ hA; have := hA.2.2.1; omega
  | succ n ih =>
    intro it k m lf d a σ L g1 g2 g3 g4 hnow hA hK hL hm hF
    obtain ⟨h16, hm2, hlf, hnu, hdu, hnl, hbo⟩ := id hA
    have hm11 : a.1 1 1 = nI m := by rw [hK.m.1]; exact h16
    by_cases hk : k = lf
    · subst hk
      have hrest : ∀ j, k ≤ j → j < m → ¬ σ.1 22 (512 * i + j) = σ.1 0 0 := fun j q1 q2 => by
        rw [hnl j q1 q2, hnow]; exact fun hh => n_ne9 (show t < 2 ^ 31 by omega) hh.symm
      refine ⟨m, k, d, a, σ, L, hA, hK, hL, hF, hm, rfl, rfl, by omega, ⟨fun _ _ _ _ => rfl, fun _ _ => rfl⟩, ?_, fun _ => ⟨rfl, rfl⟩, fun _ _ => rfl, fun c hc => ⟨rfl, rfl⟩, fun P hP => ?_, fun post hp => q_skip hi h16 hm2 (n + 1) k (by omega) (by omega) hrest post hp⟩
      · rw [Nat.sub_self, nI_0]; simp
      · have hP2 : wX5_takeDue_80 N a b x2 P := by unfold wX5_takeDue_80; rw [hK.m.2.1]; exact hP
        unfold wX5_takeDue_10
        refine pk_le 261 it (fun _ => hP2) (fun g => ?_)
        by_cases hkm : k = m
        · exact c_atn hm11 (by omega) (by omega) (by omega) ⟨fun _ => hP2, fun q hq => absurd hq (by simp)⟩
        · obtain ⟨o1, o2, o3⟩ := hL.2.1 k (by omega)
          refine c_at hm11 (by omega) (by omega) o1 ⟨fun hh => absurd hh (by simp), fun q hq => ?_⟩
          cases hq
          have h6 : gF b (L k) 6 = 0 := by
            rcases (hF k (by omega)).2.2.2.2.2 with ⟨_, h⟩ | ⟨h, _⟩
            · exact h
            · exact absurd (hnl k (by omega) (by omega)) h
          exact ⟨o2, fun hh => absurd h6 hh, fun _ => hP2⟩
    · obtain ⟨u, u1, u2, u3, u4⟩ := hdu k (by omega)
      obtain ⟨o1, o2, o3⟩ := hL.2.1 k (by omega)
      have hu : ¬ σ.1 22 (512 * i + k) = -9 := by rw [u1]; exact n_ne9 (by omega)
      obtain ⟨h6, h7⟩ : gF b (L k) 6 = 1 ∧ gF b (L k) 7 = nI u := by
        rcases (hF k (by omega)).2.2.2.2.2 with ⟨h, _⟩ | ⟨_, h, h2⟩
        · exact absurd h hu
        · exact ⟨h, by rw [h2, u1]⟩
      have h10 : ¬ (1 : Int32) = 0 := by decide
      by_cases hd : u = t
      · subst hd
        obtain ⟨a1, σ1, L1, w1, w2, w3, w4, w5, w6, w7, w8, w9, w10, w11⟩ := p_one (N := N) hi hN ht (by omega) hnow hA hK hL hm hF (show k < lf by omega)
        have hnow1 : σ1.1 0 0 = nI u := by rw [w5.1 0 0 (by unfold own; omega) (by omega)]; exact hnow
        obtain ⟨m', lf', d', a', σ', L', z1, z2, z3, z4, z5, z6, z7, z8, z9, z10, z11, z12, z13, z14, z15⟩ := ih (it + 1) k (m - 1) (lf - 1) (d + 1) a1 σ1 L1 (by omega) (by omega) (by omega) (by omega) hnow1 w1 w2 w3 (by omega) w4
        refine ⟨m', lf', d', a', σ', L', z1, z2, z3, z4, z5, by omega, by omega, by omega, w5.tr z9, ?_, fun j => ⟨by rw [(z11 j).1, (w7 j).1], by rw [(z11 j).2, (w7 j).2]⟩, fun j hj => by rw [z12 j hj, w8 j hj], fun c hc => ?_, fun P hP => ?_, fun post hp => ?_⟩
        · rw [z10, w6, Int32.add_assoc, show (1 : Int32) = nI 1 from rfl, nI_add]
          congr 2
          omega
        · obtain ⟨y1, y2⟩ := z13 c (by omega)
          obtain ⟨y3, y4⟩ := w9 c hc
          exact ⟨by rw [y1, y3], by rw [y2, y4]⟩
        · unfold wX5_takeDue_10
          refine pk_le 261 it (fun g => by omega) (fun g => ?_)
          refine c_at hm11 (by omega) (by omega) o1 ⟨fun hh => absurd hh (by simp), fun q hq => ?_⟩
          cases hq
          refine ⟨o2, fun _ => ⟨o2, fun hh => absurd h7 hh, fun _ => w10 _ ?_⟩, fun hh => absurd hh (by rw [h6]; exact h10)⟩
          unfold wX5_takeDue_74
          intro x4 e4
          rw [nI_1] at e4
          subst e4
          exact z14 P hP
        · simp only [wX7_takesAll_2, ci hi, h16]
          refine ⟨vi hi, pk_le m k (fun g => by omega) (fun g => ?_)⟩
          rw [n512, cl (show 512 * i + k < 2 ^ 31 by omega), u1, hnow]
          refine ⟨vp_in_nI (by omega) (by omega), fun hh => absurd rfl hh, fun _ => w11 _ (z15 post hp)⟩
      · have hne : ¬ nI u = nI t := fun h => hd ((neq (by omega) (by omega)).1 h)
        obtain ⟨m', lf', d', a', σ', L', z1, z2, z3, z4, z5, z6, z7, z8, z9, z10, z11, z12, z13, z14, z15⟩ := ih (it + 1) (k + 1) m lf d a σ L (by omega) (by omega) (by omega) g4 hnow ⟨h16, hm2, hlf, hnu, fun j hj => by
          obtain ⟨v, v1, v2, v3, v4⟩ := hdu j hj
          refine ⟨v, v1, v2, fun hjk => ?_, v4⟩
          by_cases hjk2 : j = k
          · subst hjk2
            rw [u1] at v1
            have := (neq (by omega) (by omega)).1 v1
            omega
          · exact v3 (by omega), hnl, hbo⟩ hK hL hm hF
        refine ⟨m', lf', d', a', σ', L', z1, z2, z3, z4, z5, z6, z7, z8, z9, z10, z11, z12, z13, fun P hP => ?_, fun post hp => ?_⟩
        · unfold wX5_takeDue_10
          refine pk_le 261 it (fun g => by omega) (fun g => ?_)
          refine c_at hm11 (by omega) (by omega) o1 ⟨fun hh => absurd hh (by simp), fun q hq => ?_⟩
          cases hq
          refine ⟨o2, fun _ => ⟨o2, fun _ x3 e3 => ?_, fun hh => absurd (by rw [h7] at hh; exact hh) hne⟩, fun hh => absurd hh (by rw [h6]; exact h10)⟩
          unfold wX5_takeDue_74
          intro x4 e4
          rw [nI_1] at e4 e3
          subst e4 e3
          exact z14 P hP
        · simp only [wX7_takesAll_2, ci hi, h16]
          refine ⟨vi hi, pk_le m k (fun g => by omega) (fun g => ?_)⟩
          rw [n512, cl (show 512 * i + k < 2 ^ 31 by omega), u1, hnow]
          refine ⟨vp_in_nI (by omega) (by omega), fun _ x2 e2 => ?_, fun hh => absurd hh hne⟩
          rw [nI_1] at e2
          subst e2
          exact z15 post hp

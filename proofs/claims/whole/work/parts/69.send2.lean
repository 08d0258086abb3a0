/-! one letter is sent: the class, and both -/
def AX (m s r : Nat) (at' : Int32) (nx : Int64) (a a' : jSS) : Prop := (∀ k j, ¬ (k = 0 ∧ (j = 3 ∨ j = 4 ∨ j = 6 ∨ j = 8)) → ¬ (k = 1 ∧ j = 1) → a'.1 k j = a.1 k j) ∧ a'.1 0 3 = a.1 0 3 - 1 ∧ a'.1 0 4 = nI (s + 1) ∧ a'.1 0 6 = (if r = 0 then a.1 0 6 + 1 else a.1 0 6) ∧ a'.1 0 8 = at' ∧ a'.1 1 1 = nI (m + r) ∧ a'.2.1 = nx ∧ a'.2.2 = a.2.2
def bSend (b : jGS) (q s t d : Nat) (at' lim : Int32) : jGS := gFP (gFP (gFP (gFP (gFP (gFP b q 1 (nI s)) q 2 (nI t)) q 3 (nI d)) q 4 at') q 5 lim) q 6 0
def wSend (N B fo : Nat) (a : jSS) (b : jGS) (nU : Nat) (x2 : Int32) (q : Nat) (post : Int32 → jSS → jGS → Prop) : Prop := ∀ v_77 : Int32, v_77 = (a.1 0 3) - 1 → ∀ a_78 : jSS, a_78 = aP a 0 3 v_77 → ((¬ (a_78.1 1 1) = 0) → (wX5_sendOne_40 N B fo a_78 b nU x2 q post)) ∧ (((a_78.1 1 1) = 0) → (∀ a_80 : jSS, a_80 = aP a_78 0 8 x2 → wX5_sendOne_40 N B fo a_80 b nU x2 q post))
theorem c_send {N B fo nU m s d t r lm M ph q : Nat} {a : jSS} {b : jGS} (hm : m ≤ 261) (hr : r ≤ 1) (h11 : a.1 1 1 = nI m) (h04 : a.1 0 4 = nI s) (h07 : a.1 0 7 = nI d) (hlm : lm < 2 ^ 31) (h09 : a.1 0 9 = nI lm) (hM : M < 2 ^ 31) (h12 : a.1 0 12 = nI M) (hph : ph < 8) (h31 : a.1 3 0 = 2 → a.1 3 1 = nI ph) (hq : q ∈ gLP b) {b' : jGS} (hadm : ∀ (a3 : jSS) (P : Int32 → jSS → jGS → Prop), P (nI r) a3 b' → wX1_admit N a3 (bSend b q s t d (if m = 0 then nI t else a.1 0 8) (if lm = 0 then 0 else 1)) q (nI t) P) : ∃ a' : jSS, AX m s r (if m = 0 then nI t else a.1 0 8) (jnext M (jgn (a.1 3 0) (a.1 3 1)) a.2.1 (nI t)) a a' ∧ ∀ post : Int32 → jSS → jGS → Prop, post (nI r) a' b' → wSend N B fo a b nU (nI t) q post := by
  -- the state before the gate
  obtain ⟨a3, A1, A2, A3, A4, A5, A6⟩ : ∃ a3 : jSS, (∀ k j, ¬ (k = 0 ∧ (j = 3 ∨ j = 4 ∨ j = 8)) → a3.1 k j = a.1 k j) ∧ a3.1 0 3 = a.1 0 3 - 1 ∧ a3.1 0 4 = nI (s + 1) ∧ a3.1 0 8 = (if m = 0 then nI t else a.1 0 8) ∧ a3.2 = a.2 ∧ ∀ post : Int32 → jSS → jGS → Prop, wX1_admit N a3 (bSend b q s t d (if m = 0 then nI t else a.1 0 8) (if lm = 0 then 0 else 1)) q (nI t) (fun r_50 a_51 b_52 => ((r_50 = 0) → (∀ v_54 : Int32, v_54 = (a_51.1 0 6) + 1 → ∀ a_55 : jSS, a_55 = aP a_51 0 6 v_54 → wX5_sendOne_133 N B fo a_55 b_52 nU (nI t) r_50 post)) ∧ ((¬ r_50 = 0) → (wX3_add N a_51 (fun a_57 => wX5_sendOne_133 N B fo a_57 b_52 nU (nI t) r_50 post)))) → wSend N B fo a b nU (nI t) q post := by
    have go : ∀ (a2 : jSS), (∀ k j, ¬ (k = 0 ∧ (j = 3 ∨ j = 8)) → a2.1 k j = a.1 k j) → a2.1 0 3 = a.1 0 3 - 1 → a2.1 0 8 = (if m = 0 then nI t else a.1 0 8) → a2.2 = a.2 → (∀ post, wX5_sendOne_40 N B fo a2 b nU (nI t) q post → wSend N B fo a b nU (nI t) q post) → ∃ a3 : jSS, (∀ k j, ¬ (k = 0 ∧ (j = 3 ∨ j = 4 ∨ j = 8)) → a3.1 k j = a.1 k j) ∧ a3.1 0 3 = a.1 0 3 - 1 ∧ a3.1 0 4 = nI (s + 1) ∧ a3.1 0 8 = (if m = 0 then nI t else a.1 0 8) ∧ a3.2 = a.2 ∧ ∀ post : Int32 → jSS → jGS → Prop, wX1_admit N a3 (bSend b q s t d (if m = 0 then nI t else a.1 0 8) (if lm = 0 then 0 else 1)) q (nI t) (fun r_50 a_51 b_52 => ((r_50 = 0) → (∀ v_54 : Int32, v_54 = (a_51.1 0 6) + 1 → ∀ a_55 : jSS, a_55 = aP a_51 0 6 v_54 → wX5_sendOne_133 N B fo a_55 b_52 nU (nI t) r_50 post)) ∧ ((¬ r_50 = 0) → (wX3_add N a_51 (fun a_57 => wX5_sendOne_133 N B fo a_57 b_52 nU (nI t) r_50 post)))) → wSend N B fo a b nU (nI t) q post := by
      intro a2 g1 g2 g3 g4 g5
      refine ⟨aP a2 0 4 (nI (s + 1)), fun k j g => ?_, ?_, ?_, ?_, g4, fun post hp => g5 post ?_⟩
      · simp only [aP_rd]; rw [if_neg (by omega)]; exact g1 k j (by omega)
      · simp only [aP_rd]; rw [if_neg (by omega)]; exact g2
      · simp only [aP_rd]; simp
      · simp only [aP_rd]; rw [if_neg (by omega)]; exact g3
      · have f4 : a2.1 0 4 = nI s := by rw [g1 0 4 (by omega)]; exact h04
        have f7 : a2.1 0 7 = nI d := by rw [g1 0 7 (by omega)]; exact h07
        have f9 : a2.1 0 9 = nI lm := by rw [g1 0 9 (by omega)]; exact h09
        unfold wX5_sendOne_40
        rw [f4, f7, g3, f9]
        refine fun v1 ev1 => ⟨hq, fun b1 e1 => ⟨by rw [e1]; exact hq, fun b2 e2 v2 ev2 => ⟨by rw [e2, e1]; exact hq, fun b3 e3 v3 ev3 => ⟨by rw [e3, e2, e1]; exact hq, fun b4 e4 => ?_⟩⟩⟩⟩
        have tl : ∀ y0, y0 = (if lm = 0 then 0 else 1) → wX5_sendOne_82 N B fo a2 b4 nU (nI t) q y0 q post := by
          intro y0 ey
          unfold wX5_sendOne_82
          refine ⟨?_, by rw [e4, e3, e2, e1]; exact hq, fun b5 e5 => ⟨by rw [e5, e4, e3, e2, e1]; exact hq, fun b6 e6 v4 ev4 a4 e7 => ?_⟩⟩
          · rw [ey]
            by_cases g : lm = 0
            · rw [if_pos g]; exact .inl rfl
            · rw [if_neg g]; exact .inr rfl
          · rw [f4, nI_1] at ev4
            subst ev4 e7
            have eb : b6 = bSend b q s t d (if m = 0 then nI t else a.1 0 8) (if lm = 0 then 0 else 1) := by
              unfold bSend
              rw [e6, e5, ey, e4, ev3, e3, ev2, e2, e1, ev1]
            rw [eb]
            exact hp
        exact pk_le lm 0 (fun g => tl 0 (by rw [if_pos (by omega)])) (fun g => tl 1 (by rw [if_neg (by omega)]))
    by_cases hm0 : m = 0
    · refine go (aP (aP a 0 3 (a.1 0 3 - 1)) 0 8 (nI t)) (fun k j g => ?_) ?_ ?_ rfl (fun post hp => ?_)
      · simp only [aP_rd]; rw [if_neg (by omega), if_neg (by omega)]
      · simp only [aP_rd]; simp
      · simp only [aP_rd]; rw [if_pos hm0]; simp
      · unfold wSend
        intro v ev a1 e1
        have f11 : a1.1 1 1 = nI 0 := by rw [e1]; simp only [aP_rd]; rw [if_neg (by omega), h11, hm0]
        rw [f11]
        refine ⟨fun hh => absurd nI_0 hh, fun _ a2 e2 => ?_⟩
        subst ev e2 e1
        exact hp
    · refine go (aP a 0 3 (a.1 0 3 - 1)) (fun k j g => ?_) ?_ ?_ rfl (fun post hp => ?_)
      · simp only [aP_rd]; rw [if_neg (by omega)]
      · simp only [aP_rd]; simp
      · simp only [aP_rd]; rw [if_neg hm0]; simp
      · unfold wSend
        intro v ev a1 e1
        have f11 : a1.1 1 1 = nI m := by rw [e1]; simp only [aP_rd]; rw [if_neg (by omega), h11]
        rw [f11]
        refine ⟨fun _ => ?_, fun hh => absurd hh (nI_ne0 (by omega) (by omega))⟩
        subst ev e1
        exact hp
  -- behind the gate
  have fin : ∀ (a4 : jSS), (∀ k j, ¬ (k = 0 ∧ j = 6) → ¬ (k = 1 ∧ j = 1) → a4.1 k j = a3.1 k j) → a4.1 0 6 = (if r = 0 then a.1 0 6 + 1 else a.1 0 6) → a4.1 1 1 = nI (m + r) → a4.2 = a3.2 → (∀ post : Int32 → jSS → jGS → Prop, wX5_sendOne_133 N B fo a4 b' nU (nI t) (nI r) post → wSend N B fo a b nU (nI t) q post) → ∃ a' : jSS, AX m s r (if m = 0 then nI t else a.1 0 8) (jnext M (jgn (a.1 3 0) (a.1 3 1)) a.2.1 (nI t)) a a' ∧ ∀ post : Int32 → jSS → jGS → Prop, post (nI r) a' b' → wSend N B fo a b nU (nI t) q post := by
    intro a4 g1 g2 g3 g4 g5
    have f0 : ∀ k j, ¬ (k = 0 ∧ (j = 3 ∨ j = 4 ∨ j = 6 ∨ j = 8)) → ¬ (k = 1 ∧ j = 1) → a4.1 k j = a.1 k j := fun k j w1 w2 => by rw [g1 k j (by omega) w2, A1 k j (by omega)]
    refine ⟨aN a4 (jnext M (jgn (a.1 3 0) (a.1 3 1)) a.2.1 (nI t)), ⟨fun k j w1 w2 => f0 k j w1 w2, ?_, ?_, g2, ?_, g3, rfl, ?_⟩, fun post hp => g5 post ?_⟩
    · show a4.1 0 3 = _; rw [g1 0 3 (by omega) (by omega)]; exact A2
    · show a4.1 0 4 = _; rw [g1 0 4 (by omega) (by omega)]; exact A3
    · show a4.1 0 8 = _; rw [g1 0 8 (by omega) (by omega)]; exact A4
    · show a4.2.2 = _; rw [g4, A5]
    · unfold wX5_sendOne_133
      refine c_putOff (M := M) (ph := ph) hph (by rw [f0 3 0 (by omega) (by omega), f0 3 1 (by omega) (by omega)]; exact h31) hM (by rw [f0 0 12 (by omega) (by omega)]; exact h12) ⟨?_, ?_⟩
      · rcases (show r = 0 ∨ r = 1 by omega) with e | e
        · rw [e]; exact .inl nI_0
        · rw [e]; exact .inr rfl
      · rw [f0 3 0 (by omega) (by omega), f0 3 1 (by omega) (by omega), g4, A5]
        exact hp
  rcases (show r = 0 ∨ r = 1 by omega) with e | e
  · refine fin (aP a3 0 6 (a3.1 0 6 + 1)) (fun k j w1 w2 => ?_) ?_ ?_ rfl (fun post hp => A6 post (hadm a3 _ ⟨fun _ v ev a5 e5 => ?_, fun hh => ?_⟩))
    · simp only [aP_rd]; rw [if_neg w1]
    · simp only [aP_rd]; rw [if_pos e, A1 0 6 (by omega)]; simp
    · simp only [aP_rd]; rw [if_neg (by omega), A1 1 1 (by omega), h11, e]; rfl
    · subst ev e5; exact hp
    · rw [e] at hh; exact absurd nI_0 hh
  · refine fin (aP a3 1 1 (nI (m + r))) (fun k j w1 w2 => ?_) ?_ ?_ rfl (fun post hp => A6 post (hadm a3 _ ⟨fun hh => ?_, fun _ => ?_⟩))
    · simp only [aP_rd]; rw [if_neg w2]
    · simp only [aP_rd]; rw [if_neg (by omega), if_neg (by omega), A1 0 6 (by omega)]
    · simp only [aP_rd]; simp
    · rw [e] at hh; exact absurd hh (by decide)
    · unfold wX3_add
      rw [A1 1 1 (by omega), h11]
      refine pk_le 262 m (fun g => by omega) (fun _ v ev a5 e5 => ?_)
      rw [nI_1] at ev
      rw [e] at hp
      subst ev e5
      rw [e]
      exact hp
theorem SX.own {i i' m s d r t : Nat} {at' lim : Int32} {nx : Int64} {σ σ' : jRS} (h : SX i m s d r t at' lim nx σ σ') (hi : i ≠ i') (hm : m < 512) : ∀ k j, own i' k j → σ'.1 k j = σ.1 k j := by
  intro k j g
  have h16 := g.1
  refine h.1 k j (by omega) (by omega) (by omega) (fun g2 => ?_) (fun g2 => ?_)
  · exact own_ne hi (by rw [g2.1]; exact own_s (by omega) (by omega) (by omega) (by omega)) g
  · exact own_ne hi (by rw [g2.2.2]; exact own_l g2.1 g2.2.1 hm) g
theorem KN.send {i m s d r t : Nat} {at' lim : Int32} {nx : Int64} {a a' : jSS} {σ σ' : jRS} (h : KN i m d a σ) (hm : m ≤ 261) (hr : r ≤ 1) (hs : s < 2 ^ 30) (hX : SX i m s d r t at' lim nx σ σ') (hA : AX m s r at' nx a a') (h16 : σ.1 16 i = nI m) (hls : ∃ ls, ls ≤ s ∧ a.1 0 6 = nI ls) : KN i (m + r) d a' σ' := by
  obtain ⟨r0, T, tn, mk, p, ca, M, e, V, W, dt, hB, hD, hc⟩ := h
  obtain ⟨k1, k2, k3, k4, k5, k6, k7, k8, k9, k10, k11, k12, k13, k14, k15, k16, lm, k17, k18⟩ := hB
  obtain ⟨x1, x2, x3, x4, x5, x6, x7, x8⟩ := hX
  obtain ⟨y1, y2, y3, y4, y5, y6, y7, y8⟩ := hA
  obtain ⟨ls, l1, l2⟩ := hls
  have hSR := k1.1
  have e34 : σ.1 34 i = nI ls := by unfold SR at hSR; grind
  have e2 : σ'.2 i = nx := by rw [x8 i, if_pos rfl]
  have rs : ∀ k, k = 25 ∨ k = 27 ∨ k = 28 ∨ k = 29 ∨ k = 30 ∨ k = 31 ∨ k = 32 ∨ 39 ≤ k → σ'.1 k i = σ.1 k i := fun k g => x1 k i (by omega) (by omega) (by omega) (by omega) (by omega)
  have hSR' : SR i a' σ' := by
    unfold SR at hSR ⊢
    rw [e2, y7]
    refine ⟨by rw [y2, x2]; grind, by rw [y3, x3], by rw [y4, x5]; grind, ?_, by rw [y5, x4], ?_, ?_, ?_, ?_, ?_, ?_, by rw [y6, x6], rfl, ?_, ?_, ?_, ?_, ?_, ?_, ?_⟩
    · rw [y1 0 7 (by omega) (by omega), rs 25 (by omega)]; grind
    · rw [y1 0 9 (by omega) (by omega), rs 27 (by omega)]; grind
    · rw [y1 0 10 (by omega) (by omega), rs 28 (by omega)]; grind
    · rw [y1 0 11 (by omega) (by omega), rs 29 (by omega)]; grind
    · rw [y1 0 12 (by omega) (by omega), rs 30 (by omega)]; grind
    · rw [y1 0 13 (by omega) (by omega), rs 31 (by omega)]; grind
    · rw [y1 0 14 (by omega) (by omega), rs 32 (by omega)]; grind
    · rw [y1 3 0 (by omega) (by omega), rs 39 (by omega)]; grind
    · rw [y1 3 0 (by omega) (by omega), y1 3 1 (by omega) (by omega), rs 40 (by omega)]; grind
    · rw [y1 3 0 (by omega) (by omega), y1 3 2 (by omega) (by omega), rs 41 (by omega)]; grind
    · rw [y1 3 0 (by omega) (by omega), y1 3 3 (by omega) (by omega), rs 42 (by omega)]; grind
    · rw [y1 3 5 (by omega) (by omega), rs 44 (by omega)]; grind
    · rw [y1 3 6 (by omega) (by omega), rs 45 (by omega)]; grind
    · rw [y1 3 7 (by omega) (by omega), rs 46 (by omega)]; grind
  have h42 := k1.2.1.2.2.2.1
  have hC' : CS i tn a' σ' := k1.mv hSR' (fun k j g => y1 k j (by omega) (by omega)) (fun k j g => x1 k j (by omega) (by omega) (by omega) (by omega) (by omega)) (by
    rw [x5]
    by_cases g : r = 0
    · rw [if_pos g, e34, nI_1]
      rw [e34] at h42
      exact Int32.le_trans h42 (nI_le (by omega) (by omega))
    · rw [if_neg g]; exact h42)
  refine ⟨r0, T, tn, mk, p, ca, M, e, V, W, vup dt m d, ⟨hC', k2, k3, k4.upd12 (fun k j g1 g2 g3 g4 g5 => y1 k j (by omega) (by omega)), k5.upd (fun k j g => x1 k j (by omega) (by omega) (by omega) (by omega) (by omega)), k6, by rw [rs 30 (by omega)]; exact k7, k8, by rw [rs 28 (by omega)]; exact k9, k10, k11, by rw [rs 29 (by omega)]; exact k12, k13, k14, k15, by rw [rs 25 (by omega)]; exact k16, lm, k17, by rw [rs 27 (by omega)]; exact k18⟩, ⟨by have := hD.1; omega, fun j hj => ?_, fun j j' g1 g2 => ?_⟩, hc⟩
  · unfold vup
    by_cases hjm : j = m
    · rw [if_pos hjm, hjm, (x7 (by omega)).2.2.1]
      have := hD.1
      exact ⟨rfl, by omega, by omega⟩
    · rw [if_neg hjm, x1 19 _ (by omega) (by omega) (by omega) (by omega) (by omega)]
      exact hD.2.1 j (by omega)
  · unfold vup
    by_cases hjm : j' = m
    · rw [if_pos hjm]
      by_cases hj2 : j = m
      · rw [if_pos hj2]; omega
      · rw [if_neg hj2]; exact (hD.2.1 j (by omega)).2.1
    · rw [if_neg hjm, if_neg (by omega)]
      exact hD.2.2 j j' g1 (by omega)
theorem LA.lf {i t1 k m lf s : Nat} {σ : jRS} (h : LA i t1 k m lf s σ) : lf ≤ 200 := by
  obtain ⟨h16, hm2, hlf, hnu, hdu, hnl, hbo⟩ := h
  by_cases g : lf = 0
  · omega
  · obtain ⟨u, u1, u2, u3, u4⟩ := hdu 0 (by omega)
    omega
theorem p_send {N i t ql w rm dl : Nat} {m lf s d al o : Nat → Nat} {σ : jRS} (hi : i < 2) (hnow : σ.1 0 0 = nI t) (hsb : s i + 1 < 2 ^ 30) (h : RA (t + 1) m lf s d al ql w rm dl o σ) : ∃ (r w' : Nat) (σ' : jRS), r ≤ 1 ∧ RA (t + 1) (va_up m i (m i + r)) lf (va_up s i (s i + 1)) d (va_up al i (max (al i) (m i + 1))) (ql + r) w' rm dl (eup o ql i) σ' ∧ (∀ j, ¬ (5 ≤ j ∧ j ≤ 9) → σ'.1 0 j = σ.1 0 j) ∧ (∀ k, k = 30 ∨ k = 31 ∨ k = 39 → σ'.1 k i = σ.1 k i) ∧ (∀ post, post (nI r) σ' → wX7_sends N σ (nI i) post) ∧ ∀ (fo : Nat → Nat) (gu : Nat) (A : Nat → jSS) (b : jGS) (L : Nat → Nat → Nat) (hd : Nat), RT fo gu (t + 1) (fun _ => 0) m lf s d al L ql w rm dl hd o A b σ → ∀ post : Int32 → jSS → jGS → Prop, (∀ (a' : jSS) (b' : jGS) (L' : Nat → Nat → Nat), RT fo gu (t + 1) (fun _ => 0) (va_up m i (m i + r)) lf (va_up s i (s i + 1)) d (va_up al i (max (al i) (m i + 1))) L' (ql + r) w' rm dl hd (eup o ql i) (va_up A i a') b' σ' → post (nI r) a' b') → wX5_sendOne N (max (al i) (m i + 1) - al i) (fo i) (A i) b 0 (nI t) post := by
  obtain ⟨h1, h2, h3⟩ := id h
  obtain ⟨a1, a2, a3, a4, a5, ⟨M, hM, hM2⟩, ⟨lm, hlm, hlm2⟩, a8⟩ := id (h1 i hi)
  obtain ⟨r, w', σ', c1, c2, c3, c4, c5, c6, c7⟩ := q_send (N := N) hi hnow (by omega) (h1 i hi) hM hM2 hlm hlm2 h2 h3
  obtain ⟨l1, l2, l3, ⟨nu, n1, n2⟩, l5, l6, l7⟩ := id a1
  obtain ⟨x1, x2, x3, x4, x5, x6, x7, x8⟩ := id c2
  have h17 : ∀ i' j, i' < 2 → j < m i' → σ'.1 17 (512 * i' + j) = σ.1 17 (512 * i' + j) := fun i' j hi' hj => by
    have hm' := (h1 i' hi').1.2.1
    refine x1 17 _ (by omega) (by omega) (by omega) (by omega) (fun g => ?_)
    by_cases he : i' = i
    · subst he; omega
    · omega
  have hmup : (fun i' => if i' = i then m i' + r else m i') = va_up m i (m i + r) := by
    funext i'
    unfold va_up
    by_cases he : i' = i
    · rw [if_pos he, if_pos he, he]
    · rw [if_neg he, if_neg he]
  have hQA : QA (ql + r) (eup o ql i) lf (va_up m i (m i + r)) σ' := by
    rw [← hmup]
    exact h3.app (by omega) c1 (fun g => ⟨(c4 g).1, fun _ => by rw [(c4 g).2, (x7 g).1]⟩) c5 h17
  have hm1 : m i + r ≤ 261 := by
    have e := hQA.2 i hi
    rw [va_up_self] at e
    have e2 := cn_le (eup o ql i) i (ql + r)
    have e3 := a1.lf
    have e4 := c3.2.2.2.2.2.2.2
    have e5 := c3.2.1
    have : ql + r ≤ 61 := by
      rcases e4 with g | g
      · omega
      · omega
    omega
  have hLA : LA i (t + 1) 0 (m i + r) (lf i) (s i + 1) σ' := by
    refine ⟨x6, hm1, by omega, ⟨vup nu (m i) (s i), fun j hj => ?_, fun j j' g1 g2 => ?_⟩, fun j hj => ?_, fun j g1 g2 => ?_, fun j hj => ?_⟩
    · unfold vup
      by_cases hjm : j = m i
      · rw [if_pos hjm, hjm]; exact ⟨(x7 (by omega)).1, by omega⟩
      · rw [if_neg hjm, h17 i j hi (by omega)]
        have := n1 j (by omega)
        exact ⟨this.1, by omega⟩
    · unfold vup
      by_cases hjm : j' = m i
      · rw [if_pos hjm, if_neg (by omega)]; exact (n1 j (by omega)).2
      · rw [if_neg hjm, if_neg (by omega)]; exact n2 j j' g1 (by omega)
    · rw [x1 22 _ (by omega) (by omega) (by omega) (by omega) (by omega)]; exact l5 j hj
    · by_cases hjm : j = m i
      · rw [hjm]; exact (x7 (by omega)).2.2.2.2.2
      · rw [x1 22 _ (by omega) (by omega) (by omega) (by omega) (by omega)]; exact l6 j g1 (by omega)
    · by_cases hjm : j = m i
      · rw [hjm, (x7 (by omega)).2.2.2.2.1]
        by_cases g : lm = 0
        · rw [if_pos g]; exact .inl rfl
        · rw [if_neg g]; exact .inr rfl
      · rw [x1 21 _ (by omega) (by omega) (by omega) (by omega) (by omega)]; exact l7 j (by omega)
  have rs : ∀ k, k = 25 ∨ k = 27 ∨ k = 28 ∨ k = 29 ∨ k = 30 ∨ k = 31 ∨ k = 32 ∨ 39 ≤ k → σ'.1 k i = σ.1 k i := fun k g => x1 k i (by omega) (by omega) (by omega) (by omega) (by omega)
  refine ⟨r, w', σ', c1, ⟨fun i' hi' => ?_, c3, hQA⟩, fun j g => x1 0 j (by omega) (by omega) (by omega) (by omega) (by omega), fun k g => rs k (by omega), c6, fun fo gu A b L hd hRT post hpost => ?_⟩
  · by_cases he : i' = i
    · subst he
      simp only [va_up_self]
      refine ⟨hLA, by omega, by omega, x3, by rw [rs 25 (by omega)]; exact a5, ⟨M, hM, by rw [rs 30 (by omega)]; exact hM2⟩, ⟨lm, hlm, by rw [rs 27 (by omega)]; exact hlm2⟩, ?_⟩
      unfold PS at a8 ⊢
      rw [rs 39 (by omega), rs 40 (by omega)]
      exact a8
    · simp only [va_up_ne _ _ he]
      obtain ⟨b1, b2, b3, b4, b5, ⟨M', hM', hM2'⟩, ⟨lm', hlm', hlm2'⟩, b8⟩ := h1 i' hi'
      have ow := c2.own (i' := i') (fun g => he g.symm) (by omega)
      have os : ∀ k, 16 ≤ k → ¬ (k = 48 ∨ k = 49) → ¬ (17 ≤ k ∧ k ≤ 22) → ¬ (k = 37 ∨ k = 38) → σ'.1 k i' = σ.1 k i' := fun k g1 g2 g3 g4 => ow k i' (own_s g1 g2 g3 g4)
      refine ⟨b1.cg ow, b2, b3, by rw [os 24 (by omega) (by omega) (by omega) (by omega)]; exact b4, by rw [os 25 (by omega) (by omega) (by omega) (by omega)]; exact b5, ⟨M', hM', by rw [os 30 (by omega) (by omega) (by omega) (by omega)]; exact hM2'⟩, ⟨lm', hlm', by rw [os 27 (by omega) (by omega) (by omega) (by omega)]; exact hlm2'⟩, ?_⟩
      unfold PS at b8 ⊢
      rw [os 39 (by omega) (by omega) (by omega) (by omega), os 40 (by omega) (by omega) (by omega) (by omega)]
      exact b8
  · unfold wX5_sendOne
    refine ⟨max (al i) (m i + 1) - al i, by omega, ?_⟩
    have hbl := p_blank (N := N) (nU := 0) hi hRT (post := fun r_70 a_71 b_72 => ((r_70 = none) → post 0 a_71 b_72) ∧ (∀ q_76 : Nat, r_70 = some q_76 → wSend N (max (al i) (m i + 1) - al i) (fo i) a_71 b_72 (0 + (max (al i) (m i + 1) - al i)) (nI t) q_76 post)) ?_
    · rw [Nat.zero_add] at hbl
      exact hbl
    · intro L1 a0 b0 hR
      refine ⟨fun hh => absurd hh (by simp), fun q hq => ?_⟩
      cases hq
      obtain ⟨g1, g2, g3, g4, g5, g6, g7, g8⟩ := hR
      have gi := g1 i hi
      simp only [va_up_self] at gi
      obtain ⟨s1, s2, s3, s4, s5, s6, s7⟩ := gi
      have hmal : m i < max (al i) (m i + 1) := by omega
      obtain ⟨o1, o2, o3⟩ := s3.2.1 (m i) hmal
      have hk := s2
      obtain ⟨r0, T, tn, mk, p, ca, M0, e, V, W, dt, hB, hD, hc⟩ := hk
      have hSR := hB.1.1
      obtain ⟨ph, hph, hph2⟩ := hB.1.2.1.2.1
      unfold SR at hSR
      have e04 : a0.1 0 4 = nI (s i) := by rw [← a4]; grind
      have e09 : a0.1 0 9 = nI lm := by rw [← hlm2]; grind
      have e12 : a0.1 0 12 = nI M := by rw [← hM2]; grind
      have e31 : a0.1 3 0 = 2 → a0.1 3 1 = nI ph := by rw [← hph2]; grind
      have e08 : a0.1 0 8 = σ.1 26 i := by grind
      have e30 : a0.1 3 0 = σ.1 39 i := by grind
      have e310 : jgn (σ.1 39 i) (a0.1 3 1) = jgn (σ.1 39 i) (σ.1 40 i) := jgn_c (by grind)
      have enx : a0.2.1 = σ.2 i := by grind
      have e11 : a0.1 1 1 = nI (m i) := by rw [s2.m.1]; exact l1
      -- the gate
      obtain ⟨b', d1, d2, d3, d4, d5, d6, d7, d8, d9, d10⟩ := c7 (bSend b0 (L1 (m i)) (s i) t (d i) (if m i = 0 then nI t else a0.1 0 8) (if lm = 0 then 0 else 1)) gu hd (L1 (m i)) o lf (va_up L i L1) g4 g5 o2
      have hgF : ∀ q kk, gF b' q kk = if q = L1 (m i) ∧ kk = 6 then 0 else if q = L1 (m i) ∧ kk = 5 then (if lm = 0 then 0 else 1) else if q = L1 (m i) ∧ kk = 4 then (if m i = 0 then nI t else σ.1 26 i) else if q = L1 (m i) ∧ kk = 3 then nI (d i) else if q = L1 (m i) ∧ kk = 2 then nI t else if q = L1 (m i) ∧ kk = 1 then nI (s i) else gF b0 q kk := fun q kk => by
        rw [d8]; unfold bSend; simp only [b_IP, b_IS, b_IL, b_IF, b_IO, b_IN, b_VP, b_VS, b_VL, b_VF, b_VO, b_VN, b_LnP, b_LnS, b_LnL, b_LnF, b_LnO, b_LnN, b_LPP, b_LPS, b_LPL, b_LPF, b_LPO, b_LPN, b_FP, b_FS, b_FL, b_FF, b_FO, b_FN, b_OP, b_OS, b_OL, b_OF, b_OO, b_ON]; rw [e08]
      have hgFn : ∀ q, q ≠ L1 (m i) → gF b' q = gF b0 q := fun q hq => by
        funext kk
        rw [hgF, if_neg (fun g => hq g.1), if_neg (fun g => hq g.1), if_neg (fun g => hq g.1), if_neg (fun g => hq g.1), if_neg (fun g => hq g.1), if_neg (fun g => hq g.1)]
      have hLP : gLP b' = gLP b0 := d7
      have hO : gO b' = gO b0 := d9
      obtain ⟨a', hAX, hw⟩ := c_send (N := N) (B := max (al i) (m i + 1) - al i) (fo := fo i) (nU := 0 + (max (al i) (m i + 1) - al i)) (t := t) (b' := b') (b := b0) l2 c1 e11 e04 s2.m.2.1 hlm e09 hM e12 hph e31 o2 (fun a9 P hP => by
        exact d10 a9 P hP)
      rw [e08, e30, e310, enx] at hAX
      refine hw _ (hpost a' b' (va_up L i L1) ⟨fun i' hi' => ?_, c3, hQA, ?_, d6, by rw [hLP]; exact g6, by rw [hO]; exact g7, g8⟩)
      · by_cases he : i' = i
        · subst he
          simp only [va_up_self]
          obtain ⟨y1, y2, y3, y4, y5, y6, y7, y8⟩ := id hAX
          refine ⟨hLA, s2.send l2 c1 (by omega) c2 hAX l1 s7.2, s3.cg y8 (fun q g => by rw [hLP]; exact g) (fun j _ => by rw [hO]), fun j hj => ?_, by omega, ?_, x3, ?_⟩
          · by_cases hjm : j = m i'
            · subst hjm
              have hr1 : r = 1 := by omega
              obtain ⟨z1, z2, z3, z4, z5, z6⟩ := x7 hr1
              rw [z1, z2, z3, z4, z5, z6]
              simp only [hgF]
              simp
            · have hne : L1 j ≠ L1 (m i') := fun g => hjm (s3.2.2.2 _ _ (by omega) (by omega) g)
              rw [hgFn _ hne, x1 17 _ (by omega) (by omega) (by omega) (by omega) (by omega), x1 18 _ (by omega) (by omega) (by omega) (by omega) (by omega), x1 19 _ (by omega) (by omega) (by omega) (by omega) (by omega), x1 20 _ (by omega) (by omega) (by omega) (by omega) (by omega), x1 21 _ (by omega) (by omega) (by omega) (by omega) (by omega), x1 22 _ (by omega) (by omega) (by omega) (by omega) (by omega)]
              exact s4 j (by omega)
          · rw [y1 0 5 (by omega) (by omega), x1 13 i' (by omega) (by omega) (by omega) (by omega) (by omega)]; exact s6
          · obtain ⟨ls, w1, w2⟩ := s7.2
            rw [y4, w2]
            by_cases g : r = 0
            · rw [if_pos g, nI_1]; exact ⟨ls + 1, by omega, rfl⟩
            · rw [if_neg g]; exact ⟨ls, by omega, rfl⟩
        · have gi' := g1 i' hi'
          simp only [va_up_ne _ _ he] at gi' ⊢
          refine gi'.cg (c2.own (fun g => he g.symm) (by omega)) (by rw [x8 i', if_neg he]) rfl (x1 13 i' (by omega) (by omega) (by omega) (by omega) (by omega)) (fun j hj => hgFn _ (fun g => ?_)) (fun q g => by rw [hLP]; exact g) (fun j _ => by rw [hO])
          have e1 := (gi'.2.2.1.2.1 j hj).2.2
          rw [g, o3] at e1
          exact fo_ne g8 hi hi' (fun g => he g.symm) (Option.some.inj e1)
      · exact (show QC gu ql w hd o lf (va_up L i L1) (bSend b0 (L1 (m i)) (s i) t (d i) (if m i = 0 then nI t else a0.1 0 8) (if lm = 0 then 0 else 1)) from g4).app (m := m) (by omega) c1 d1 d2 d3 d4 d5 (fun _ => by rw [if_neg (by omega), va_up_self]) (fun _ => h3.2 i hi)

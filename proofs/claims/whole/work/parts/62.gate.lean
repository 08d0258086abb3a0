/-! the gate: reading what a write left -/
theorem b_IP (b : jGS) (j : Nat) (v : Int32) (k2 : Nat) : gI (gP b j v) k2 = if k2 = j then v else gI b k2 := rfl
theorem b_IS (b : jGS) (r : Option Nat) : gI (gS b r) = gI b := rfl
theorem b_IL (b : jGS) (j : Nat) (r : Option Nat) : gI (gL b j r) = gI b := rfl
theorem b_IF (b : jGS) (q k : Nat) (v : Int32) : gI (gFP b q k v) = gI b := rfl
theorem b_IO (b : jGS) (q : Nat) (r : Option Nat) : gI (gOP b q r) = gI b := rfl
theorem b_IN (b : jGS) (q : Nat) : gI (gNew b q) = gI b := rfl
theorem b_VP (b : jGS) (j : Nat) (v : Int32) : gV (gP b j v) = gV b := rfl
theorem b_VS (b : jGS) (r : Option Nat) : gV (gS b r) = r := rfl
theorem b_VL (b : jGS) (j : Nat) (r : Option Nat) : gV (gL b j r) = gV b := rfl
theorem b_VF (b : jGS) (q k : Nat) (v : Int32) : gV (gFP b q k v) = gV b := rfl
theorem b_VO (b : jGS) (q : Nat) (r : Option Nat) : gV (gOP b q r) = gV b := rfl
theorem b_VN (b : jGS) (q : Nat) : gV (gNew b q) = gV b := rfl
theorem b_LnP (b : jGS) (j : Nat) (v : Int32) : gLn (gP b j v) = gLn b := rfl
theorem b_LnS (b : jGS) (r : Option Nat) : gLn (gS b r) = gLn b := rfl
theorem b_LnL (b : jGS) (j : Nat) (r : Option Nat) (k2 : Nat) : gLn (gL b j r) k2 = if k2 = j then r else gLn b k2 := rfl
theorem b_LnF (b : jGS) (q k : Nat) (v : Int32) : gLn (gFP b q k v) = gLn b := rfl
theorem b_LnO (b : jGS) (q : Nat) (r : Option Nat) : gLn (gOP b q r) = gLn b := rfl
theorem b_LnN (b : jGS) (q : Nat) : gLn (gNew b q) = gLn b := rfl
theorem b_LPP (b : jGS) (j : Nat) (v : Int32) : gLP (gP b j v) = gLP b := rfl
theorem b_LPS (b : jGS) (r : Option Nat) : gLP (gS b r) = gLP b := rfl
theorem b_LPL (b : jGS) (j : Nat) (r : Option Nat) : gLP (gL b j r) = gLP b := rfl
theorem b_LPF (b : jGS) (q k : Nat) (v : Int32) : gLP (gFP b q k v) = gLP b := rfl
theorem b_LPO (b : jGS) (q : Nat) (r : Option Nat) : gLP (gOP b q r) = gLP b := rfl
theorem b_LPN (b : jGS) (q : Nat) : gLP (gNew b q) = gLP b ++ [q] := rfl
theorem b_FP (b : jGS) (j : Nat) (v : Int32) : gF (gP b j v) = gF b := rfl
theorem b_FS (b : jGS) (r : Option Nat) : gF (gS b r) = gF b := rfl
theorem b_FL (b : jGS) (j : Nat) (r : Option Nat) : gF (gL b j r) = gF b := rfl
theorem b_FF (b : jGS) (q k : Nat) (v : Int32) (q2 k2 : Nat) : gF (gFP b q k v) q2 k2 = if q2 = q ∧ k2 = k then v else gF b q2 k2 := by
  show pt b.2.2.2.2.1 q k v q2 k2 = _
  unfold pt gF
  by_cases h : q2 = q
  · subst h
    simp [upd]
  · simp [h]
theorem b_FO (b : jGS) (q : Nat) (r : Option Nat) : gF (gOP b q r) = gF b := rfl
theorem b_FN (b : jGS) (q : Nat) (q2 k2 : Nat) : gF (gNew b q) q2 k2 = if q2 = q then 0 else gF b q2 k2 := by
  show va_up b.2.2.2.2.1 q (fun _ => 0) q2 k2 = _
  unfold va_up gF
  by_cases h : q2 = q
  · simp [h]
  · simp [h]
theorem b_OP (b : jGS) (j : Nat) (v : Int32) : gO (gP b j v) = gO b := rfl
theorem b_OS (b : jGS) (r : Option Nat) : gO (gS b r) = gO b := rfl
theorem b_OL (b : jGS) (j : Nat) (r : Option Nat) : gO (gL b j r) = gO b := rfl
theorem b_OF (b : jGS) (q k : Nat) (v : Int32) : gO (gFP b q k v) = gO b := rfl
theorem b_OO (b : jGS) (q : Nat) (r : Option Nat) (q2 : Nat) : gO (gOP b q r) q2 = if q2 = q then r else gO b q2 := rfl
theorem b_ON (b : jGS) (q : Nat) (q2 : Nat) : gO (gNew b q) q2 = if q2 = q then none else gO b q2 := rfl
/-! the line before the gate: entry 0 is served, the others wait; o k = whose letter the entry is (2: a guest's) -/
def cn (o : Nat → Nat) (i : Nat) : Nat → Nat
  | 0 => 0
  | k + 1 => cn o i k + if o k = i then 1 else 0
theorem cn_shift (o : Nat → Nat) (i : Nat) : ∀ k, cn o i (k + 1) = (if o 0 = i then 1 else 0) + cn (fun k => o (k + 1)) i k := by
  intro k
  induction k with
  | zero => simp [cn]
  | succ k ih =>
    rw [show cn o i (k + 1 + 1) = cn o i (k + 1) + (if o (k + 1) = i then 1 else 0) from rfl, ih]
    rw [show cn (fun k => o (k + 1)) i (k + 1) = cn (fun k => o (k + 1)) i k + (if o (k + 1) = i then 1 else 0) from rfl]
    omega
theorem cn_cg {o o' : Nat → Nat} {i : Nat} : ∀ k, (∀ k', k' < k → o' k' = o k') → cn o' i k = cn o i k := by
  intro k
  induction k with
  | zero => intro _; rfl
  | succ k ih =>
    intro h
    show cn o' i k + (if o' k = i then 1 else 0) = cn o i k + (if o k = i then 1 else 0)
    rw [ih (fun k' g => h k' (by omega)), h k (by omega)]
theorem cn_le (o : Nat → Nat) (i : Nat) : ∀ k, cn o i k ≤ k := by
  intro k
  induction k with
  | zero => simp [cn]
  | succ k ih =>
    show cn o i k + (if o k = i then 1 else 0) ≤ k + 1
    by_cases h : o k = i
    · rw [if_pos h]; omega
    · rw [if_neg h]; omega
theorem cn_mono (o : Nat → Nat) (i k : Nat) : ∀ n, cn o i k ≤ cn o i (k + n) := by
  intro n
  induction n with
  | zero => exact Nat.le_refl _
  | succ n ih =>
    show cn o i k ≤ cn o i (k + n) + (if o (k + n) = i then 1 else 0)
    omega
theorem cn_lt {o : Nat → Nat} {i k k' : Nat} (h : k < k') (ho : o k = i) : cn o i k < cn o i k' := by
  have h1 := cn_mono o i (k + 1) (k' - (k + 1))
  rw [show k + 1 + (k' - (k + 1)) = k' by omega] at h1
  have h2 : cn o i (k + 1) = cn o i k + 1 := by show cn o i k + (if o k = i then 1 else 0) = _; rw [if_pos ho]
  omega
def qof (σ : jRS) (k : Nat) : Int32 := if k = 0 then σ.1 0 5 else σ.1 10 (k - 1)
def qnum (σ : jRS) (k : Nat) : Int32 := if k = 0 then σ.1 0 6 else σ.1 11 (k - 1)
def qcl (b : jGS) (hd k : Nat) : Option Nat := if k = 0 then gV b else gLn b ((hd + (k - 1)) % 60)
/-- the reference's gate: sizes -/
def QS (ql w rm dl : Nat) (σ : jRS) : Prop := σ.1 0 8 = nI w ∧ w ≤ 60 ∧ σ.1 0 2 = nI rm ∧ rm ≤ 60 ∧ σ.1 0 3 = nI dl ∧ 1 ≤ dl ∧ dl ≤ 200 ∧ ((ql = 0 ∧ w = 0 ∧ σ.1 0 5 = 3) ∨ ql = w + 1)
/-- its entries -/
def QA (ql : Nat) (o lf m : Nat → Nat) (σ : jRS) : Prop := (∀ k, k < ql → o k < 3 ∧ qof σ k = nI (o k) ∧ (o k < 2 → qnum σ k = σ.1 17 (512 * o k + (lf (o k) + cn o (o k) k)))) ∧ ∀ i, i < 2 → lf i + cn o i ql = m i
/-- the class's gate -/
def QC (gu ql w hd : Nat) (o lf : Nat → Nat) (L : Nat → Nat → Nat) (b : jGS) : Prop := gI b 7 = nI w ∧ gI b 6 = nI hd ∧ hd < 60 ∧ (ql = 0 → gV b = none) ∧ ∀ k, k < ql → qcl b hd k = some (if o k = 2 then gu else L (o k) (lf (o k) + cn o (o k) k))
/-- plain numbers of both gates -/
def GS (b : jGS) (σ : jRS) : Prop := gI b 0 = σ.1 0 1 ∧ gI b 1 = σ.1 0 2 ∧ gI b 2 = σ.1 0 3 ∧ gI b 4 = σ.1 0 7 ∧ gI b 8 = σ.1 0 9 ∧ gI b 9 = σ.1 13 2 ∧ gI b 10 = σ.1 0 12
theorem QS.srv {ql w rm dl : Nat} {σ : jRS} {o lf m : Nat → Nat} (h : QS ql w rm dl σ) (hA : QA ql o lf m σ) : (σ.1 0 5 = 3 ↔ ql = 0) := by
  have h8 := h.2.2.2.2.2.2.2
  constructor
  · intro g
    rcases h8 with h8 | h8
    · exact h8.1
    · exfalso
      obtain ⟨q1, q2, q3⟩ := hA.1 0 (by omega)
      unfold qof at q2
      rw [if_pos rfl, g, show (3 : Int32) = nI 3 from rfl] at q2
      have := (neq (by omega) (by omega)).1 q2
      omega
  · intro g
    rcases h8 with h8 | h8
    · exact h8.2.2
    · omega
/-- the reference's shift of the waiting -/
theorem q_leaves96 {N w : Nat} : ∀ (n p : Nat) (s : jRS), s.1 0 8 = nI w → w ≤ 60 → p ≤ w → w + 1 ≤ p + n → ∃ σ', (∀ k j, ¬ ((k = 10 ∨ k = 11) ∧ p ≤ j ∧ j < w) → σ'.1 k j = s.1 k j) ∧ (∀ k j, (k = 10 ∨ k = 11) → p ≤ j → j < w → σ'.1 k j = s.1 k (j + 1)) ∧ σ'.2 = s.2 ∧ ∀ post, post σ' → wX7_leaves_96 N n s (nI p) post := by
  intro n
  induction n with
  | zero => intro p s g1 g2 g3 g4; omega
  | succ n ih =>
    intro p s g1 g2 g3 g4
    by_cases hp : p = w
    · refine ⟨s, fun _ _ _ => rfl, fun k j q1 q2 q3 => by omega, rfl, fun post h => ?_⟩
      unfold wX7_leaves_96
      rw [g1]
      exact pk_le w p (fun _ => h) (fun g => by omega)
    · obtain ⟨σ', w1, w2, w3, w4⟩ := ih (p + 1) (rP (rP s 10 p (s.1 10 (p + 1))) 11 p (s.1 11 (p + 1))) (by simp only [rP_rd]; grind) g2 (by omega) (by omega)
      refine ⟨σ', fun k j q1 => ?_, fun k j q1 q2 q3 => ?_, by rw [w3]; rfl, fun post h => ?_⟩
      · rw [w1 k j (by omega)]; simp only [rP_rd]; grind
      · by_cases hj : j = p
        · subst hj
          rw [w1 k j (by omega)]
          rcases q1 with rfl | rfl
          · simp only [rP_rd]; grind
          · simp only [rP_rd]; grind
        · rw [w2 k j q1 (by omega) q3]; simp only [rP_rd]; grind
      · unfold wX7_leaves_96
        rw [g1]
        refine pk_le w p (fun g => by omega) (fun _ => ?_)
        rw [nI_1, cl (show p + 1 < 2 ^ 31 by omega), cl (show p < 2 ^ 31 by omega)]
        have i1 : vp_in (nI (p + 1)) 64 := vp_in_nI (by omega) (by omega)
        have i2 : vp_in (nI p) 64 := vp_in_nI (by omega) (by omega)
        refine ⟨i1, fun v ev => ⟨i2, fun s1 e1 => ⟨i1, fun v2 ev2 => ⟨i2, fun s2 e2 x e => ?_⟩⟩⟩⟩
        have ev2' : v2 = s.1 11 (p + 1) := by rw [ev2, e1]; simp only [rP_rd]; grind
        subst ev ev2' e2 e1 e
        exact w4 post h
/-- the next one is served, both sides -/
theorem p_next {N gu ql w rm dl hd t : Nat} {o lf m : Nat → Nat} {L : Nat → Nat → Nat} {a : jSS} {b : jGS} {σ : jRS} (hN : 100 ≤ N) (hnow : σ.1 0 0 = nI t) (hS : QS ql w rm dl σ) (hA : QA ql o lf m σ) (hC : QC gu ql w hd o lf L b) (hG : GS b σ) (hq : ql = w + 1) : ∃ (w' hd' : Nat) (b' : jGS) (σ' : jRS), QS (ql - 1) w' rm dl σ' ∧ QA (ql - 1) (fun k => o (k + 1)) (fun i => lf i + if o 0 = i then 1 else 0) m σ' ∧ QC gu (ql - 1) w' hd' (fun k => o (k + 1)) (fun i => lf i + if o 0 = i then 1 else 0) L b' ∧ GS b' σ' ∧ (∀ k j, k ≠ 10 → k ≠ 11 → ¬ (k = 0 ∧ (j = 5 ∨ j = 6 ∨ j = 7 ∨ j = 8)) → σ'.1 k j = σ.1 k j) ∧ σ'.2 = σ.2 ∧ gLP b' = gLP b ∧ gF b' = gF b ∧ gO b' = gO b ∧ (∀ P : jSS → jGS → Prop, P a b' → wX1_serveFirstWaiting N a (gS b none) (nI t) P) ∧ ∀ post, post σ' → wX7_leaves_56 N σ post := by
  obtain ⟨s1, s2, s3, s4, s5, s6, s7, s8⟩ := hS
  obtain ⟨A1, A2⟩ := hA
  obtain ⟨c1, c2, c3, c4, c5⟩ := hC
  obtain ⟨G1, G2, G3, G4, G5, G6, G7⟩ := hG
  have hcn : ∀ i k, (lf i + if o 0 = i then 1 else 0) + cn (fun k => o (k + 1)) i k = lf i + cn o i (k + 1) := fun i k => by rw [cn_shift]; omega
  by_cases hw : w = 0
  · refine ⟨0, hd, gS b none, rP σ 0 5 3, ⟨?_, by omega, ?_, s4, ?_, s6, s7, .inl ⟨by omega, rfl, ?_⟩⟩, ⟨fun k hk => by omega, fun i hi => ?_⟩, ⟨?_, ?_, c3, fun _ => rfl, fun k hk => by omega⟩, ⟨?_, ?_, ?_, ?_, ?_, ?_, ?_⟩, fun k j g1 g2 g3 => ?_, rfl, rfl, rfl, rfl, fun P hP => ?_, fun post h => ?_⟩
    · simp only [rP_rd]; rw [← hw]; grind
    · simp only [rP_rd]; grind
    · simp only [rP_rd]; grind
    · simp only [rP_rd]; grind
    · have := A2 i hi
      have h2 := hcn i (ql - 1)
      rw [show ql - 1 + 1 = ql by omega] at h2
      dsimp only
      omega
    · rw [b_IS, c1, hw]
    · rw [b_IS, c2]
    · rw [b_IS]; simp only [rP_rd]; grind
    · rw [b_IS]; simp only [rP_rd]; grind
    · rw [b_IS]; simp only [rP_rd]; grind
    · rw [b_IS]; simp only [rP_rd]; grind
    · rw [b_IS]; simp only [rP_rd]; grind
    · rw [b_IS]; simp only [rP_rd]; grind
    · rw [b_IS]; simp only [rP_rd]; grind
    · simp only [rP_rd]; grind
    · unfold wX1_serveFirstWaiting
      rw [b_IS, c1, hw]
      exact ⟨fun _ => hP, fun hh => absurd (by decide) hh⟩
    · unfold wX7_leaves_56
      intro s es
      have h8 : s.1 0 8 = nI 0 := by rw [es]; simp only [rP_rd]; rw [← hw]; grind
      rw [h8]
      refine ⟨fun _ => ?_, fun hh => absurd (by decide) hh⟩
      subst es
      exact h
  · -- the first waiting is served
    have hz : (0 : Int32).toNatClampNeg = 0 := by decide
    obtain ⟨q1, q2, q3⟩ := A1 1 (by omega)
    have hqc := c5 1 (by omega)
    unfold qcl at hqc
    rw [if_neg (by omega), show (hd + (1 - 1)) % 60 = hd by omega] at hqc
    obtain ⟨y, hy⟩ : ∃ y, y = (if o 1 = 2 then gu else L (o 1) (lf (o 1) + cn o (o 1) 1)) := ⟨_, rfl⟩
    rw [← hy] at hqc
    obtain ⟨σ1, w1, w2, w3, w4⟩ := q_leaves96 (N := N) (w := w - 1) N 0 (rP (rP (rP (rP (rP σ 0 5 3) 0 5 (σ.1 10 0)) 0 6 (σ.1 11 0)) 0 7 (nI t + σ.1 0 1)) 0 8 (nI (w - 1))) (by simp only [rP_rd]; grind) (by omega) (by omega) (by omega)
    have r0 : ∀ k j, k ≠ 10 → k ≠ 11 → ¬ (k = 0 ∧ (j = 5 ∨ j = 6 ∨ j = 7 ∨ j = 8)) → σ1.1 k j = σ.1 k j := fun k j g1 g2 g3 => by rw [w1 k j (by omega)]; simp only [rP_rd]; grind
    have r5 : σ1.1 0 5 = σ.1 10 0 := by rw [w1 0 5 (by omega)]; simp only [rP_rd]; grind
    have r6 : σ1.1 0 6 = σ.1 11 0 := by rw [w1 0 6 (by omega)]; simp only [rP_rd]; grind
    have r7 : σ1.1 0 7 = nI t + σ.1 0 1 := by rw [w1 0 7 (by omega)]; simp only [rP_rd]; grind
    have r8 : σ1.1 0 8 = nI (w - 1) := by rw [w1 0 8 (by omega)]; simp only [rP_rd]; grind
    have r10 : ∀ j, j < w - 1 → σ1.1 10 j = σ.1 10 (j + 1) := fun j g => by rw [w2 10 j (by omega) (by omega) g]; simp only [rP_rd]; grind
    have r11 : ∀ j, j < w - 1 → σ1.1 11 j = σ.1 11 (j + 1) := fun j g => by rw [w2 11 j (by omega) (by omega) g]; simp only [rP_rd]; grind
    have hof : ∀ k, k < w → qof σ1 k = qof σ (k + 1) := fun k g => by
      unfold qof
      by_cases hk : k = 0
      · subst hk; rw [if_pos rfl, if_neg (by omega), r5]
      · rw [if_neg hk, if_neg (by omega), r10 (k - 1) (by omega), show k - 1 + 1 = k + 1 - 1 by omega]
    have hnm : ∀ k, k < w → qnum σ1 k = qnum σ (k + 1) := fun k g => by
      unfold qnum
      by_cases hk : k = 0
      · subst hk; rw [if_pos rfl, if_neg (by omega), r6]
      · rw [if_neg hk, if_neg (by omega), r11 (k - 1) (by omega), show k - 1 + 1 = k + 1 - 1 by omega]
    refine ⟨w - 1, (hd + 1) % 60, gP (gP (gL (gP (gS (gS b none) (some y)) 4 (nI t + gI b 0)) hd none) 6 (nI ((hd + 1) % 60))) 7 (nI (w - 1)), σ1, ⟨r8, by omega, by rw [r0 0 2 (by omega) (by omega) (by omega)]; exact s3, s4, by rw [r0 0 3 (by omega) (by omega) (by omega)]; exact s5, s6, s7, .inr (by omega)⟩, ⟨fun k hk => ?_, fun i hi => ?_⟩, ⟨?_, ?_, by omega, fun hh => by omega, fun k hk => ?_⟩, ⟨?_, ?_, ?_, ?_, ?_, ?_, ?_⟩, r0, by rw [w3]; rfl, rfl, rfl, rfl, fun P hP => ?_, fun post h => ?_⟩
    · obtain ⟨p1, p2, p3⟩ := A1 (k + 1) (by omega)
      refine ⟨p1, by rw [hof k (by omega)]; exact p2, fun g => ?_⟩
      rw [hnm k (by omega), p3 g, r0 17 _ (by omega) (by omega) (by omega)]
      have := hcn (o (k + 1)) k
      dsimp only
      rw [this]
    · have := A2 i hi
      have h2 := hcn i (ql - 1)
      rw [show ql - 1 + 1 = ql by omega] at h2
      dsimp only
      omega
    · simp only [b_IP, b_IS, b_IL, b_IF, b_IO, b_IN, b_VP, b_VS, b_VL, b_VF, b_VO, b_VN, b_LnP, b_LnS, b_LnL, b_LnF, b_LnO, b_LnN, b_LPP, b_LPS, b_LPL, b_LPF, b_LPO, b_LPN, b_FP, b_FS, b_FL, b_FF, b_FO, b_FN, b_OP, b_OS, b_OL, b_OF, b_OO, b_ON]; grind
    · simp only [b_IP, b_IS, b_IL, b_IF, b_IO, b_IN, b_VP, b_VS, b_VL, b_VF, b_VO, b_VN, b_LnP, b_LnS, b_LnL, b_LnF, b_LnO, b_LnN, b_LPP, b_LPS, b_LPL, b_LPF, b_LPO, b_LPN, b_FP, b_FS, b_FL, b_FF, b_FO, b_FN, b_OP, b_OS, b_OL, b_OF, b_OO, b_ON]; grind
    · have h5 := c5 (k + 1) (by omega)
      have h6 := hcn (o (k + 1)) k
      dsimp only
      rw [h6, ← h5]
      unfold qcl
      by_cases hk0 : k = 0
      · subst hk0
        rw [if_pos rfl, if_neg (by omega), show (hd + (0 + 1 - 1)) % 60 = hd by omega, hqc]
        rfl
      · rw [if_neg hk0, if_neg (by omega)]
        simp only [b_IP, b_IS, b_IL, b_IF, b_IO, b_IN, b_VP, b_VS, b_VL, b_VF, b_VO, b_VN, b_LnP, b_LnS, b_LnL, b_LnF, b_LnO, b_LnN, b_LPP, b_LPS, b_LPL, b_LPF, b_LPO, b_LPN, b_FP, b_FS, b_FL, b_FF, b_FO, b_FN, b_OP, b_OS, b_OL, b_OF, b_OO, b_ON]
        rw [if_neg (by omega)]
        congr 1
        omega
    · simp only [b_IP, b_IS, b_IL, b_IF, b_IO, b_IN, b_VP, b_VS, b_VL, b_VF, b_VO, b_VN, b_LnP, b_LnS, b_LnL, b_LnF, b_LnO, b_LnN, b_LPP, b_LPS, b_LPL, b_LPF, b_LPO, b_LPN, b_FP, b_FS, b_FL, b_FF, b_FO, b_FN, b_OP, b_OS, b_OL, b_OF, b_OO, b_ON]; rw [r0 0 1 (by omega) (by omega) (by omega)]; grind
    · simp only [b_IP, b_IS, b_IL, b_IF, b_IO, b_IN, b_VP, b_VS, b_VL, b_VF, b_VO, b_VN, b_LnP, b_LnS, b_LnL, b_LnF, b_LnO, b_LnN, b_LPP, b_LPS, b_LPL, b_LPF, b_LPO, b_LPN, b_FP, b_FS, b_FL, b_FF, b_FO, b_FN, b_OP, b_OS, b_OL, b_OF, b_OO, b_ON]; rw [r0 0 2 (by omega) (by omega) (by omega)]; grind
    · simp only [b_IP, b_IS, b_IL, b_IF, b_IO, b_IN, b_VP, b_VS, b_VL, b_VF, b_VO, b_VN, b_LnP, b_LnS, b_LnL, b_LnF, b_LnO, b_LnN, b_LPP, b_LPS, b_LPL, b_LPF, b_LPO, b_LPN, b_FP, b_FS, b_FL, b_FF, b_FO, b_FN, b_OP, b_OS, b_OL, b_OF, b_OO, b_ON]; rw [r0 0 3 (by omega) (by omega) (by omega)]; grind
    · simp only [b_IP, b_IS, b_IL, b_IF, b_IO, b_IN, b_VP, b_VS, b_VL, b_VF, b_VO, b_VN, b_LnP, b_LnS, b_LnL, b_LnF, b_LnO, b_LnN, b_LPP, b_LPS, b_LPL, b_LPF, b_LPO, b_LPN, b_FP, b_FS, b_FL, b_FF, b_FO, b_FN, b_OP, b_OS, b_OL, b_OF, b_OO, b_ON]; rw [r7, ← G1]; grind
    · simp only [b_IP, b_IS, b_IL, b_IF, b_IO, b_IN, b_VP, b_VS, b_VL, b_VF, b_VO, b_VN, b_LnP, b_LnS, b_LnL, b_LnF, b_LnO, b_LnN, b_LPP, b_LPS, b_LPL, b_LPF, b_LPO, b_LPN, b_FP, b_FS, b_FL, b_FF, b_FO, b_FN, b_OP, b_OS, b_OL, b_OF, b_OO, b_ON]; rw [r0 0 9 (by omega) (by omega) (by omega)]; grind
    · simp only [b_IP, b_IS, b_IL, b_IF, b_IO, b_IN, b_VP, b_VS, b_VL, b_VF, b_VO, b_VN, b_LnP, b_LnS, b_LnL, b_LnF, b_LnO, b_LnN, b_LPP, b_LPS, b_LPL, b_LPF, b_LPO, b_LPN, b_FP, b_FS, b_FL, b_FF, b_FO, b_FN, b_OP, b_OS, b_OL, b_OF, b_OO, b_ON]; rw [r0 13 2 (by omega) (by omega) (by omega)]; grind
    · simp only [b_IP, b_IS, b_IL, b_IF, b_IO, b_IN, b_VP, b_VS, b_VL, b_VF, b_VO, b_VN, b_LnP, b_LnS, b_LnL, b_LnF, b_LnO, b_LnN, b_LPP, b_LPS, b_LPL, b_LPF, b_LPO, b_LPN, b_FP, b_FS, b_FL, b_FF, b_FO, b_FN, b_OP, b_OS, b_OL, b_OF, b_OO, b_ON]; rw [r0 0 12 (by omega) (by omega) (by omega)]; grind
    · unfold wX1_serveFirstWaiting
      simp only [b_IS, b_LnS, c1, c2, cl (show hd < 2 ^ 31 by omega)]
      refine pk_le w 0 (fun g => by omega) (fun _ => ⟨fun hh => absurd hh (nI_pos (by omega)), fun _ => pk_lt hd 60 (fun _ => ⟨vp_in_nI c3 (by omega), fun hh => ?_, fun q hq2 => ?_⟩) (fun g => by omega)⟩)
      · rw [hqc] at hh; exact absurd hh (by simp)
      · rw [hqc] at hq2
        cases hq2
        unfold wX1_serve
        refine ⟨fun hh => absurd hh (by simp), fun q9 e9 b1 e1 v ev b2 e2 => ?_⟩
        cases e9
        have e6 : gI b2 6 = nI hd := by rw [e2, e1]; simp only [b_IP, b_IS, b_IL, b_IF, b_IO, b_IN, b_VP, b_VS, b_VL, b_VF, b_VO, b_VN, b_LnP, b_LnS, b_LnL, b_LnF, b_LnO, b_LnN, b_LPP, b_LPS, b_LPL, b_LPF, b_LPO, b_LPN, b_FP, b_FS, b_FL, b_FF, b_FO, b_FN, b_OP, b_OS, b_OL, b_OF, b_OO, b_ON]; rw [if_neg (by omega)]; exact c2
        rw [e6, cl (show hd < 2 ^ 31 by omega)]
        refine ⟨vp_in_nI c3 (by omega), fun b3 e3 => ?_⟩
        have e63 : gI b3 6 = nI hd := by rw [e3, b_IL]; exact e6
        have e73 : gI b3 7 = nI w := by rw [e3, b_IL, e2, e1]; simp only [b_IP, b_IS, b_IL, b_IF, b_IO, b_IN, b_VP, b_VS, b_VL, b_VF, b_VO, b_VN, b_LnP, b_LnS, b_LnL, b_LnF, b_LnO, b_LnN, b_LPP, b_LPS, b_LPL, b_LPF, b_LPO, b_LPN, b_FP, b_FS, b_FL, b_FF, b_FO, b_FN, b_OP, b_OS, b_OL, b_OF, b_OO, b_ON]; rw [if_neg (by omega)]; exact c1
        have ev' : v = nI t + gI b 0 := by rw [ev, e1]; rfl
        rw [e63, nI_1]
        have tl : ∀ y0, y0 = nI ((hd + 1) % 60) → wX1_serveFirstWaiting_76 N a b3 y0 P := by
          intro y0 ey
          unfold wX1_serveFirstWaiting_76
          intro b4 e4 v2 ev2 b5 e5
          have ev2' : v2 = nI (w - 1) := by
            rw [ev2, e4]; simp only [b_IP, b_IS, b_IL, b_IF, b_IO, b_IN, b_VP, b_VS, b_VL, b_VF, b_VO, b_VN, b_LnP, b_LnS, b_LnL, b_LnF, b_LnO, b_LnN, b_LPP, b_LPS, b_LPL, b_LPF, b_LPO, b_LPN, b_FP, b_FS, b_FL, b_FF, b_FO, b_FN, b_OP, b_OS, b_OL, b_OF, b_OO, b_ON]; rw [if_neg (by omega), e73, show (1 : Int32) = nI 1 from rfl, pk_sub (by omega)]
          subst ev2' ey e5 e4 e3 e2 e1 ev'
          exact hP
        exact pk_le 60 (hd + 1) (fun g => tl 0 (by rw [show (hd + 1) % 60 = 0 by omega, nI_0])) (fun g => tl _ (by rw [show (hd + 1) % 60 = hd + 1 by omega]))
    · unfold wX7_leaves_56
      intro s es
      have h8 : s.1 0 8 = nI w := by rw [es]; simp only [rP_rd]; grind
      rw [h8, hz]
      refine pk_le w 0 (fun g => by omega) (fun _ => ?_)
      unfold wX7_serves
      intro t1 f1 t2 f2 v fv t3 f3 v2 fv2 t4 f4
      have d1 : s.1 10 0 = σ.1 10 0 := by rw [es]; simp only [rP_rd]; grind
      have d2 : s.1 11 0 = σ.1 11 0 := by rw [es]; simp only [rP_rd]; grind
      have d3 : v = nI t + σ.1 0 1 := by rw [fv, f2, f1, es]; simp only [rP_rd]; grind
      have d4 : v2 = nI (w - 1) := by
        have : t3.1 0 8 = nI w := by rw [f3, f2, f1, es]; simp only [rP_rd]; grind
        rw [fv2, this, show (1 : Int32) = nI 1 from rfl, pk_sub (by omega)]
      rw [d1] at f1
      rw [d2] at f2
      subst d3 d4 f4 f3 f2 f1 es
      exact w4 post h

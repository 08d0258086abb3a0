/-! ===== LAYER 2: the class's state against the reference's; no machine here ===== -/
theorem rP_rd (σ : jRS) (k j : Nat) (x : Int32) (k' j' : Nat) : (rP σ k j x).1 k' j' = if k' = k ∧ j' = j then x else σ.1 k' j' := by
  show pt σ.1 k j x k' j' = _
  unfold pt
  by_cases h : k' = k
  · subst h
    simp [upd]
  · simp [h]
theorem rP_2 (σ : jRS) (k j : Nat) (x : Int32) : (rP σ k j x).2 = σ.2 := rfl
theorem rL_1 (σ : jRS) (j : Nat) (x : Int64) : (rL σ j x).1 = σ.1 := rfl
theorem rL_2 (σ : jRS) (j : Nat) (x : Int64) (j' : Nat) : (rL σ j x).2 j' = if j' = j then x else σ.2 j' := rfl
theorem aP_rd (a : jSS) (k j : Nat) (x : Int32) (k' j' : Nat) : (aP a k j x).1 k' j' = if k' = k ∧ j' = j then x else a.1 k' j' := by
  show pt a.1 k j x k' j' = _
  unfold pt
  by_cases h : k' = k
  · subst h
    simp [upd]
  · simp [h]
theorem aP_2 (a : jSS) (k j : Nat) (x : Int32) : (aP a k j x).2 = a.2 := rfl
theorem ci {i : Nat} (hi : i < 2) : (nI i).toNatClampNeg = i := nI_clamp (by omega)
theorem vi {i : Nat} (hi : i < 2) : vp_in (nI i) 2 := vp_in_nI hi (by omega)
/-- which places of the reference's rows belong to sender i -/
def own (i k j : Nat) : Prop := 16 ≤ k ∧ (if k = 48 ∨ k = 49 then j / 12 = i else if 17 ≤ k ∧ k ≤ 22 then j / 512 = i else if k = 37 ∨ k = 38 then j / 8192 = i else j = i)
/-- nothing but sender i's places has changed -/
def FR (i : Nat) (σ σ' : jRS) : Prop := (∀ k j, ¬ own i k j → σ'.1 k j = σ.1 k j) ∧ ∀ j, j ≠ i → σ'.2 j = σ.2 j
theorem FR.rf {i : Nat} {σ : jRS} : FR i σ σ := ⟨fun _ _ _ => rfl, fun _ _ => rfl⟩
theorem FR.tr {i : Nat} {σ σ1 σ2 : jRS} (h1 : FR i σ σ1) (h2 : FR i σ1 σ2) : FR i σ σ2 := ⟨fun k j h => (h2.1 k j h).trans (h1.1 k j h), fun j h => (h2.2 j h).trans (h1.2 j h)⟩
theorem FR.put {i k j : Nat} {σ : jRS} {x : Int32} (h : own i k j) : FR i σ (rP σ k j x) := by
  refine ⟨fun k' j' h' => ?_, fun _ _ => rfl⟩
  rw [rP_rd, if_neg]
  rintro ⟨rfl, rfl⟩
  exact h' h
theorem FR.putL {i : Nat} {σ : jRS} {x : Int64} : FR i σ (rL σ i x) := ⟨fun _ _ _ => rfl, fun j h => by rw [rL_2, if_neg h]⟩
theorem own_s {i k : Nat} (h : 16 ≤ k) (h1 : ¬ (k = 48 ∨ k = 49)) (h2 : ¬ (17 ≤ k ∧ k ≤ 22)) (h3 : ¬ (k = 37 ∨ k = 38)) : own i k i := by
  refine ⟨h, ?_⟩
  rw [if_neg h1, if_neg h2, if_neg h3]
/-! scalars: what a sender's object and course hold, and the reference's rows at i -/
def SR (i : Nat) (a : jSS) (σ : jRS) : Prop :=
  a.1 0 3 = σ.1 23 i ∧ a.1 0 4 = σ.1 24 i ∧ a.1 0 6 = σ.1 34 i ∧ a.1 0 7 = σ.1 25 i ∧ a.1 0 8 = σ.1 26 i ∧ a.1 0 9 = σ.1 27 i ∧ a.1 0 10 = σ.1 28 i ∧ a.1 0 11 = σ.1 29 i ∧ a.1 0 12 = σ.1 30 i ∧ a.1 0 13 = σ.1 31 i ∧ a.1 0 14 = σ.1 32 i ∧ a.1 1 1 = σ.1 16 i ∧ a.2.1 = σ.2 i ∧ a.1 3 0 = σ.1 39 i ∧ (a.1 3 0 = 2 → a.1 3 1 = σ.1 40 i) ∧ (a.1 3 0 = 2 → a.1 3 2 = σ.1 41 i) ∧ (a.1 3 0 = 2 → a.1 3 3 = σ.1 42 i) ∧ a.1 3 5 = σ.1 44 i ∧ a.1 3 6 = σ.1 45 i ∧ a.1 3 7 = σ.1 46 i
/-- a number that is no end of numbers -/
def ENat (v : Int32) : Prop := ∃ en : Nat, en < 2 ^ 30 + 200 ∧ v = nI en
/-- the course beside the scalars: the end of PROBE, the phase's range, the truth value, losses that only grow -/
def CR (i : Nat) (a : jSS) (σ : jRS) : Prop :=
  (a.1 3 0 = 3 → (a.1 3 4 = -1 ∧ σ.1 43 i = -9) ∨ (a.1 3 4 = σ.1 43 i ∧ ¬ a.1 3 4 = -1 ∧ ¬ σ.1 43 i = -9 ∧ ENat (σ.1 43 i))) ∧ (∃ ph : Nat, ph < 8 ∧ σ.1 40 i = nI ph) ∧ (σ.1 44 i = 0 ∨ σ.1 44 i = 1) ∧ σ.1 42 i ≤ σ.1 34 i ∧ (σ.1 39 i = 0 ∨ σ.1 39 i = 1 ∨ σ.1 39 i = 2 ∨ σ.1 39 i = 3)
/-- turns: the class's row and the reference's, both the oldest first -/
def TR (i tn : Nat) (a : jSS) (σ : jRS) : Prop := (a.1 3 8 = nI tn ∧ a.1 3 9 = nI (min tn 12)) ∧ σ.1 47 i = nI tn ∧ ∀ j : Nat, j < tn → j < 12 → a.1 7 j = σ.1 48 (12 * i + j) ∧ a.1 8 j = σ.1 49 (12 * i + j)

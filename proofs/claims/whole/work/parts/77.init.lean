/-! the beginning -/
theorem r_0 {k i : Nat} (h0 : k ≠ 0) (h1 : k ≠ 31) (h2 : k ≠ 43) : rInit.1 k i = 0 := by
  simp only [rInit]
  rw [if_neg h0, if_neg h1, if_neg h2]
theorem MX_0 : MX (fun _ => 0) 0 0 0 := ⟨fun j h1 h2 => by omega, .inl rfl⟩
theorem KN_0 {i : Nat} (hi : i < 2) : KN i 0 0 aInit rInit := by
  have z : (0 : Int32) = nI 0 := nI_0.symm
  have r : ∀ k, k ≠ 0 → k ≠ 31 → k ≠ 43 → rInit.1 k i = 0 := fun k h0 h1 h2 => r_0 h0 h1 h2
  have r31 : rInit.1 31 i = -9 := by
    rcases (show i = 0 ∨ i = 1 by omega) with e | e
    · subst e; rfl
    · subst e; rfl
  refine ⟨0, 0, 0, 0, 0, 0, 0, fun _ => 0, fun _ => 0, fun _ => 0, fun _ => 0, ⟨⟨?_, ?_, ?_⟩, by omega, ?_, ?_, ?_, ?_, ?_, MX_0, ?_, by omega, by omega, ?_, by omega, fun _ => rfl, Nat.zero_le _, ?_, 0, by omega, ?_⟩, ⟨by omega, fun j hj => by omega, fun j j' _ h => by omega⟩, by omega⟩
  · unfold SR
    rw [r 23 (by omega) (by omega) (by omega), r 24 (by omega) (by omega) (by omega), r 34 (by omega) (by omega) (by omega), r 25 (by omega) (by omega) (by omega), r 26 (by omega) (by omega) (by omega), r 27 (by omega) (by omega) (by omega), r 28 (by omega) (by omega) (by omega), r 29 (by omega) (by omega) (by omega), r 30 (by omega) (by omega) (by omega), r31, r 32 (by omega) (by omega) (by omega), r 16 (by omega) (by omega) (by omega), r 39 (by omega) (by omega) (by omega), r 40 (by omega) (by omega) (by omega), r 41 (by omega) (by omega) (by omega), r 42 (by omega) (by omega) (by omega), r 44 (by omega) (by omega) (by omega), r 45 (by omega) (by omega) (by omega), r 46 (by omega) (by omega) (by omega)]
    exact ⟨rfl, rfl, rfl, rfl, rfl, rfl, rfl, rfl, rfl, rfl, rfl, rfl, rfl, rfl, fun _ => rfl, fun _ => rfl, fun _ => rfl, rfl, rfl, rfl⟩
  · refine ⟨fun h => absurd (show (0 : Int32) = 3 from h) (by decide), ⟨0, by omega, ?_⟩, ?_, ?_, ?_⟩
    · rw [r 40 (by omega) (by omega) (by omega)]; exact z
    · rw [r 44 (by omega) (by omega) (by omega)]; exact .inl rfl
    · rw [r 42 (by omega) (by omega) (by omega), r 34 (by omega) (by omega) (by omega)]; exact Int32.le_refl 0
    · rw [r 39 (by omega) (by omega) (by omega)]; exact .inl rfl
  · exact ⟨⟨z, z⟩, by rw [r 47 (by omega) (by omega) (by omega)]; exact z, fun j hj => by omega⟩
  · exact ⟨fun _ _ _ _ => Nat.le_refl 0, fun _ _ => rfl, rfl, fun _ _ => Nat.zero_le _, fun _ => Nat.two_pow_pos 31⟩
  · exact ⟨z, z, fun x _ _ => ⟨z, 0, z, MX_0⟩, fun j _ h => absurd h (Nat.not_lt_zero j)⟩
  · refine ⟨?_, ?_, fun j _ h => absurd h (Nat.not_lt_zero j)⟩
    · rw [r 35 (by omega) (by omega) (by omega)]; exact z
    · rw [r 36 (by omega) (by omega) (by omega)]; exact z
  · exact ⟨fun _ => Nat.two_pow_pos 30, fun x _ _ j h1 h2 => absurd h2 (Nat.not_lt_zero j)⟩
  · rw [r 30 (by omega) (by omega) (by omega)]; exact z
  · rw [r 28 (by omega) (by omega) (by omega)]; exact z
  · rw [r 29 (by omega) (by omega) (by omega)]; exact z
  · rw [r 25 (by omega) (by omega) (by omega)]; exact z
  · rw [r 27 (by omega) (by omega) (by omega)]; exact z
theorem JI_0 {fo0 fo1 gu : Nat} (hne : fo0 ≠ fo1) : JI fo0 fo1 gu 0 xInit aInit aInit (bInit gu) rInit := by
  have z : (0 : Int32) = nI 0 := nI_0.symm
  refine ⟨0, fun _ => 0, fun _ => 0, fun _ => 0, fun _ => 0, fun _ => 0, fun _ _ => 0, 0, 0, 20, 30, 0, fun _ => 0, fun _ => aInit, rfl, rfl, by omega, ⟨fun i hi => ?_, ?_, ?_, ?_, ?_, ?_, rfl, hne⟩, z, z, rfl, rfl, ⟨0, by omega, z⟩, ⟨0, by omega, z⟩, z, fun i hi => ⟨Nat.le_refl 0, Nat.zero_le _⟩⟩
  · show SI i _ 0 0 0 0 0 0 0 (fun _ => 0) aInit (bInit gu) rInit
    refine ⟨⟨?_, by omega, by omega, ⟨fun _ => 0, fun j hj => by omega, fun j j' _ h => by omega⟩, fun j hj => by omega, fun j _ h => by omega, fun j hj => by omega⟩, KN_0 hi, ⟨by omega, fun j hj => by omega, fun j _ _ => rfl, fun j j' h => by omega⟩, fun j hj => by omega, by omega, ?_, ?_, 0, by omega, z⟩
    · rw [r_0 (by omega) (by omega) (by omega)]; exact z
    · rw [r_0 (by omega) (by omega) (by omega)]; rfl
    · rw [r_0 (by omega) (by omega) (by omega)]; exact z
  · exact ⟨z, by omega, rfl, by omega, rfl, by omega, by omega, .inl ⟨rfl, rfl, rfl⟩⟩
  · exact ⟨fun k hk => by omega, fun i hi => rfl⟩
  · exact ⟨z, z, by omega, fun _ => rfl, fun k hk => by omega⟩
  · exact ⟨rfl, rfl, rfl, rfl, rfl, rfl, rfl⟩
  · exact List.mem_cons_self
theorem jTie_ok : ∀ fo0 fo1 gu : Nat, fo0 ≠ fo1 → ∃ (N : Nat) (I : Nat → jXS → jSS → jSS → jGS → jRS → Prop), I 0 xInit aInit aInit (bInit gu) rInit ∧ jTie N fo0 fo1 gu I := fun fo0 fo1 gu hne => by
  have hN : 8002 ≤ 8002 := Nat.le_refl _
  exact ⟨8002, JI fo0 fo1 gu, JI_0 hne,
    fun k x a0 a1 b σ p1 p2 p3 h hk => t_gate h,
    fun k x a0 a1 b σ p1 h hk => t_guests h,
    fun k x a0 a1 b σ p1 p2 h hk => t_stock h,
    fun k x a0 a1 b σ p1 h hk => t_pass hN h hk,
    fun k x a0 a1 b σ p1 h hk => t_ofGate h,
    fun k x a0 a1 b σ p1 h hk => t_busy hN hk h,
    fun k x a0 a1 b σ p1 p2 h hk => t_ofSender h,
    fun k x a0 a1 b σ p1 p2 p3 h hk => t_sample hN hk h,
    fun k x a0 a1 b σ p1 p2 h hk => t_best hN hk h,
    fun k x a0 a1 b σ p1 p2 p3 h hk => t_letter hN hk h,
    fun k x a0 a1 b σ p1 p2 h hk => t_phase hN hk h,
    fun k x a0 a1 b σ p1 p2 h hk => t_model hN hk h,
    fun k x a0 a1 b σ p1 p2 p3 h hk => t_turn hN hk h,
    fun k x a0 a1 b σ p1 h hk => t_many h,
    fun k x a0 a1 b σ h => h.suc⟩

/-! ===== static methods of ints alone ===== -/
def jwithin (v lo hi : Int32) : Int32 := if v < lo then 0 else if hi < v then 0 else 1
def jisSender (v : Int32) : Int32 := jwithin v 0 1
theorem jwithin_or (v lo hi : Int32) : jwithin v lo hi = 0 ∨ jwithin v lo hi = 1 := by
  unfold jwithin
  by_cases h1 : v < lo
  · simp [h1]
  · by_cases h2 : hi < v
    · simp [h1, h2]
    · simp [h1, h2]
def rmX7_within : Room := { frames := 0, cells := 0, slots := 0, locals := 0 }
def wX7_within (x0 : Int32) (x1 : Int32) (x2 : Int32) (post : Int32 → Unit → Prop) : Prop := ((x0 < x1) → (post 0 ())) ∧ ((¬ x0 < x1) → (((x2 < x0) → (post 0 ())) ∧ ((¬ x2 < x0) → (post 1 ()))))
set_option maxHeartbeats 4000000 in
set_option maxRecDepth 100000 in
theorem qX7_within {l : Launch} {D : va_G} {tys : List (ClassId × FieldType)} {x0 x1 x2 : Int32} {post : Int32 → Unit → Prop} (hw : wX7_within x0 x1 x2 post) : jMi l D tys jG0 yX7_within wsX7_within rmX7_within [.int x0, .int x1, .int x2] [] post (fun _ : Unit => []) 0 0 := by
  refine j_ofi (cc := cX7_within) (maxL := 3) (ret := (some .boolean)) (by decide) rfl (Nat.le_of_ble_eq_true rfl) ?_
  intro p e s m args below meth c A C hr hnm hG
  refine j_sub (lv' := [(0, .int x0), (1, .int x1), (2, .int x2)]) [0, 1, 2] rfl ?_
  unfold wX7_within at hw
  refine j_iload_n (pc := 0) C dX7_within_0 0 rfl rfl ?_
  refine j_iload_n (pc := 1) C dX7_within_1 1 rfl rfl ?_
  refine j_icmp_lt (pc := 2) C 14 dX7_within_2 (by decide) (fun z_1 => ?_) (fun z_1 => ?_)
  · have hw := hw.1 z_1
    refine j_iconst (pc := 14) (v := 0) C dX7_within_14 (by decide) ?_
    exact j_zret (pc := 15) C hr (by decide) () rfl hw dX7_within_15
  · have hw := hw.2 z_1
    refine j_iload_n (pc := 5) C dX7_within_5 0 rfl rfl ?_
    refine j_iload_n (pc := 6) C dX7_within_6 2 rfl rfl ?_
    refine j_icmp_gt (pc := 7) C 14 dX7_within_7 (by decide) (fun z_2 => ?_) (fun z_2 => ?_)
    · have hw := hw.1 z_2
      refine j_iconst (pc := 14) (v := 0) C dX7_within_14 (by decide) ?_
      exact j_zret (pc := 15) C hr (by decide) () rfl hw dX7_within_15
    · have hw := hw.2 z_2
      refine j_iconst (pc := 10) (v := 1) C dX7_within_10 (by decide) ?_
      refine j_goto (pc := 11) C 15 dX7_within_11 (by decide) ?_
      exact j_zret (pc := 15) C hr (by decide) () rfl hw dX7_within_15
theorem mX7_within {l : Launch} {D : va_G} {tys : List (ClassId × FieldType)} (x0 x1 x2 : Int32) : jMi l D tys jG0 yX7_within wsX7_within rmX7_within [.int x0, .int x1, .int x2] [] (fun r _ => r = jwithin x0 x1 x2) (fun _ : Unit => []) 0 0 :=
  qX7_within ⟨fun h => by simp [jwithin, h], fun h => ⟨fun h2 => by simp [jwithin, h, h2], fun h2 => by simp [jwithin, h, h2]⟩⟩
def rmX7_isSender : Room := { frames := 1, cells := 0, slots := 0, locals := 22 }
def wX7_isSender (x0 : Int32) (post : Int32 → Unit → Prop) : Prop := ∀ r_1 : Int32, r_1 = jwithin x0 0 1 → (r_1 = 0 ∨ r_1 = 1) ∧ post r_1 ()
set_option maxHeartbeats 4000000 in
set_option maxRecDepth 100000 in
theorem qX7_isSender {l : Launch} {D : va_G} {tys : List (ClassId × FieldType)} {x0 : Int32} {post : Int32 → Unit → Prop} (hw : wX7_isSender x0 post) : jMi l D tys jG0 yX7_isSender wsX7_isSender rmX7_isSender [.int x0] [] post (fun _ : Unit => []) 0 0 := by
  refine j_ofi (cc := cX7_isSender) (maxL := 1) (ret := (some .boolean)) (by decide) rfl (Nat.le_of_ble_eq_true rfl) ?_
  intro p e s m args below meth c A C hr hnm hG
  refine j_sub (lv' := [(0, .int x0)]) [0] rfl ?_
  unfold wX7_isSender at hw
  refine j_iload_n (pc := 0) C dX7_isSender_0 0 rfl rfl ?_
  refine j_iconst (pc := 1) (v := 0) C dX7_isSender_1 (by decide) ?_
  refine j_iconst (pc := 2) (v := 1) C dX7_isSender_2 (by decide) ?_
  refine j_scalli (pc := 3) C 3 (mX7_within x0 0 1) gX7_isSender_X7_within rfl rfl rfl (by decide +kernel) ⟨by decide, by decide⟩ rfl rfl (Nat.le_of_ble_eq_true rfl) dX7_isSender_3 ⟨Nat.le_refl _, Nat.le_refl _⟩ (fun r_1 er_1 => ?_)
  have hw := hw r_1 er_1
  exact j_zret (pc := 6) C hr hw.1 () rfl hw.2 dX7_isSender_6
theorem mX7_isSender {l : Launch} {D : va_G} {tys : List (ClassId × FieldType)} (x0 : Int32) : jMi l D tys jG0 yX7_isSender wsX7_isSender rmX7_isSender [.int x0] [] (fun r _ => r = jisSender x0) (fun _ : Unit => []) 0 0 :=
  qX7_isSender (fun r hr => ⟨by rw [hr]; exact jwithin_or _ _ _, hr⟩)
def rmX6_within : Room := { frames := 0, cells := 0, slots := 0, locals := 0 }
def wX6_within (x0 : Int32) (x1 : Int32) (x2 : Int32) (post : Int32 → Unit → Prop) : Prop := ((x0 < x1) → (post 0 ())) ∧ ((¬ x0 < x1) → (((x2 < x0) → (post 0 ())) ∧ ((¬ x2 < x0) → (post 1 ()))))
set_option maxHeartbeats 4000000 in
set_option maxRecDepth 100000 in
theorem qX6_within {l : Launch} {D : va_G} {tys : List (ClassId × FieldType)} {x0 x1 x2 : Int32} {post : Int32 → Unit → Prop} (hw : wX6_within x0 x1 x2 post) : jMi l D tys jG0 yX6_within wsX6_within rmX6_within [.int x0, .int x1, .int x2] [] post (fun _ : Unit => []) 0 0 := by
  refine j_ofi (cc := cX6_within) (maxL := 3) (ret := (some .boolean)) (by decide) rfl (Nat.le_of_ble_eq_true rfl) ?_
  intro p e s m args below meth c A C hr hnm hG
  refine j_sub (lv' := [(0, .int x0), (1, .int x1), (2, .int x2)]) [0, 1, 2] rfl ?_
  unfold wX6_within at hw
  refine j_iload_n (pc := 0) C dX6_within_0 0 rfl rfl ?_
  refine j_iload_n (pc := 1) C dX6_within_1 1 rfl rfl ?_
  refine j_icmp_lt (pc := 2) C 14 dX6_within_2 (by decide) (fun z_1 => ?_) (fun z_1 => ?_)
  · have hw := hw.1 z_1
    refine j_iconst (pc := 14) (v := 0) C dX6_within_14 (by decide) ?_
    exact j_zret (pc := 15) C hr (by decide) () rfl hw dX6_within_15
  · have hw := hw.2 z_1
    refine j_iload_n (pc := 5) C dX6_within_5 0 rfl rfl ?_
    refine j_iload_n (pc := 6) C dX6_within_6 2 rfl rfl ?_
    refine j_icmp_gt (pc := 7) C 14 dX6_within_7 (by decide) (fun z_2 => ?_) (fun z_2 => ?_)
    · have hw := hw.1 z_2
      refine j_iconst (pc := 14) (v := 0) C dX6_within_14 (by decide) ?_
      exact j_zret (pc := 15) C hr (by decide) () rfl hw dX6_within_15
    · have hw := hw.2 z_2
      refine j_iconst (pc := 10) (v := 1) C dX6_within_10 (by decide) ?_
      refine j_goto (pc := 11) C 15 dX6_within_11 (by decide) ?_
      exact j_zret (pc := 15) C hr (by decide) () rfl hw dX6_within_15
theorem mX6_within {l : Launch} {D : va_G} {tys : List (ClassId × FieldType)} (x0 x1 x2 : Int32) : jMi l D tys jG0 yX6_within wsX6_within rmX6_within [.int x0, .int x1, .int x2] [] (fun r _ => r = jwithin x0 x1 x2) (fun _ : Unit => []) 0 0 :=
  qX6_within ⟨fun h => by simp [jwithin, h], fun h => ⟨fun h2 => by simp [jwithin, h, h2], fun h2 => by simp [jwithin, h, h2]⟩⟩
def rmX6_asNumber : Room := { frames := 0, cells := 0, slots := 0, locals := 0 }
def wX6_asNumber (x0 : Int32) (post : Int32 → Unit → Prop) : Prop := ((x0 = 0) → (post 0 ())) ∧ ((¬ x0 = 0) → (post 1 ()))
set_option maxHeartbeats 4000000 in
set_option maxRecDepth 100000 in
theorem qX6_asNumber {l : Launch} {D : va_G} {tys : List (ClassId × FieldType)} {x0 : Int32} {post : Int32 → Unit → Prop} (hw : wX6_asNumber x0 post) : jMi l D tys jG0 yX6_asNumber wsX6_asNumber rmX6_asNumber [.int x0] [] post (fun _ : Unit => []) 0 0 := by
  refine j_ofi (cc := cX6_asNumber) (maxL := 1) (ret := (some .int)) (by decide) rfl (Nat.le_of_ble_eq_true rfl) ?_
  intro p e s m args below meth c A C hr hnm hG
  refine j_sub (lv' := [(0, .int x0)]) [0] rfl ?_
  unfold wX6_asNumber at hw
  refine j_iload_n (pc := 0) C dX6_asNumber_0 0 rfl rfl ?_
  refine j_if_eq (pc := 1) C 8 dX6_asNumber_1 (by decide) (fun z_1 => ?_) (fun z_1 => ?_)
  · have hw := hw.1 z_1
    refine j_iconst (pc := 8) (v := 0) C dX6_asNumber_8 (by decide) ?_
    exact j_iret (pc := 9) C hr () rfl hw dX6_asNumber_9
  · have hw := hw.2 z_1
    refine j_iconst (pc := 4) (v := 1) C dX6_asNumber_4 (by decide) ?_
    refine j_goto (pc := 5) C 9 dX6_asNumber_5 (by decide) ?_
    exact j_iret (pc := 9) C hr () rfl hw dX6_asNumber_9
def jasNumber (v : Int32) : Int32 := if v = 0 then 0 else 1
theorem mX6_asNumber {l : Launch} {D : va_G} {tys : List (ClassId × FieldType)} (x0 : Int32) : jMi l D tys jG0 yX6_asNumber wsX6_asNumber rmX6_asNumber [.int x0] [] (fun r _ => r = jasNumber x0) (fun _ : Unit => []) 0 0 :=
  qX6_asNumber ⟨fun h => by simp [jasNumber, h], fun h => by simp [jasNumber, h]⟩

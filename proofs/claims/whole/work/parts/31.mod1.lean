def rmX1_release : Room := { frames := 2, cells := 0, slots := 0, locals := 43 }
theorem hiX1_release_X1 : ∀ w ∈ u_ws RX1 TX1 12, w ∈ wsX1_release := by decide +kernel
theorem hiX1_release_X2 : ∀ w ∈ u_ws RX2 TX2 8, w ∈ wsX1_release := by decide +kernel
theorem hiX1_release_X5 : ∀ w ∈ u_ws RX5 TX5 16, w ∈ wsX1_release := by decide +kernel
theorem lkX1_release_41 : Cond.fieldLink yX1_release.cls 41 (TX1 3).1 (TX1 3).2.1 (TX1 3).2.2.1 ∈ wsX1_release := by decide +kernel
theorem lkX1_release_63 : Cond.fieldLink yX1_release.cls 63 (TX1 4).1 (TX1 4).2.1 (TX1 4).2.2.1 ∈ wsX1_release := by decide +kernel
theorem lkX1_release_66 : Cond.fieldLink yX1_release.cls 66 (TX2 0).1 (TX2 0).2.1 (TX2 0).2.2.1 ∈ wsX1_release := by decide +kernel
theorem lkX1_release_70 : Cond.fieldLink yX1_release.cls 70 (TX1 9).1 (TX1 9).2.1 (TX1 9).2.2.1 ∈ wsX1_release := by decide +kernel
theorem lkX1_release_73 : Cond.fieldLink yX1_release.cls 73 (TX5 5).1 (TX5 5).2.1 (TX5 5).2.2.1 ∈ wsX1_release := by decide +kernel
theorem lkX1_release_78 : Cond.fieldLink yX1_release.cls 78 (TX2 6).1 (TX2 6).2.1 (TX2 6).2.2.1 ∈ wsX1_release := by decide +kernel
theorem lkX1_release_18 : Cond.fieldLink yX1_release.cls 18 (TX1 2).1 (TX1 2).2.1 (TX1 2).2.2.1 ∈ wsX1_release := by decide +kernel
theorem lkX1_release_82 : Cond.fieldLink yX1_release.cls 82 (TX2 7).1 (TX2 7).2.1 (TX2 7).2.2.1 ∈ wsX1_release := by decide +kernel
def wX1_release_76 (N : Nat) (fo0 fo1 gu : Nat) (x : jXS) (a0 a1 : jSS) (b : jGS) (x1 : Int32) (post : jXS → jSS → jSS → jGS → Prop) : Prop := ∀ b_43 : jGS, b_43 = gS b none → wX1_serveFirstWaiting N a0 b_43 x1 (fun a_45 b_46 => post x a_45 a1 b_46)
set_option maxHeartbeats 4000000 in
set_option maxRecDepth 100000 in
theorem kX1_release_76 {p : Program} {l : Launch} {e : Env} {s : State} {m : MethodId} {args : Array Value} {below : List Frame} {meth : Method} {c : Code} {D : va_G} {cI cJ cZ cO : ClassId} {f0 f1 h : Nat → Nat} {ax : Nat} {A : Nat → Prop} {N : Nat} {post : jXS → jSS → jSS → jGS → Prop} (C : jC p s m args meth c cX1_release 2 yX1_release.cls wsX1_release D (jT cI cJ cZ cO) A) (hr : meth.sig.returnType = none) (hG : gz A s) (x : jXS) (a0 a1 : jSS) (b : jGS) (x1 : Int32) (hw : wX1_release_76 N (f0 0) (f1 0) (h 2) x a0 a1 b x1 post) : jJ p l e rmX1_release s m args below meth c 0 0 (MQ below (va_Qv (fun (u : jMS) => post u.1 u.2.1 u.2.2.1 u.2.2.2) (jE D (jT cI cJ cZ cO) A (mF f0 f1 h ax cI cO)) A) args s 0 0 A) D A 2 (acells f0 cI cO (bY h cO (scells f1 cI cO a1 ++ xcell h f0 f1 ax x) b) a0) [(0, .ref (h 0)), (1, .int x1)] 76 [] := by
  unfold wX1_release_76 at hw
  refine j_aload_n (pc := 76) C dX1_release_76 0 rfl rfl ?_
  refine j_aconst_null (pc := 77) C dX1_release_77 ?_
  refine j_put (pc := 78) C hiX1_release_X1 tyX1 tyX1_ok nmX1 10 (c_at10 f0 h cI cO (scells f1 cI cO a1 ++ xcell h f0 f1 ax x) a0 b) rfl 3 (by decide) lkX1_release_41 rfl rfl rfl (Nat.le_of_ble_eq_true rfl) dX1_release_78 (j_ws (c_s10_3N f0 h cI cO (scells f1 cI cO a1 ++ xcell h f0 f1 ax x) a0 b) ?_)
  refine j_nmB (fun b_43 eb_43 => ?_)
  have hw := hw b_43 eb_43
  refine j_aload_n (pc := 81) C dX1_release_81 0 rfl rfl ?_
  refine j_iload_n (pc := 82) C dX1_release_82 1 rfl rfl ?_
  refine j_callvB (pc := 83) C gz_ok hG 1 (mX1_serveFirstWaiting hw) gX1_release_X1_serveFirstWaiting rfl rfl rfl (by decide +kernel) ⟨Nat.le_of_ble_eq_true rfl, Nat.le_of_ble_eq_true rfl⟩ 10 (c_at10 f0 h cI cO (scells f1 cI cO a1 ++ xcell h f0 f1 ax x) a0 b_43) rfl rfl rfl (Nat.le_of_ble_eq_true rfl) dX1_release_83 ⟨Nat.le_refl _, Nat.le_refl _⟩ (fun a_45 b_46 hw => ?_)
  exact j_vret (pc := 86) C hr (x, a_45, a1, b_46) rfl hw dX1_release_86
def wX1_release (N : Nat) (fo0 fo1 gu : Nat) (x : jXS) (a0 a1 : jSS) (b : jGS) (x1 : Int32) (post : jXS → jSS → jSS → jGS → Prop) : Prop := ((gV b = none) → (post x a0 a1 b)) ∧ (∀ q_48 : Nat, gV b = some q_48 → ((((gI b 4) = x1) → (((gV b = none) → (False)) ∧ (∀ q_51 : Nat, gV b = some q_51 → (q_51 ∈ gLP b ∧ ((gO b q_51 = none) → (∀ v_55 : Int32, v_55 = (gI b 9) + 1 → ∀ b_56 : jGS, b_56 = gP b 9 v_55 → wX1_release_76 N fo0 fo1 gu x a0 a1 b_56 x1 post)) ∧ (∀ q_54 : Nat, gO b q_51 = some q_54 → (((gV b = none) → (False)) ∧ (∀ q_58 : Nat, gV b = some q_58 → (q_58 ∈ gLP b ∧ ((gO b q_58 = none) → (False)) ∧ (∀ q_61 : Nat, gO b q_58 = some q_61 → (((q_61 = fo0) → (∀ v_63 : Int32, v_63 = (a0.1 0 5) + 1 → ∀ a_64 : jSS, a_64 = aP a0 0 5 v_63 → ((gV b = none) → (False)) ∧ (∀ q_66 : Nat, gV b = some q_66 → (q_66 ∈ gLP b ∧ ∀ b_68 : jGS, b_68 = gFP b q_66 6 1 → ((gV b_68 = none) → (False)) ∧ (∀ q_70 : Nat, gV b_68 = some q_70 → (∀ v_71 : Int32, v_71 = x1 + (gI b_68 2) → q_70 ∈ gLP b_68 ∧ ∀ b_73 : jGS, b_73 = gFP b_68 q_70 7 v_71 → wX1_release_76 N fo0 fo1 gu x a_64 a1 b_73 x1 post)))))) ∧ ((¬ q_61 = fo0) → (q_61 = fo1 ∧ (∀ v_74 : Int32, v_74 = (a1.1 0 5) + 1 → ∀ a_75 : jSS, a_75 = aP a1 0 5 v_74 → ((gV b = none) → (False)) ∧ (∀ q_77 : Nat, gV b = some q_77 → (q_77 ∈ gLP b ∧ ∀ b_79 : jGS, b_79 = gFP b q_77 6 1 → ((gV b_79 = none) → (False)) ∧ (∀ q_81 : Nat, gV b_79 = some q_81 → (∀ v_82 : Int32, v_82 = x1 + (gI b_79 2) → q_81 ∈ gLP b_79 ∧ ∀ b_84 : jGS, b_84 = gFP b_79 q_81 7 v_82 → wX1_release_76 N fo0 fo1 gu x a0 a_75 b_84 x1 post))))))))))))))))) ∧ ((¬ (gI b 4) = x1) → (post x a0 a1 b))))
set_option maxHeartbeats 4000000 in
set_option maxRecDepth 100000 in
theorem mX1_release {l : Launch} {D : va_G} {cI cJ cZ cO : ClassId} {f0 f1 h : Nat → Nat} {ax : Nat} {N : Nat} {x : jXS} {a0 a1 : jSS} {b : jGS} {x1 : Int32} {post : jXS → jSS → jSS → jGS → Prop} (hw : wX1_release N (f0 0) (f1 0) (h 2) x a0 a1 b x1 post) : jMv l D (jT cI cJ cZ cO) gz yX1_release wsX1_release rmX1_release [.ref (h 0), .int x1] (acells f0 cI cO (bY h cO (scells f1 cI cO a1 ++ xcell h f0 f1 ax x) b) a0) (fun (u : jMS) => post u.1 u.2.1 u.2.2.1 u.2.2.2) (mF f0 f1 h ax cI cO) 0 0 := by
  refine j_ofv (cc := cX1_release) (maxL := 2) (ret := none) (by decide) rfl (Nat.le_of_ble_eq_true rfl) ?_
  intro p e s m args below meth c A C hr hnm hG
  refine j_sub (lv' := [(0, .ref (h 0)), (1, .int x1)]) [0, 1] rfl ?_
  unfold wX1_release at hw
  refine j_aload_n (pc := 0) C dX1_release_0 0 rfl rfl ?_
  refine j_get (ref := RX1) (pc := 1) C hiX1_release_X1 10 (c_at10 f0 h cI cO (scells f1 cI cO a1 ++ xcell h f0 f1 ax x) a0 b) rfl 3 (by decide) lkX1_release_41 (c_fl10_3 h b) dX1_release_1 ?_
  refine j_opt (fun z_47 => ?_) (fun q_48 z_47 => ?_)
  · have hw := hw.1 z_47
    refine j_ifnullN (pc := 4) C 15 dX1_release_4 (by decide) ?_
    exact j_vret (pc := 15) C hr (x, a0, a1, b) rfl hw dX1_release_15
  · have hw := hw.2 q_48 z_47
    refine j_ifnull (pc := 4) C dX1_release_4 ?_
    refine j_aload_n (pc := 7) C dX1_release_7 0 rfl rfl ?_
    refine j_get (ref := RX1) (pc := 8) C hiX1_release_X1 10 (c_at10 f0 h cI cO (scells f1 cI cO a1 ++ xcell h f0 f1 ax x) a0 b) rfl 4 (by decide) lkX1_release_63 (c_fl10_4 h b) dX1_release_8 ?_
    refine j_iload_n (pc := 11) C dX1_release_11 1 rfl rfl ?_
    refine j_icmp_eq (pc := 12) C 16 dX1_release_12 (by decide) (fun z_49 => ?_) (fun z_49 => ?_)
    · have hw := hw.1 z_49
      refine j_aload_n (pc := 16) C dX1_release_16 0 rfl rfl ?_
      refine j_get (ref := RX1) (pc := 17) C hiX1_release_X1 10 (c_at10 f0 h cI cO (scells f1 cI cO a1 ++ xcell h f0 f1 ax x) a0 b) rfl 3 (by decide) lkX1_release_41 (c_fl10_3 h b) dX1_release_17 ?_
      refine j_opt (fun z_50 => ?_) (fun q_51 z_50 => ?_)
      · have hw := hw.1 z_50
        exact False.elim hw
      · have hw := hw.2 q_51 z_50
        obtain ⟨h_52, hw⟩ := hw
        refine j_getL (pc := 20) C h_52 hiX1_release_X2 0 (by decide) lkX1_release_66 (c_flL_0 b q_51) dX1_release_20 ?_
        refine j_opt (fun z_53 => ?_) (fun q_54 z_53 => ?_)
        · have hw := hw.1 z_53
          refine j_ifnonnullN (pc := 23) C dX1_release_23 ?_
          refine j_aload_n (pc := 26) C dX1_release_26 0 rfl rfl ?_
          refine j_dup (pc := 27) C dX1_release_27 rfl ?_
          refine j_get (ref := RX1) (pc := 28) C hiX1_release_X1 10 (c_at10 f0 h cI cO (scells f1 cI cO a1 ++ xcell h f0 f1 ax x) a0 b) rfl 9 (by decide) lkX1_release_70 (c_fl10_9 h b) dX1_release_28 ?_
          refine j_iconst (pc := 31) (v := 1) C dX1_release_31 (by decide) ?_
          refine j_iadd (pc := 32) C dX1_release_32 ?_
          refine j_topi (fun v_55 ev_55 => ?_)
          have hw := hw v_55 ev_55
          refine j_put (pc := 33) C hiX1_release_X1 tyX1 tyX1_ok nmX1 10 (c_at10 f0 h cI cO (scells f1 cI cO a1 ++ xcell h f0 f1 ax x) a0 b) rfl 9 (by decide) lkX1_release_70 rfl rfl rfl (Nat.le_of_ble_eq_true rfl) dX1_release_33 (j_ws (c_s10_9 f0 h cI cO (scells f1 cI cO a1 ++ xcell h f0 f1 ax x) a0 b v_55) ?_)
          refine j_nmB (fun b_56 eb_56 => ?_)
          have hw := hw b_56 eb_56
          refine j_goto (pc := 36) C 76 dX1_release_36 (by decide) ?_
          exact kX1_release_76 C hr hG _ _ _ _ _ hw
        · have hw := hw.2 q_54 z_53
          refine j_ifnonnull (pc := 23) C 39 dX1_release_23 (by decide) ?_
          refine j_aload_n (pc := 39) C dX1_release_39 0 rfl rfl ?_
          refine j_get (ref := RX1) (pc := 40) C hiX1_release_X1 10 (c_at10 f0 h cI cO (scells f1 cI cO a1 ++ xcell h f0 f1 ax x) a0 b) rfl 3 (by decide) lkX1_release_41 (c_fl10_3 h b) dX1_release_40 ?_
          refine j_opt (fun z_57 => ?_) (fun q_58 z_57 => ?_)
          · have hw := hw.1 z_57
            exact False.elim hw
          · have hw := hw.2 q_58 z_57
            obtain ⟨h_59, hw⟩ := hw
            refine j_getL (pc := 43) C h_59 hiX1_release_X2 0 (by decide) lkX1_release_66 (c_flL_0 b q_58) dX1_release_43 ?_
            refine j_opt (fun z_60 => ?_) (fun q_61 z_60 => ?_)
            · have hw := hw.1 z_60
              refine j_dup (pc := 46) C dX1_release_46 rfl ?_
              exact False.elim hw
            · have hw := hw.2 q_61 z_60
              refine j_dup (pc := 46) C dX1_release_46 rfl ?_
              by_cases z_62 : q_61 = f0 0
              · subst z_62
                have hw := hw.1 rfl
                refine j_get (ref := RX5) (pc := 47) C hiX1_release_X5 0 (c_at0 f0 cI cO (bY h cO (scells f1 cI cO a1 ++ xcell h f0 f1 ax x) b) a0) rfl 5 (by decide) lkX1_release_73 (c_fl0_5 f0 a0) dX1_release_47 ?_
                refine j_iconst (pc := 50) (v := 1) C dX1_release_50 (by decide) ?_
                refine j_iadd (pc := 51) C dX1_release_51 ?_
                refine j_topi (fun v_63 ev_63 => ?_)
                have hw := hw v_63 ev_63
                refine j_put (pc := 52) C hiX1_release_X5 tyX5 tyX5_ok nmX5 0 (c_at0 f0 cI cO (bY h cO (scells f1 cI cO a1 ++ xcell h f0 f1 ax x) b) a0) rfl 5 (by decide) lkX1_release_73 rfl rfl rfl (Nat.le_of_ble_eq_true rfl) dX1_release_52 (j_ws (c_s0_5 f0 cI cO (bY h cO (scells f1 cI cO a1 ++ xcell h f0 f1 ax x) b) a0 v_63) ?_)
                refine j_nmA (fun a_64 ea_64 => ?_)
                have hw := hw a_64 ea_64
                refine j_aload_n (pc := 55) C dX1_release_55 0 rfl rfl ?_
                refine j_get (ref := RX1) (pc := 56) C hiX1_release_X1 10 (c_at10 f0 h cI cO (scells f1 cI cO a1 ++ xcell h f0 f1 ax x) a_64 b) rfl 3 (by decide) lkX1_release_41 (c_fl10_3 h b) dX1_release_56 ?_
                refine j_opt (fun z_65 => ?_) (fun q_66 z_65 => ?_)
                · have hw := hw.1 z_65
                  refine j_iconst (pc := 59) (v := 1) C dX1_release_59 (by decide) ?_
                  exact False.elim hw
                · have hw := hw.2 q_66 z_65
                  refine j_iconst (pc := 59) (v := 1) C dX1_release_59 (by decide) ?_
                  obtain ⟨h_67, hw⟩ := hw
                  refine j_putL (pc := 60) C h_67 hiX1_release_X2 6 (by decide) lkX1_release_78 rfl rfl rfl (c_lset6 b q_66 1) rfl rfl dX1_release_60 ?_
                  refine j_nmB (fun b_68 eb_68 => ?_)
                  have hw := hw b_68 eb_68
                  refine j_aload_n (pc := 63) C dX1_release_63 0 rfl rfl ?_
                  refine j_get (ref := RX1) (pc := 64) C hiX1_release_X1 10 (c_at10 f0 h cI cO (scells f1 cI cO a1 ++ xcell h f0 f1 ax x) a_64 b_68) rfl 3 (by decide) lkX1_release_41 (c_fl10_3 h b_68) dX1_release_64 ?_
                  refine j_opt (fun z_69 => ?_) (fun q_70 z_69 => ?_)
                  · have hw := hw.1 z_69
                    refine j_iload_n (pc := 67) C dX1_release_67 1 rfl rfl ?_
                    refine j_aload_n (pc := 68) C dX1_release_68 0 rfl rfl ?_
                    refine j_get (ref := RX1) (pc := 69) C hiX1_release_X1 10 (c_at10 f0 h cI cO (scells f1 cI cO a1 ++ xcell h f0 f1 ax x) a_64 b_68) rfl 2 (by decide) lkX1_release_18 (c_fl10_2 h b_68) dX1_release_69 ?_
                    refine j_iadd (pc := 72) C dX1_release_72 ?_
                    exact False.elim hw
                  · have hw := hw.2 q_70 z_69
                    refine j_iload_n (pc := 67) C dX1_release_67 1 rfl rfl ?_
                    refine j_aload_n (pc := 68) C dX1_release_68 0 rfl rfl ?_
                    refine j_get (ref := RX1) (pc := 69) C hiX1_release_X1 10 (c_at10 f0 h cI cO (scells f1 cI cO a1 ++ xcell h f0 f1 ax x) a_64 b_68) rfl 2 (by decide) lkX1_release_18 (c_fl10_2 h b_68) dX1_release_69 ?_
                    refine j_iadd (pc := 72) C dX1_release_72 ?_
                    refine j_topi (fun v_71 ev_71 => ?_)
                    have hw := hw v_71 ev_71
                    obtain ⟨h_72, hw⟩ := hw
                    refine j_putL (pc := 73) C h_72 hiX1_release_X2 7 (by decide) lkX1_release_82 rfl rfl rfl (c_lset7 b_68 q_70 v_71) rfl rfl dX1_release_73 ?_
                    refine j_nmB (fun b_73 eb_73 => ?_)
                    have hw := hw b_73 eb_73
                    exact kX1_release_76 C hr hG _ _ _ _ _ hw
              · have z_62b := (hw.2 z_62).1
                subst z_62b
                have hw := (hw.2 z_62).2
                refine j_swap ?_
                refine j_get (ref := RX5) (pc := 47) C hiX1_release_X5 0 (c_at0 f1 cI cO (bY h cO (scells f0 cI cO a0 ++ xcell h f0 f1 ax x) b) a1) rfl 5 (by decide) lkX1_release_73 (c_fl0_5 f1 a1) dX1_release_47 ?_
                refine j_iconst (pc := 50) (v := 1) C dX1_release_50 (by decide) ?_
                refine j_iadd (pc := 51) C dX1_release_51 ?_
                refine j_topi (fun v_74 ev_74 => ?_)
                have hw := hw v_74 ev_74
                refine j_put (pc := 52) C hiX1_release_X5 tyX5 tyX5_ok nmX5 0 (c_at0 f1 cI cO (bY h cO (scells f0 cI cO a0 ++ xcell h f0 f1 ax x) b) a1) rfl 5 (by decide) lkX1_release_73 rfl rfl rfl (Nat.le_of_ble_eq_true rfl) dX1_release_52 (j_ws (c_s0_5 f1 cI cO (bY h cO (scells f0 cI cO a0 ++ xcell h f0 f1 ax x) b) a1 v_74) ?_)
                refine j_nmA (fun a_75 ea_75 => ?_)
                have hw := hw a_75 ea_75
                refine j_aload_n (pc := 55) C dX1_release_55 0 rfl rfl ?_
                refine j_get (ref := RX1) (pc := 56) C hiX1_release_X1 10 (c_at10 f1 h cI cO (scells f0 cI cO a0 ++ xcell h f0 f1 ax x) a_75 b) rfl 3 (by decide) lkX1_release_41 (c_fl10_3 h b) dX1_release_56 ?_
                refine j_opt (fun z_76 => ?_) (fun q_77 z_76 => ?_)
                · have hw := hw.1 z_76
                  refine j_iconst (pc := 59) (v := 1) C dX1_release_59 (by decide) ?_
                  exact False.elim hw
                · have hw := hw.2 q_77 z_76
                  refine j_iconst (pc := 59) (v := 1) C dX1_release_59 (by decide) ?_
                  obtain ⟨h_78, hw⟩ := hw
                  refine j_putL (pc := 60) C h_78 hiX1_release_X2 6 (by decide) lkX1_release_78 rfl rfl rfl (c_lset6 b q_77 1) rfl rfl dX1_release_60 ?_
                  refine j_nmB (fun b_79 eb_79 => ?_)
                  have hw := hw b_79 eb_79
                  refine j_aload_n (pc := 63) C dX1_release_63 0 rfl rfl ?_
                  refine j_get (ref := RX1) (pc := 64) C hiX1_release_X1 10 (c_at10 f1 h cI cO (scells f0 cI cO a0 ++ xcell h f0 f1 ax x) a_75 b_79) rfl 3 (by decide) lkX1_release_41 (c_fl10_3 h b_79) dX1_release_64 ?_
                  refine j_opt (fun z_80 => ?_) (fun q_81 z_80 => ?_)
                  · have hw := hw.1 z_80
                    refine j_iload_n (pc := 67) C dX1_release_67 1 rfl rfl ?_
                    refine j_aload_n (pc := 68) C dX1_release_68 0 rfl rfl ?_
                    refine j_get (ref := RX1) (pc := 69) C hiX1_release_X1 10 (c_at10 f1 h cI cO (scells f0 cI cO a0 ++ xcell h f0 f1 ax x) a_75 b_79) rfl 2 (by decide) lkX1_release_18 (c_fl10_2 h b_79) dX1_release_69 ?_
                    refine j_iadd (pc := 72) C dX1_release_72 ?_
                    exact False.elim hw
                  · have hw := hw.2 q_81 z_80
                    refine j_iload_n (pc := 67) C dX1_release_67 1 rfl rfl ?_
                    refine j_aload_n (pc := 68) C dX1_release_68 0 rfl rfl ?_
                    refine j_get (ref := RX1) (pc := 69) C hiX1_release_X1 10 (c_at10 f1 h cI cO (scells f0 cI cO a0 ++ xcell h f0 f1 ax x) a_75 b_79) rfl 2 (by decide) lkX1_release_18 (c_fl10_2 h b_79) dX1_release_69 ?_
                    refine j_iadd (pc := 72) C dX1_release_72 ?_
                    refine j_topi (fun v_82 ev_82 => ?_)
                    have hw := hw v_82 ev_82
                    obtain ⟨h_83, hw⟩ := hw
                    refine j_putL (pc := 73) C h_83 hiX1_release_X2 7 (by decide) lkX1_release_82 rfl rfl rfl (c_lset7 b_79 q_81 v_82) rfl rfl dX1_release_73 ?_
                    refine j_nmB (fun b_84 eb_84 => ?_)
                    have hw := hw b_84 eb_84
                    refine j_swap ?_
                    exact kX1_release_76 C hr hG _ _ _ _ _ hw
    · have hw := hw.2 z_49
      exact j_vret (pc := 15) C hr (x, a0, a1, b) rfl hw dX1_release_15

def rmX6_runTick (B : Nat) : Room := { frames := 6, cells := B, slots := 8 * B, locals := 142 }
theorem hiX6_runTick_X6 : ∀ w ∈ u_ws RX6 TX6 6, w ∈ wsX6_runTick := by decide +kernel
theorem hiX6_runTick_X1 : ∀ w ∈ u_ws RX1 TX1 12, w ∈ wsX6_runTick := by decide +kernel
theorem lkX6_runTick_21 : Cond.fieldLink yX6_runTick.cls 21 (TX6 1).1 (TX6 1).2.1 (TX6 1).2.2.1 ∈ wsX6_runTick := by decide +kernel
theorem lkX6_runTick_85 : Cond.fieldLink yX6_runTick.cls 85 (TX6 3).1 (TX6 3).2.1 (TX6 3).2.2.1 ∈ wsX6_runTick := by decide +kernel
theorem lkX6_runTick_25 : Cond.fieldLink yX6_runTick.cls 25 (TX6 2).1 (TX6 2).2.1 (TX6 2).2.2.1 ∈ wsX6_runTick := by decide +kernel
theorem lkX6_runTick_14 : Cond.fieldLink yX6_runTick.cls 14 (TX6 0).1 (TX6 0).2.1 (TX6 0).2.2.1 ∈ wsX6_runTick := by decide +kernel
theorem lkX6_runTick_42 : Cond.fieldLink yX6_runTick.cls 42 (TX6 4).1 (TX6 4).2.1 (TX6 4).2.2.1 ∈ wsX6_runTick := by decide +kernel
theorem lkX6_runTick_60 : Cond.fieldLink yX6_runTick.cls 60 (TX1 3).1 (TX1 3).2.1 (TX1 3).2.2.1 ∈ wsX6_runTick := by decide +kernel
theorem lkX6_runTick_82 : Cond.fieldLink yX6_runTick.cls 82 (TX6 5).1 (TX6 5).2.1 (TX6 5).2.2.1 ∈ wsX6_runTick := by decide +kernel
def wX6_runTick_115 (N : Nat) (B : Nat) (fo0 fo1 gu : Nat) (x : jXS) (a0 a1 : jSS) (b : jGS) (nU : Nat) (x1 : Int32) (post : Int32 → jXS → jSS → jSS → jGS → Prop) : Prop := ∀ v_35 : Int32, v_35 = (x 3) + 1 → ∀ x_36 : jXS, x_36 = upd x 3 v_35 → post x1 x_36 a0 a1 b
set_option maxHeartbeats 4000000 in
set_option maxRecDepth 100000 in
theorem kX6_runTick_115 {p : Program} {l : Launch} {e : Env} {s : State} {m : MethodId} {args : Array Value} {below : List Frame} {meth : Method} {c : Code} {D : va_G} {cI cJ cZ cO : ClassId} {f0 f1 h : Nat → Nat} {ax : Nat} {A : Nat → Prop} {N : Nat} {B : Nat} {post : Int32 → jXS → jSS → jSS → jGS → Prop} (C : jC p s m args meth c cX6_runTick 2 yX6_runTick.cls wsX6_runTick D (jT cI cJ cZ cO) A) (hr : meth.sig.returnType = (some .int)) (hG : gz A s) (x : jXS) (a0 a1 : jSS) (b : jGS) (nU : Nat) (x1 : Int32) (hB : nU ≤ B) (hw : wX6_runTick_115 N B (f0 0) (f1 0) (h 2) x a0 a1 b nU x1 post) : jJ p l e (rmX6_runTick B) s m args below meth c nU (8 * nU) (MQ below (va_Qi (fun r (u : jMS) => post r u.1 u.2.1 u.2.2.1 u.2.2.2) (jE D (jT cI cJ cZ cO) A (mF f0 f1 h ax cI cO)) A) args s B (8 * B) A) D A 2 (acells f0 cI cO (bY h cO (scells f1 cI cO a1 ++ xcell h f0 f1 ax x) b) a0) [(0, .ref ax), (1, .int x1)] 115 [] := by
  unfold wX6_runTick_115 at hw
  refine j_aload_n (pc := 115) C dX6_runTick_115 0 rfl rfl ?_
  refine j_dup (pc := 116) C dX6_runTick_116 rfl ?_
  refine j_get (ref := RX6) (pc := 117) C hiX6_runTick_X6 22 (e_at f0 f1 h f0 f1 ax cI cO a0 a1 x b) rfl 3 (by decide) lkX6_runTick_85 (e_fl3 h f0 f1 x) dX6_runTick_117 ?_
  refine j_iconst (pc := 120) (v := 1) C dX6_runTick_120 (by decide) ?_
  refine j_iadd (pc := 121) C dX6_runTick_121 ?_
  refine j_topi (fun v_35 ev_35 => ?_)
  have hw := hw v_35 ev_35
  refine j_put (pc := 122) C hiX6_runTick_X6 tyX6 tyX6_ok nmX6 22 (e_at f0 f1 h f0 f1 ax cI cO a0 a1 x b) rfl 3 (by decide) lkX6_runTick_85 rfl rfl rfl (Nat.le_of_ble_eq_true rfl) dX6_runTick_122 (j_ws (e_s3 f0 f1 h f0 f1 ax cI cO a0 a1 x b v_35) ?_)
  refine j_nmX (fun x_36 ex_36 => ?_)
  have hw := hw x_36 ex_36
  refine j_iload_n (pc := 125) C dX6_runTick_125 1 rfl rfl ?_
  refine j_widen (k := B) (n := 8 * B) hB (Nat.mul_le_mul_left 8 hB) ?_
  exact j_iret (pc := 126) C hr (x_36, a0, a1, b) rfl hw dX6_runTick_126
def wX6_runTick_65 (N : Nat) (B : Nat) (fo0 fo1 gu : Nat) (x : jXS) (a0 a1 : jSS) (b : jGS) (nU : Nat) (x1 : Int32) (post : Int32 → jXS → jSS → jSS → jGS → Prop) : Prop := ∃ k_40 : Nat, nU + k_40 ≤ B ∧ wX5_sendAll N k_40 fo0 a0 b 0 (x 3) (fun a_38 b_39 => ∃ k_45 : Nat, (nU + k_40) + k_45 ≤ B ∧ wX5_sendAll N k_45 fo1 a1 b_39 0 (x 3) (fun a_43 b_44 => ((gV b_44 = none) → (wX6_runTick_115 N B fo0 fo1 gu x a_38 a_43 b_44 ((nU + k_40) + k_45) x1 post)) ∧ (∀ q_48 : Nat, gV b_44 = some q_48 → (∀ v_49 : Int32, v_49 = (x 5) + 1 → ∀ x_50 : jXS, x_50 = upd x 5 v_49 → wX6_runTick_115 N B fo0 fo1 gu x_50 a_38 a_43 b_44 ((nU + k_40) + k_45) x1 post))))
set_option maxHeartbeats 4000000 in
set_option maxRecDepth 100000 in
theorem kX6_runTick_65 {p : Program} {l : Launch} {e : Env} {s : State} {m : MethodId} {args : Array Value} {below : List Frame} {meth : Method} {c : Code} {D : va_G} {cI cJ cZ cO : ClassId} {f0 f1 h : Nat → Nat} {ax : Nat} {A : Nat → Prop} {N : Nat} {B : Nat} {post : Int32 → jXS → jSS → jSS → jGS → Prop} (C : jC p s m args meth c cX6_runTick 2 yX6_runTick.cls wsX6_runTick D (jT cI cJ cZ cO) A) (hr : meth.sig.returnType = (some .int)) (hG : gz A s) (x : jXS) (a0 a1 : jSS) (b : jGS) (nU : Nat) (x1 : Int32) (hB : nU ≤ B) (hw : wX6_runTick_65 N B (f0 0) (f1 0) (h 2) x a0 a1 b nU x1 post) : jJ p l e (rmX6_runTick B) s m args below meth c nU (8 * nU) (MQ below (va_Qi (fun r (u : jMS) => post r u.1 u.2.1 u.2.2.1 u.2.2.2) (jE D (jT cI cJ cZ cO) A (mF f0 f1 h ax cI cO)) A) args s B (8 * B) A) D A 2 (acells f0 cI cO (bY h cO (scells f1 cI cO a1 ++ xcell h f0 f1 ax x) b) a0) [(0, .ref ax), (1, .int x1)] 65 [] := by
  unfold wX6_runTick_65 at hw
  refine j_aload_n (pc := 65) C dX6_runTick_65 0 rfl rfl ?_
  refine j_get (ref := RX6) (pc := 66) C hiX6_runTick_X6 22 (e_at f0 f1 h f0 f1 ax cI cO a0 a1 x b) rfl 1 (by decide) lkX6_runTick_21 (e_fl1 h f0 f1 x) dX6_runTick_66 ?_
  refine j_aload_n (pc := 69) C dX6_runTick_69 0 rfl rfl ?_
  refine j_get (ref := RX6) (pc := 70) C hiX6_runTick_X6 22 (e_at f0 f1 h f0 f1 ax cI cO a0 a1 x b) rfl 0 (by decide) lkX6_runTick_14 (e_fl0 h f0 f1 x) dX6_runTick_70 ?_
  refine j_aload_n (pc := 73) C dX6_runTick_73 0 rfl rfl ?_
  refine j_get (ref := RX6) (pc := 74) C hiX6_runTick_X6 22 (e_at f0 f1 h f0 f1 ax cI cO a0 a1 x b) rfl 3 (by decide) lkX6_runTick_85 (e_fl3 h f0 f1 x) dX6_runTick_74 ?_
  obtain ⟨k_40, h_41, hw⟩ := hw
  refine j_callvC (pc := 77) C gz_ok hG 2 (mX5_sendAll hw) gX6_runTick_X5_sendAll rfl rfl rfl (by decide +kernel) ⟨Nat.le_of_ble_eq_true rfl, Nat.le_of_ble_eq_true rfl⟩ 0 (c_at0 f0 cI cO (bY h cO (scells f1 cI cO a1 ++ xcell h f0 f1 ax x) b) a0) rfl rfl rfl (Nat.le_of_ble_eq_true rfl) dX6_runTick_77 ⟨h_41, by show 8 * nU + 8 * k_40 ≤ 8 * B; omega⟩ (fun a_38 b_39 hw => ?_)
  refine j_eqc (k := nU + k_40) (n := 8 * (nU + k_40)) rfl (by omega) ?_
  have hB : nU + k_40 ≤ B := h_41
  refine j_aload_n (pc := 80) C dX6_runTick_80 0 rfl rfl ?_
  refine j_get (ref := RX6) (pc := 81) C hiX6_runTick_X6 22 (e_at f0 f1 h f0 f1 ax cI cO a_38 a1 x b_39) rfl 2 (by decide) lkX6_runTick_25 (e_fl2 h f0 f1 x) dX6_runTick_81 ?_
  refine j_aload_n (pc := 84) C dX6_runTick_84 0 rfl rfl ?_
  refine j_get (ref := RX6) (pc := 85) C hiX6_runTick_X6 22 (e_at f0 f1 h f0 f1 ax cI cO a_38 a1 x b_39) rfl 0 (by decide) lkX6_runTick_14 (e_fl0 h f0 f1 x) dX6_runTick_85 ?_
  refine j_aload_n (pc := 88) C dX6_runTick_88 0 rfl rfl ?_
  refine j_get (ref := RX6) (pc := 89) C hiX6_runTick_X6 22 (e_at f0 f1 h f0 f1 ax cI cO a_38 a1 x b_39) rfl 3 (by decide) lkX6_runTick_85 (e_fl3 h f0 f1 x) dX6_runTick_89 ?_
  refine j_swap ?_
  obtain ⟨k_45, h_46, hw⟩ := hw
  refine j_callvC (pc := 92) C gz_ok hG 2 (mX5_sendAll hw) gX6_runTick_X5_sendAll rfl rfl rfl (by decide +kernel) ⟨Nat.le_of_ble_eq_true rfl, Nat.le_of_ble_eq_true rfl⟩ 0 (c_at0 f1 cI cO (bY h cO (scells f0 cI cO a_38 ++ xcell h f0 f1 ax x) b_39) a1) rfl rfl rfl (Nat.le_of_ble_eq_true rfl) dX6_runTick_92 ⟨h_46, by show 8 * (nU + k_40) + 8 * k_45 ≤ 8 * B; omega⟩ (fun a_43 b_44 hw => ?_)
  refine j_eqc (k := (nU + k_40) + k_45) (n := 8 * ((nU + k_40) + k_45)) rfl (by omega) ?_
  have hB : (nU + k_40) + k_45 ≤ B := h_46
  refine j_aload_n (pc := 95) C dX6_runTick_95 0 rfl rfl ?_
  refine j_get (ref := RX6) (pc := 96) C hiX6_runTick_X6 22 (e_at f1 f0 h f0 f1 ax cI cO a_43 a_38 x b_44) rfl 0 (by decide) lkX6_runTick_14 (e_fl0 h f0 f1 x) dX6_runTick_96 ?_
  refine j_get (ref := RX1) (pc := 99) C hiX6_runTick_X1 10 (c_at10 f1 h cI cO (scells f0 cI cO a_38 ++ xcell h f0 f1 ax x) a_43 b_44) rfl 3 (by decide) lkX6_runTick_60 (c_fl10_3 h b_44) dX6_runTick_99 ?_
  refine j_opt (fun z_47 => ?_) (fun q_48 z_47 => ?_)
  · have hw := hw.1 z_47
    refine j_ifnullN (pc := 102) C 115 dX6_runTick_102 (by decide) ?_
    refine j_swap ?_
    exact kX6_runTick_115 C hr hG _ _ _ _ _ _ hB hw
  · have hw := hw.2 q_48 z_47
    refine j_ifnull (pc := 102) C dX6_runTick_102 ?_
    refine j_aload_n (pc := 105) C dX6_runTick_105 0 rfl rfl ?_
    refine j_dup (pc := 106) C dX6_runTick_106 rfl ?_
    refine j_get (ref := RX6) (pc := 107) C hiX6_runTick_X6 22 (e_at f1 f0 h f0 f1 ax cI cO a_43 a_38 x b_44) rfl 5 (by decide) lkX6_runTick_82 (e_fl5 h f0 f1 x) dX6_runTick_107 ?_
    refine j_iconst (pc := 110) (v := 1) C dX6_runTick_110 (by decide) ?_
    refine j_iadd (pc := 111) C dX6_runTick_111 ?_
    refine j_topi (fun v_49 ev_49 => ?_)
    have hw := hw v_49 ev_49
    refine j_put (pc := 112) C hiX6_runTick_X6 tyX6 tyX6_ok nmX6 22 (e_at f1 f0 h f0 f1 ax cI cO a_43 a_38 x b_44) rfl 5 (by decide) lkX6_runTick_82 rfl rfl rfl (Nat.le_of_ble_eq_true rfl) dX6_runTick_112 (j_ws (e_s5 f1 f0 h f0 f1 ax cI cO a_43 a_38 x b_44 v_49) ?_)
    refine j_nmX (fun x_50 ex_50 => ?_)
    have hw := hw x_50 ex_50
    refine j_swap ?_
    exact kX6_runTick_115 C hr hG _ _ _ _ _ _ hB hw
def wX6_runTick (N : Nat) (B : Nat) (fo0 fo1 gu : Nat) (x : jXS) (a0 a1 : jSS) (b : jGS) (nU : Nat)  (post : Int32 → jXS → jSS → jSS → jGS → Prop) : Prop := wX5_takeDue N a0 b (x 3) (fun r_51 a_52 b_53 => wX5_takeDue N a1 b_53 (x 3) (fun r_54 a_55 b_56 => ∀ x1_57 : Int32, x1_57 = r_51 + r_54 → wX1_release N fo0 fo1 gu x a_52 a_55 b_56 (x 3) (fun x_59 a_60 a_61 b_62 => (((x_59 4) ≤ 0) → (wX6_runTick_65 N B fo0 fo1 gu x_59 a_60 a_61 b_62 nU x1_57 post)) ∧ ((¬ (x_59 4) ≤ 0) → ((¬ x_59 4 = 0) ∧ ((¬ ((x_59 3) - (x_59 3) / (x_59 4) * (x_59 4)) = 0) → (wX6_runTick_65 N B fo0 fo1 gu x_59 a_60 a_61 b_62 nU x1_57 post)) ∧ ((((x_59 3) - (x_59 3) / (x_59 4) * (x_59 4)) = 0) → (wX1_admitGuest N gu a_60 b_62 (x_59 3) (fun a_67 b_68 => wX6_runTick_65 N B fo0 fo1 gu x_59 a_67 a_61 b_68 nU x1_57 post))))))))
set_option maxHeartbeats 4000000 in
set_option maxRecDepth 100000 in
theorem mX6_runTick {l : Launch} {D : va_G} {cI cJ cZ cO : ClassId} {f0 f1 h : Nat → Nat} {ax : Nat} {N : Nat} {B : Nat} {x : jXS} {a0 a1 : jSS} {b : jGS}  {post : Int32 → jXS → jSS → jSS → jGS → Prop} (hw : wX6_runTick N B (f0 0) (f1 0) (h 2) x a0 a1 b 0 post) : jMi l D (jT cI cJ cZ cO) gz yX6_runTick wsX6_runTick (rmX6_runTick B) [.ref ax] (acells f0 cI cO (bY h cO (scells f1 cI cO a1 ++ xcell h f0 f1 ax x) b) a0) (fun r (u : jMS) => post r u.1 u.2.1 u.2.2.1 u.2.2.2) (mF f0 f1 h ax cI cO) B (8 * B) := by
  refine j_ofi (cc := cX6_runTick) (maxL := 2) (ret := (some .int)) (by decide) rfl (Nat.le_of_ble_eq_true rfl) ?_
  intro p e s m args below meth c A C hr hnm hG
  have hB : 0 ≤ B := Nat.zero_le B
  refine j_sub (lv' := [(0, .ref ax)]) [0] rfl ?_
  unfold wX6_runTick at hw
  refine j_aload_n (pc := 0) C dX6_runTick_0 0 rfl rfl ?_
  refine j_get (ref := RX6) (pc := 1) C hiX6_runTick_X6 22 (e_at f0 f1 h f0 f1 ax cI cO a0 a1 x b) rfl 1 (by decide) lkX6_runTick_21 (e_fl1 h f0 f1 x) dX6_runTick_1 ?_
  refine j_aload_n (pc := 4) C dX6_runTick_4 0 rfl rfl ?_
  refine j_get (ref := RX6) (pc := 5) C hiX6_runTick_X6 22 (e_at f0 f1 h f0 f1 ax cI cO a0 a1 x b) rfl 3 (by decide) lkX6_runTick_85 (e_fl3 h f0 f1 x) dX6_runTick_5 ?_
  refine j_calliB (pc := 8) C gz_ok hG 1 (mX5_takeDue hw) gX6_runTick_X5_takeDue rfl rfl rfl (by decide +kernel) ⟨Nat.le_of_ble_eq_true rfl, Nat.le_of_ble_eq_true rfl⟩ 0 (c_at0 f0 cI cO (bY h cO (scells f1 cI cO a1 ++ xcell h f0 f1 ax x) b) a0) rfl rfl rfl (Nat.le_of_ble_eq_true rfl) dX6_runTick_8 ⟨hB, Nat.mul_le_mul_left 8 hB⟩ (fun r_51 a_52 b_53 hw => ?_)
  refine j_aload_n (pc := 11) C dX6_runTick_11 0 rfl rfl ?_
  refine j_get (ref := RX6) (pc := 12) C hiX6_runTick_X6 22 (e_at f0 f1 h f0 f1 ax cI cO a_52 a1 x b_53) rfl 2 (by decide) lkX6_runTick_25 (e_fl2 h f0 f1 x) dX6_runTick_12 ?_
  refine j_aload_n (pc := 15) C dX6_runTick_15 0 rfl rfl ?_
  refine j_get (ref := RX6) (pc := 16) C hiX6_runTick_X6 22 (e_at f0 f1 h f0 f1 ax cI cO a_52 a1 x b_53) rfl 3 (by decide) lkX6_runTick_85 (e_fl3 h f0 f1 x) dX6_runTick_16 ?_
  refine j_swap ?_
  refine j_calliB (pc := 19) C gz_ok hG 1 (mX5_takeDue hw) gX6_runTick_X5_takeDue rfl rfl rfl (by decide +kernel) ⟨Nat.le_of_ble_eq_true rfl, Nat.le_of_ble_eq_true rfl⟩ 0 (c_at0 f1 cI cO (bY h cO (scells f0 cI cO a_52 ++ xcell h f0 f1 ax x) b_53) a1) rfl rfl rfl (Nat.le_of_ble_eq_true rfl) dX6_runTick_19 ⟨hB, Nat.mul_le_mul_left 8 hB⟩ (fun r_54 a_55 b_56 hw => ?_)
  refine j_iadd (pc := 22) C dX6_runTick_22 ?_
  refine j_topi (fun x1_57 ex1_57 => ?_)
  have hw := hw x1_57 ex1_57
  refine j_istore_n (pc := 23) (lv' := [(0, .ref ax), (1, .int x1_57)]) C [1, 0] dX6_runTick_23 rfl (by decide) rfl ?_
  refine j_aload_n (pc := 24) C dX6_runTick_24 0 rfl rfl ?_
  refine j_get (ref := RX6) (pc := 25) C hiX6_runTick_X6 22 (e_at f1 f0 h f0 f1 ax cI cO a_55 a_52 x b_56) rfl 0 (by decide) lkX6_runTick_14 (e_fl0 h f0 f1 x) dX6_runTick_25 ?_
  refine j_aload_n (pc := 28) C dX6_runTick_28 0 rfl rfl ?_
  refine j_get (ref := RX6) (pc := 29) C hiX6_runTick_X6 22 (e_at f1 f0 h f0 f1 ax cI cO a_55 a_52 x b_56) rfl 3 (by decide) lkX6_runTick_85 (e_fl3 h f0 f1 x) dX6_runTick_29 ?_
  refine j_swap ?_
  refine j_callvM (pc := 32) C gz_ok hG 1 (mX1_release hw) gX6_runTick_X1_release rfl rfl rfl (by decide +kernel) ⟨Nat.le_of_ble_eq_true rfl, Nat.le_of_ble_eq_true rfl⟩ 10 (c_at10 f0 h cI cO (scells f1 cI cO a_55 ++ xcell h f0 f1 ax x) a_52 b_56) rfl rfl rfl (Nat.le_of_ble_eq_true rfl) dX6_runTick_32 ⟨hB, Nat.mul_le_mul_left 8 hB⟩ (fun x_59 a_60 a_61 b_62 hw => ?_)
  refine j_aload_n (pc := 35) C dX6_runTick_35 0 rfl rfl ?_
  refine j_get (ref := RX6) (pc := 36) C hiX6_runTick_X6 22 (e_at f0 f1 h f0 f1 ax cI cO a_60 a_61 x_59 b_62) rfl 4 (by decide) lkX6_runTick_42 (e_fl4 h f0 f1 x_59) dX6_runTick_36 ?_
  refine j_if_le (pc := 39) C 65 dX6_runTick_39 (by decide) (fun z_63 => ?_) (fun z_63 => ?_)
  · have hw := hw.1 z_63
    exact kX6_runTick_65 C hr hG _ _ _ _ _ _ hB hw
  · have hw := hw.2 z_63
    refine j_aload_n (pc := 42) C dX6_runTick_42 0 rfl rfl ?_
    refine j_get (ref := RX6) (pc := 43) C hiX6_runTick_X6 22 (e_at f0 f1 h f0 f1 ax cI cO a_60 a_61 x_59 b_62) rfl 3 (by decide) lkX6_runTick_85 (e_fl3 h f0 f1 x_59) dX6_runTick_43 ?_
    refine j_aload_n (pc := 46) C dX6_runTick_46 0 rfl rfl ?_
    refine j_get (ref := RX6) (pc := 47) C hiX6_runTick_X6 22 (e_at f0 f1 h f0 f1 ax cI cO a_60 a_61 x_59 b_62) rfl 4 (by decide) lkX6_runTick_42 (e_fl4 h f0 f1 x_59) dX6_runTick_47 ?_
    obtain ⟨h_64, hw⟩ := hw
    refine j_irem (pc := 50) C dX6_runTick_50 h_64 ?_
    refine j_if_ne (pc := 51) C 65 dX6_runTick_51 (by decide) (fun z_65 => ?_) (fun z_65 => ?_)
    · have hw := hw.1 z_65
      exact kX6_runTick_65 C hr hG _ _ _ _ _ _ hB hw
    · have hw := hw.2 z_65
      refine j_aload_n (pc := 54) C dX6_runTick_54 0 rfl rfl ?_
      refine j_get (ref := RX6) (pc := 55) C hiX6_runTick_X6 22 (e_at f0 f1 h f0 f1 ax cI cO a_60 a_61 x_59 b_62) rfl 0 (by decide) lkX6_runTick_14 (e_fl0 h f0 f1 x_59) dX6_runTick_55 ?_
      refine j_aload_n (pc := 58) C dX6_runTick_58 0 rfl rfl ?_
      refine j_get (ref := RX6) (pc := 59) C hiX6_runTick_X6 22 (e_at f0 f1 h f0 f1 ax cI cO a_60 a_61 x_59 b_62) rfl 3 (by decide) lkX6_runTick_85 (e_fl3 h f0 f1 x_59) dX6_runTick_59 ?_
      refine j_callvB (pc := 62) C gz_ok hG 1 (mX1_admitGuest hw) gX6_runTick_X1_admitGuest rfl rfl rfl (by decide +kernel) ⟨Nat.le_of_ble_eq_true rfl, Nat.le_of_ble_eq_true rfl⟩ 10 (c_at10 f0 h cI cO (scells f1 cI cO a_61 ++ xcell h f0 f1 ax x_59) a_60 b_62) rfl rfl rfl (Nat.le_of_ble_eq_true rfl) dX6_runTick_62 ⟨hB, Nat.mul_le_mul_left 8 hB⟩ (fun a_67 b_68 hw => ?_)
      exact kX6_runTick_65 C hr hG _ _ _ _ _ _ hB hw

def rmX6_pass (B : Nat) : Room := { frames := 7, cells := B, slots := 8 * B, locals := 163 }
def wX6_pass_18 (N : Nat) (B : Nat) (fo0 fo1 gu : Nat) : Nat → jXS → jSS → jSS → jGS → Nat → Int32 → Int32 → Int32 → (Int32 → jXS → jSS → jSS → jGS → Prop) → Prop
  | 0, _, _, _, _, _, _, _, _, _ => False
  | n + 1, x, a0, a1, b, nU, x1, x2, x3, post => ((x1 ≤ x3) → (post x2 x a0 a1 b)) ∧ ((¬ x1 ≤ x3) → (∃ k_19 : Nat, nU + k_19 ≤ B ∧ wX6_runTick N k_19 fo0 fo1 gu x a0 a1 b 0 (fun r_14 x_15 a_16 a_17 b_18 => ∀ x2_21 : Int32, x2_21 = x2 + r_14 → ∀ x3_22 : Int32, x3_22 = x3 + 1 → wX6_pass_18 N B fo0 fo1 gu n x_15 a_16 a_17 b_18 (nU + k_19) x1 x2_21 x3_22 post)))
set_option maxHeartbeats 4000000 in
set_option maxRecDepth 100000 in
theorem kX6_pass_18 {p : Program} {l : Launch} {e : Env} {s : State} {m : MethodId} {args : Array Value} {below : List Frame} {meth : Method} {c : Code} {D : va_G} {cI cJ cZ cO : ClassId} {f0 f1 h : Nat → Nat} {ax : Nat} {A : Nat → Prop} {N : Nat} {B : Nat} {post : Int32 → jXS → jSS → jSS → jGS → Prop} (C : jC p s m args meth c cX6_pass 4 yX6_pass.cls wsX6_pass D (jT cI cJ cZ cO) A) (hr : meth.sig.returnType = (some .int)) (hG : gz A s) : ∀ (n : Nat) (x : jXS) (a0 a1 : jSS) (b : jGS) (nU : Nat) (x1 : Int32) (x2 : Int32) (x3 : Int32)  (hB : nU ≤ B), wX6_pass_18 N B (f0 0) (f1 0) (h 2) n x a0 a1 b nU x1 x2 x3 post → jJ p l e (rmX6_pass B) s m args below meth c nU (8 * nU) (MQ below (va_Qi (fun r (u : jMS) => post r u.1 u.2.1 u.2.2.1 u.2.2.2) (jE D (jT cI cJ cZ cO) A (mF f0 f1 h ax cI cO)) A) args s B (8 * B) A) D A 4 (acells f0 cI cO (bY h cO (scells f1 cI cO a1 ++ xcell h f0 f1 ax x) b) a0) [(0, .ref ax), (1, .int x1), (2, .int x2), (3, .int x3)] 18 [] := by
  intro n
  induction n with
  | zero =>
    intro x a0 a1 b nU x1 x2 x3 hB hw
    exact False.elim hw
  | succ n ih =>
    intro x a0 a1 b nU x1 x2 x3 hB hw
    unfold wX6_pass_18 at hw
    refine j_iload_n (pc := 18) C dX6_pass_18 3 rfl rfl ?_
    refine j_iload_n (pc := 19) C dX6_pass_19 1 rfl rfl ?_
    refine j_icmp_ge (pc := 20) C 36 dX6_pass_20 (by decide) (fun z_13 => ?_) (fun z_13 => ?_)
    · have hw := hw.1 z_13
      refine j_iload_n (pc := 36) C dX6_pass_36 2 rfl rfl ?_
      refine j_widen (k := B) (n := 8 * B) hB (Nat.mul_le_mul_left 8 hB) ?_
      exact j_iret (pc := 37) C hr (x, a0, a1, b) rfl hw dX6_pass_37
    · have hw := hw.2 z_13
      refine j_iload_n (pc := 23) C dX6_pass_23 2 rfl rfl ?_
      refine j_aload_n (pc := 24) C dX6_pass_24 0 rfl rfl ?_
      obtain ⟨k_19, h_20, hw⟩ := hw
      refine j_calliN (pc := 25) C gz_ok hG 0 (mX6_runTick hw) gX6_pass_X6_runTick rfl rfl rfl (by decide +kernel) ⟨Nat.le_of_ble_eq_true rfl, Nat.le_of_ble_eq_true rfl⟩ 22 (e_at f0 f1 h f0 f1 ax cI cO a0 a1 x b) rfl rfl rfl (Nat.le_of_ble_eq_true rfl) dX6_pass_25 ⟨h_20, by show 8 * nU + 8 * k_19 ≤ 8 * B; omega⟩ (fun r_14 x_15 a_16 a_17 b_18 hw => ?_)
      refine j_eqc (k := nU + k_19) (n := 8 * (nU + k_19)) rfl (by omega) ?_
      have hB : nU + k_19 ≤ B := h_20
      refine j_iadd (pc := 28) C dX6_pass_28 ?_
      refine j_topi (fun x2_21 ex2_21 => ?_)
      have hw := hw x2_21 ex2_21
      refine j_istore_n (pc := 29) (lv' := [(0, .ref ax), (1, .int x1), (2, .int x2_21), (3, .int x3)]) C [1, 2, 0, 3] dX6_pass_29 rfl (by decide) rfl ?_
      obtain ⟨x3_22, ex3_22⟩ : ∃ y : Int32, y = x3 + 1 := ⟨_, rfl⟩
      have hw := hw x3_22 ex3_22
      refine j_iinc (pc := 30) (v := x3_22) (lv' := [(0, .ref ax), (1, .int x1), (2, .int x2_21), (3, .int x3_22)]) C [1, 2, 3, 0] 3 dX6_pass_30 rfl (by rw [ex3_22]; rfl) (by decide) rfl ?_
      refine j_goto (pc := 33) C 18 dX6_pass_33 (by decide) ?_
      exact ih _ _ _ _ _ _ _ _ hB hw
def wX6_pass (N : Nat) (B : Nat) (fo0 fo1 gu : Nat) (x : jXS) (a0 a1 : jSS) (b : jGS) (nU : Nat) (x1 : Int32) (post : Int32 → jXS → jSS → jSS → jGS → Prop) : Prop := ∀ r_23 : Int32, r_23 = jwithin x1 1 2000 → ((¬ r_23 = 0) → (wX6_pass_18 N B fo0 fo1 gu N x a0 a1 b nU x1 0 0 post)) ∧ ((r_23 = 0) → (post ((-2)) x a0 a1 b))
set_option maxHeartbeats 4000000 in
set_option maxRecDepth 100000 in
theorem mX6_pass {l : Launch} {D : va_G} {cI cJ cZ cO : ClassId} {f0 f1 h : Nat → Nat} {ax : Nat} {N : Nat} {B : Nat} {x : jXS} {a0 a1 : jSS} {b : jGS} {x1 : Int32} {post : Int32 → jXS → jSS → jSS → jGS → Prop} (hw : wX6_pass N B (f0 0) (f1 0) (h 2) x a0 a1 b 0 x1 post) : jMi l D (jT cI cJ cZ cO) gz yX6_pass wsX6_pass (rmX6_pass B) [.ref ax, .int x1] (acells f0 cI cO (bY h cO (scells f1 cI cO a1 ++ xcell h f0 f1 ax x) b) a0) (fun r (u : jMS) => post r u.1 u.2.1 u.2.2.1 u.2.2.2) (mF f0 f1 h ax cI cO) B (8 * B) := by
  refine j_ofi (cc := cX6_pass) (maxL := 4) (ret := (some .int)) (by decide) rfl (Nat.le_of_ble_eq_true rfl) ?_
  intro p e s m args below meth c A C hr hnm hG
  have hB : 0 ≤ B := Nat.zero_le B
  refine j_sub (lv' := [(0, .ref ax), (1, .int x1)]) [0, 1] rfl ?_
  unfold wX6_pass at hw
  refine j_iload_n (pc := 0) C dX6_pass_0 1 rfl rfl ?_
  refine j_iconst (pc := 1) (v := 1) C dX6_pass_1 (by decide) ?_
  refine j_sipush (pc := 2) (v := 2000) C dX6_pass_2 (by decide) ?_
  refine j_scalli (pc := 5) C 3 (mX6_within x1 1 2000) gX6_pass_X6_within rfl rfl rfl (by decide +kernel) ⟨Nat.le_of_ble_eq_true rfl, Nat.le_of_ble_eq_true rfl⟩ rfl rfl (Nat.le_of_ble_eq_true rfl) dX6_pass_5 ⟨hB, Nat.mul_le_mul_left 8 hB⟩ (fun r_23 er_23 => ?_)
  have hw := hw r_23 er_23
  refine j_if_ne (pc := 8) C 14 dX6_pass_8 (by decide) (fun z_24 => ?_) (fun z_24 => ?_)
  · have hw := hw.1 z_24
    refine j_iconst (pc := 14) (v := 0) C dX6_pass_14 (by decide) ?_
    refine j_istore_n (pc := 15) (lv' := [(0, .ref ax), (1, .int x1), (2, .int 0)]) C [1, 2, 0] dX6_pass_15 rfl (by decide) rfl ?_
    refine j_iconst (pc := 16) (v := 0) C dX6_pass_16 (by decide) ?_
    refine j_istore_n (pc := 17) (lv' := [(0, .ref ax), (1, .int x1), (2, .int 0), (3, .int 0)]) C [1, 2, 3, 0] dX6_pass_17 rfl (by decide) rfl ?_
    exact kX6_pass_18 C hr hG N _ _ _ _ _ _ _ _ hB hw
  · have hw := hw.2 z_24
    refine j_bipush (pc := 11) (v := (-2)) C dX6_pass_11 (by decide) ?_
    refine j_widen (k := B) (n := 8 * B) hB (Nat.mul_le_mul_left 8 hB) ?_
    exact j_iret (pc := 13) C hr (x, a0, a1, b) rfl hw dX6_pass_13

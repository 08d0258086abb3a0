/-! ===== the reference's world: one object, row 0 by its slots; arrays by the slots that hold them; nextOf apart ===== -/
abbrev jRS : Type := (Nat → Nat → Int32) × (Nat → Int64)
def pt (f : Nat → Nat → Int32) (k j : Nat) (x : Int32) : Nat → Nat → Int32 := fun i => if i = k then upd (f k) j x else f i
def rP (σ : jRS) (k j : Nat) (x : Int32) : jRS := (pt σ.1 k j x, σ.2)
def rL (σ : jRS) (j : Nat) (x : Int64) : jRS := (σ.1, vp_updL σ.2 j x)
abbrev jT (cI cJ cZ cO : ClassId) : List (ClassId × FieldType) := [(cI, .int), (cJ, .long), (cZ, .boolean), (cO, .object "ModelSender$Letter")]
def rflds (a : Nat → Nat) (σ : jRS) : List Value := [.int (σ.1 0 0), .int (σ.1 0 1), .int (σ.1 0 2), .int (σ.1 0 3), .int (σ.1 0 4), .int (σ.1 0 5), .int (σ.1 0 6), .int (σ.1 0 7), .int (σ.1 0 8), .int (σ.1 0 9), .ref (a 10), .ref (a 11), .int (σ.1 0 12), .ref (a 13), .int (σ.1 0 14), .int (σ.1 0 15), .ref (a 16), .ref (a 17), .ref (a 18), .ref (a 19), .ref (a 20), .ref (a 21), .ref (a 22), .ref (a 23), .ref (a 24), .ref (a 25), .ref (a 26), .ref (a 27), .ref (a 28), .ref (a 29), .ref (a 30), .ref (a 31), .ref (a 32), .ref (a 33), .ref (a 34), .ref (a 35), .ref (a 36), .ref (a 37), .ref (a 38), .ref (a 39), .ref (a 40), .ref (a 41), .ref (a 42), .ref (a 43), .ref (a 44), .ref (a 45), .ref (a 46), .ref (a 47), .ref (a 48), .ref (a 49)]
def rcells (a : Nat → Nat) (cI cJ cZ : ClassId) (σ : jRS) : va_W := [(a 0, .inr (7, rflds a σ)), (a 10, .inl (cI, 64, .inl (σ.1 10))), (a 11, .inl (cI, 64, .inl (σ.1 11))), (a 13, .inl (cI, 3, .inl (σ.1 13))), (a 16, .inl (cI, 2, .inl (σ.1 16))), (a 17, .inl (cI, 1024, .inl (σ.1 17))), (a 18, .inl (cI, 1024, .inl (σ.1 18))), (a 19, .inl (cI, 1024, .inl (σ.1 19))), (a 20, .inl (cI, 1024, .inl (σ.1 20))), (a 21, .inl (cZ, 1024, .inl (σ.1 21))), (a 22, .inl (cI, 1024, .inl (σ.1 22))), (a 23, .inl (cI, 2, .inl (σ.1 23))), (a 24, .inl (cI, 2, .inl (σ.1 24))), (a 25, .inl (cI, 2, .inl (σ.1 25))), (a 26, .inl (cI, 2, .inl (σ.1 26))), (a 27, .inl (cI, 2, .inl (σ.1 27))), (a 28, .inl (cI, 2, .inl (σ.1 28))), (a 29, .inl (cI, 2, .inl (σ.1 29))), (a 30, .inl (cI, 2, .inl (σ.1 30))), (a 31, .inl (cI, 2, .inl (σ.1 31))), (a 32, .inl (cI, 2, .inl (σ.1 32))), (a 33, .inl (cJ, 2, .inr (.inl σ.2))), (a 34, .inl (cI, 2, .inl (σ.1 34))), (a 35, .inl (cI, 2, .inl (σ.1 35))), (a 36, .inl (cI, 2, .inl (σ.1 36))), (a 37, .inl (cI, 16384, .inl (σ.1 37))), (a 38, .inl (cI, 16384, .inl (σ.1 38))), (a 39, .inl (cI, 2, .inl (σ.1 39))), (a 40, .inl (cI, 2, .inl (σ.1 40))), (a 41, .inl (cI, 2, .inl (σ.1 41))), (a 42, .inl (cI, 2, .inl (σ.1 42))), (a 43, .inl (cI, 2, .inl (σ.1 43))), (a 44, .inl (cZ, 2, .inl (σ.1 44))), (a 45, .inl (cI, 2, .inl (σ.1 45))), (a 46, .inl (cI, 2, .inl (σ.1 46))), (a 47, .inl (cI, 2, .inl (σ.1 47))), (a 48, .inl (cI, 24, .inl (σ.1 48))), (a 49, .inl (cI, 24, .inl (σ.1 49)))]
theorem r_at0 (a : Nat → Nat) (cI cJ cZ : ClassId) (σ : jRS) : (rcells a cI cJ cZ σ)[0]? = some (a 0, .inr (7, rflds a σ)) := rfl
theorem r_fl0 (a : Nat → Nat) (σ : jRS) : (rflds a σ)[0]? = some (.int (σ.1 0 0)) := rfl
theorem r_s0_0 (a : Nat → Nat) (cI cJ cZ : ClassId) (σ : jRS) (x : Int32) : (rcells a cI cJ cZ σ).set 0 (a 0, .inr (7, (rflds a σ).set 0 (.int x))) = rcells a cI cJ cZ (rP σ 0 0 x) := rfl
theorem r_fl1 (a : Nat → Nat) (σ : jRS) : (rflds a σ)[1]? = some (.int (σ.1 0 1)) := rfl
theorem r_s0_1 (a : Nat → Nat) (cI cJ cZ : ClassId) (σ : jRS) (x : Int32) : (rcells a cI cJ cZ σ).set 0 (a 0, .inr (7, (rflds a σ).set 1 (.int x))) = rcells a cI cJ cZ (rP σ 0 1 x) := rfl
theorem r_fl2 (a : Nat → Nat) (σ : jRS) : (rflds a σ)[2]? = some (.int (σ.1 0 2)) := rfl
theorem r_s0_2 (a : Nat → Nat) (cI cJ cZ : ClassId) (σ : jRS) (x : Int32) : (rcells a cI cJ cZ σ).set 0 (a 0, .inr (7, (rflds a σ).set 2 (.int x))) = rcells a cI cJ cZ (rP σ 0 2 x) := rfl
theorem r_fl3 (a : Nat → Nat) (σ : jRS) : (rflds a σ)[3]? = some (.int (σ.1 0 3)) := rfl
theorem r_s0_3 (a : Nat → Nat) (cI cJ cZ : ClassId) (σ : jRS) (x : Int32) : (rcells a cI cJ cZ σ).set 0 (a 0, .inr (7, (rflds a σ).set 3 (.int x))) = rcells a cI cJ cZ (rP σ 0 3 x) := rfl
theorem r_fl4 (a : Nat → Nat) (σ : jRS) : (rflds a σ)[4]? = some (.int (σ.1 0 4)) := rfl
theorem r_s0_4 (a : Nat → Nat) (cI cJ cZ : ClassId) (σ : jRS) (x : Int32) : (rcells a cI cJ cZ σ).set 0 (a 0, .inr (7, (rflds a σ).set 4 (.int x))) = rcells a cI cJ cZ (rP σ 0 4 x) := rfl
theorem r_fl5 (a : Nat → Nat) (σ : jRS) : (rflds a σ)[5]? = some (.int (σ.1 0 5)) := rfl
theorem r_s0_5 (a : Nat → Nat) (cI cJ cZ : ClassId) (σ : jRS) (x : Int32) : (rcells a cI cJ cZ σ).set 0 (a 0, .inr (7, (rflds a σ).set 5 (.int x))) = rcells a cI cJ cZ (rP σ 0 5 x) := rfl
theorem r_fl6 (a : Nat → Nat) (σ : jRS) : (rflds a σ)[6]? = some (.int (σ.1 0 6)) := rfl
theorem r_s0_6 (a : Nat → Nat) (cI cJ cZ : ClassId) (σ : jRS) (x : Int32) : (rcells a cI cJ cZ σ).set 0 (a 0, .inr (7, (rflds a σ).set 6 (.int x))) = rcells a cI cJ cZ (rP σ 0 6 x) := rfl
theorem r_fl7 (a : Nat → Nat) (σ : jRS) : (rflds a σ)[7]? = some (.int (σ.1 0 7)) := rfl
theorem r_s0_7 (a : Nat → Nat) (cI cJ cZ : ClassId) (σ : jRS) (x : Int32) : (rcells a cI cJ cZ σ).set 0 (a 0, .inr (7, (rflds a σ).set 7 (.int x))) = rcells a cI cJ cZ (rP σ 0 7 x) := rfl
theorem r_fl8 (a : Nat → Nat) (σ : jRS) : (rflds a σ)[8]? = some (.int (σ.1 0 8)) := rfl
theorem r_s0_8 (a : Nat → Nat) (cI cJ cZ : ClassId) (σ : jRS) (x : Int32) : (rcells a cI cJ cZ σ).set 0 (a 0, .inr (7, (rflds a σ).set 8 (.int x))) = rcells a cI cJ cZ (rP σ 0 8 x) := rfl
theorem r_fl9 (a : Nat → Nat) (σ : jRS) : (rflds a σ)[9]? = some (.int (σ.1 0 9)) := rfl
theorem r_s0_9 (a : Nat → Nat) (cI cJ cZ : ClassId) (σ : jRS) (x : Int32) : (rcells a cI cJ cZ σ).set 0 (a 0, .inr (7, (rflds a σ).set 9 (.int x))) = rcells a cI cJ cZ (rP σ 0 9 x) := rfl
theorem r_fl10 (a : Nat → Nat) (σ : jRS) : (rflds a σ)[10]? = some (.ref (a 10)) := rfl
theorem r_fl11 (a : Nat → Nat) (σ : jRS) : (rflds a σ)[11]? = some (.ref (a 11)) := rfl
theorem r_fl12 (a : Nat → Nat) (σ : jRS) : (rflds a σ)[12]? = some (.int (σ.1 0 12)) := rfl
theorem r_s0_12 (a : Nat → Nat) (cI cJ cZ : ClassId) (σ : jRS) (x : Int32) : (rcells a cI cJ cZ σ).set 0 (a 0, .inr (7, (rflds a σ).set 12 (.int x))) = rcells a cI cJ cZ (rP σ 0 12 x) := rfl
theorem r_fl13 (a : Nat → Nat) (σ : jRS) : (rflds a σ)[13]? = some (.ref (a 13)) := rfl
theorem r_fl14 (a : Nat → Nat) (σ : jRS) : (rflds a σ)[14]? = some (.int (σ.1 0 14)) := rfl
theorem r_s0_14 (a : Nat → Nat) (cI cJ cZ : ClassId) (σ : jRS) (x : Int32) : (rcells a cI cJ cZ σ).set 0 (a 0, .inr (7, (rflds a σ).set 14 (.int x))) = rcells a cI cJ cZ (rP σ 0 14 x) := rfl
theorem r_fl15 (a : Nat → Nat) (σ : jRS) : (rflds a σ)[15]? = some (.int (σ.1 0 15)) := rfl
theorem r_s0_15 (a : Nat → Nat) (cI cJ cZ : ClassId) (σ : jRS) (x : Int32) : (rcells a cI cJ cZ σ).set 0 (a 0, .inr (7, (rflds a σ).set 15 (.int x))) = rcells a cI cJ cZ (rP σ 0 15 x) := rfl
theorem r_fl16 (a : Nat → Nat) (σ : jRS) : (rflds a σ)[16]? = some (.ref (a 16)) := rfl
theorem r_fl17 (a : Nat → Nat) (σ : jRS) : (rflds a σ)[17]? = some (.ref (a 17)) := rfl
theorem r_fl18 (a : Nat → Nat) (σ : jRS) : (rflds a σ)[18]? = some (.ref (a 18)) := rfl
theorem r_fl19 (a : Nat → Nat) (σ : jRS) : (rflds a σ)[19]? = some (.ref (a 19)) := rfl
theorem r_fl20 (a : Nat → Nat) (σ : jRS) : (rflds a σ)[20]? = some (.ref (a 20)) := rfl
theorem r_fl21 (a : Nat → Nat) (σ : jRS) : (rflds a σ)[21]? = some (.ref (a 21)) := rfl
theorem r_fl22 (a : Nat → Nat) (σ : jRS) : (rflds a σ)[22]? = some (.ref (a 22)) := rfl
theorem r_fl23 (a : Nat → Nat) (σ : jRS) : (rflds a σ)[23]? = some (.ref (a 23)) := rfl
theorem r_fl24 (a : Nat → Nat) (σ : jRS) : (rflds a σ)[24]? = some (.ref (a 24)) := rfl
theorem r_fl25 (a : Nat → Nat) (σ : jRS) : (rflds a σ)[25]? = some (.ref (a 25)) := rfl
theorem r_fl26 (a : Nat → Nat) (σ : jRS) : (rflds a σ)[26]? = some (.ref (a 26)) := rfl
theorem r_fl27 (a : Nat → Nat) (σ : jRS) : (rflds a σ)[27]? = some (.ref (a 27)) := rfl
theorem r_fl28 (a : Nat → Nat) (σ : jRS) : (rflds a σ)[28]? = some (.ref (a 28)) := rfl
theorem r_fl29 (a : Nat → Nat) (σ : jRS) : (rflds a σ)[29]? = some (.ref (a 29)) := rfl
theorem r_fl30 (a : Nat → Nat) (σ : jRS) : (rflds a σ)[30]? = some (.ref (a 30)) := rfl
theorem r_fl31 (a : Nat → Nat) (σ : jRS) : (rflds a σ)[31]? = some (.ref (a 31)) := rfl
theorem r_fl32 (a : Nat → Nat) (σ : jRS) : (rflds a σ)[32]? = some (.ref (a 32)) := rfl
theorem r_fl33 (a : Nat → Nat) (σ : jRS) : (rflds a σ)[33]? = some (.ref (a 33)) := rfl
theorem r_fl34 (a : Nat → Nat) (σ : jRS) : (rflds a σ)[34]? = some (.ref (a 34)) := rfl
theorem r_fl35 (a : Nat → Nat) (σ : jRS) : (rflds a σ)[35]? = some (.ref (a 35)) := rfl
theorem r_fl36 (a : Nat → Nat) (σ : jRS) : (rflds a σ)[36]? = some (.ref (a 36)) := rfl
theorem r_fl37 (a : Nat → Nat) (σ : jRS) : (rflds a σ)[37]? = some (.ref (a 37)) := rfl
theorem r_fl38 (a : Nat → Nat) (σ : jRS) : (rflds a σ)[38]? = some (.ref (a 38)) := rfl
theorem r_fl39 (a : Nat → Nat) (σ : jRS) : (rflds a σ)[39]? = some (.ref (a 39)) := rfl
theorem r_fl40 (a : Nat → Nat) (σ : jRS) : (rflds a σ)[40]? = some (.ref (a 40)) := rfl
theorem r_fl41 (a : Nat → Nat) (σ : jRS) : (rflds a σ)[41]? = some (.ref (a 41)) := rfl
theorem r_fl42 (a : Nat → Nat) (σ : jRS) : (rflds a σ)[42]? = some (.ref (a 42)) := rfl
theorem r_fl43 (a : Nat → Nat) (σ : jRS) : (rflds a σ)[43]? = some (.ref (a 43)) := rfl
theorem r_fl44 (a : Nat → Nat) (σ : jRS) : (rflds a σ)[44]? = some (.ref (a 44)) := rfl
theorem r_fl45 (a : Nat → Nat) (σ : jRS) : (rflds a σ)[45]? = some (.ref (a 45)) := rfl
theorem r_fl46 (a : Nat → Nat) (σ : jRS) : (rflds a σ)[46]? = some (.ref (a 46)) := rfl
theorem r_fl47 (a : Nat → Nat) (σ : jRS) : (rflds a σ)[47]? = some (.ref (a 47)) := rfl
theorem r_fl48 (a : Nat → Nat) (σ : jRS) : (rflds a σ)[48]? = some (.ref (a 48)) := rfl
theorem r_fl49 (a : Nat → Nat) (σ : jRS) : (rflds a σ)[49]? = some (.ref (a 49)) := rfl
theorem r_at10 (a : Nat → Nat) (cI cJ cZ : ClassId) (σ : jRS) : (rcells a cI cJ cZ σ)[1]? = some (a 10, .inl (cI, 64, .inl (σ.1 10))) := rfl
theorem r_s10 (a : Nat → Nat) (cI cJ cZ : ClassId) (σ : jRS) (j : Nat) (x : Int32) : (rcells a cI cJ cZ σ).set 1 (a 10, .inl (cI, 64, .inl (upd (σ.1 10) j x))) = rcells a cI cJ cZ (rP σ 10 j x) := rfl
theorem r_at11 (a : Nat → Nat) (cI cJ cZ : ClassId) (σ : jRS) : (rcells a cI cJ cZ σ)[2]? = some (a 11, .inl (cI, 64, .inl (σ.1 11))) := rfl
theorem r_s11 (a : Nat → Nat) (cI cJ cZ : ClassId) (σ : jRS) (j : Nat) (x : Int32) : (rcells a cI cJ cZ σ).set 2 (a 11, .inl (cI, 64, .inl (upd (σ.1 11) j x))) = rcells a cI cJ cZ (rP σ 11 j x) := rfl
theorem r_at13 (a : Nat → Nat) (cI cJ cZ : ClassId) (σ : jRS) : (rcells a cI cJ cZ σ)[3]? = some (a 13, .inl (cI, 3, .inl (σ.1 13))) := rfl
theorem r_s13 (a : Nat → Nat) (cI cJ cZ : ClassId) (σ : jRS) (j : Nat) (x : Int32) : (rcells a cI cJ cZ σ).set 3 (a 13, .inl (cI, 3, .inl (upd (σ.1 13) j x))) = rcells a cI cJ cZ (rP σ 13 j x) := rfl
theorem r_at16 (a : Nat → Nat) (cI cJ cZ : ClassId) (σ : jRS) : (rcells a cI cJ cZ σ)[4]? = some (a 16, .inl (cI, 2, .inl (σ.1 16))) := rfl
theorem r_s16 (a : Nat → Nat) (cI cJ cZ : ClassId) (σ : jRS) (j : Nat) (x : Int32) : (rcells a cI cJ cZ σ).set 4 (a 16, .inl (cI, 2, .inl (upd (σ.1 16) j x))) = rcells a cI cJ cZ (rP σ 16 j x) := rfl
theorem r_at17 (a : Nat → Nat) (cI cJ cZ : ClassId) (σ : jRS) : (rcells a cI cJ cZ σ)[5]? = some (a 17, .inl (cI, 1024, .inl (σ.1 17))) := rfl
theorem r_s17 (a : Nat → Nat) (cI cJ cZ : ClassId) (σ : jRS) (j : Nat) (x : Int32) : (rcells a cI cJ cZ σ).set 5 (a 17, .inl (cI, 1024, .inl (upd (σ.1 17) j x))) = rcells a cI cJ cZ (rP σ 17 j x) := rfl
theorem r_at18 (a : Nat → Nat) (cI cJ cZ : ClassId) (σ : jRS) : (rcells a cI cJ cZ σ)[6]? = some (a 18, .inl (cI, 1024, .inl (σ.1 18))) := rfl
theorem r_s18 (a : Nat → Nat) (cI cJ cZ : ClassId) (σ : jRS) (j : Nat) (x : Int32) : (rcells a cI cJ cZ σ).set 6 (a 18, .inl (cI, 1024, .inl (upd (σ.1 18) j x))) = rcells a cI cJ cZ (rP σ 18 j x) := rfl
theorem r_at19 (a : Nat → Nat) (cI cJ cZ : ClassId) (σ : jRS) : (rcells a cI cJ cZ σ)[7]? = some (a 19, .inl (cI, 1024, .inl (σ.1 19))) := rfl
theorem r_s19 (a : Nat → Nat) (cI cJ cZ : ClassId) (σ : jRS) (j : Nat) (x : Int32) : (rcells a cI cJ cZ σ).set 7 (a 19, .inl (cI, 1024, .inl (upd (σ.1 19) j x))) = rcells a cI cJ cZ (rP σ 19 j x) := rfl
theorem r_at20 (a : Nat → Nat) (cI cJ cZ : ClassId) (σ : jRS) : (rcells a cI cJ cZ σ)[8]? = some (a 20, .inl (cI, 1024, .inl (σ.1 20))) := rfl
theorem r_s20 (a : Nat → Nat) (cI cJ cZ : ClassId) (σ : jRS) (j : Nat) (x : Int32) : (rcells a cI cJ cZ σ).set 8 (a 20, .inl (cI, 1024, .inl (upd (σ.1 20) j x))) = rcells a cI cJ cZ (rP σ 20 j x) := rfl
theorem r_at21 (a : Nat → Nat) (cI cJ cZ : ClassId) (σ : jRS) : (rcells a cI cJ cZ σ)[9]? = some (a 21, .inl (cZ, 1024, .inl (σ.1 21))) := rfl
theorem r_s21 (a : Nat → Nat) (cI cJ cZ : ClassId) (σ : jRS) (j : Nat) (x : Int32) : (rcells a cI cJ cZ σ).set 9 (a 21, .inl (cZ, 1024, .inl (upd (σ.1 21) j x))) = rcells a cI cJ cZ (rP σ 21 j x) := rfl
theorem r_at22 (a : Nat → Nat) (cI cJ cZ : ClassId) (σ : jRS) : (rcells a cI cJ cZ σ)[10]? = some (a 22, .inl (cI, 1024, .inl (σ.1 22))) := rfl
theorem r_s22 (a : Nat → Nat) (cI cJ cZ : ClassId) (σ : jRS) (j : Nat) (x : Int32) : (rcells a cI cJ cZ σ).set 10 (a 22, .inl (cI, 1024, .inl (upd (σ.1 22) j x))) = rcells a cI cJ cZ (rP σ 22 j x) := rfl
theorem r_at23 (a : Nat → Nat) (cI cJ cZ : ClassId) (σ : jRS) : (rcells a cI cJ cZ σ)[11]? = some (a 23, .inl (cI, 2, .inl (σ.1 23))) := rfl
theorem r_s23 (a : Nat → Nat) (cI cJ cZ : ClassId) (σ : jRS) (j : Nat) (x : Int32) : (rcells a cI cJ cZ σ).set 11 (a 23, .inl (cI, 2, .inl (upd (σ.1 23) j x))) = rcells a cI cJ cZ (rP σ 23 j x) := rfl
theorem r_at24 (a : Nat → Nat) (cI cJ cZ : ClassId) (σ : jRS) : (rcells a cI cJ cZ σ)[12]? = some (a 24, .inl (cI, 2, .inl (σ.1 24))) := rfl
theorem r_s24 (a : Nat → Nat) (cI cJ cZ : ClassId) (σ : jRS) (j : Nat) (x : Int32) : (rcells a cI cJ cZ σ).set 12 (a 24, .inl (cI, 2, .inl (upd (σ.1 24) j x))) = rcells a cI cJ cZ (rP σ 24 j x) := rfl
theorem r_at25 (a : Nat → Nat) (cI cJ cZ : ClassId) (σ : jRS) : (rcells a cI cJ cZ σ)[13]? = some (a 25, .inl (cI, 2, .inl (σ.1 25))) := rfl
theorem r_s25 (a : Nat → Nat) (cI cJ cZ : ClassId) (σ : jRS) (j : Nat) (x : Int32) : (rcells a cI cJ cZ σ).set 13 (a 25, .inl (cI, 2, .inl (upd (σ.1 25) j x))) = rcells a cI cJ cZ (rP σ 25 j x) := rfl
theorem r_at26 (a : Nat → Nat) (cI cJ cZ : ClassId) (σ : jRS) : (rcells a cI cJ cZ σ)[14]? = some (a 26, .inl (cI, 2, .inl (σ.1 26))) := rfl
theorem r_s26 (a : Nat → Nat) (cI cJ cZ : ClassId) (σ : jRS) (j : Nat) (x : Int32) : (rcells a cI cJ cZ σ).set 14 (a 26, .inl (cI, 2, .inl (upd (σ.1 26) j x))) = rcells a cI cJ cZ (rP σ 26 j x) := rfl
theorem r_at27 (a : Nat → Nat) (cI cJ cZ : ClassId) (σ : jRS) : (rcells a cI cJ cZ σ)[15]? = some (a 27, .inl (cI, 2, .inl (σ.1 27))) := rfl
theorem r_s27 (a : Nat → Nat) (cI cJ cZ : ClassId) (σ : jRS) (j : Nat) (x : Int32) : (rcells a cI cJ cZ σ).set 15 (a 27, .inl (cI, 2, .inl (upd (σ.1 27) j x))) = rcells a cI cJ cZ (rP σ 27 j x) := rfl
theorem r_at28 (a : Nat → Nat) (cI cJ cZ : ClassId) (σ : jRS) : (rcells a cI cJ cZ σ)[16]? = some (a 28, .inl (cI, 2, .inl (σ.1 28))) := rfl
theorem r_s28 (a : Nat → Nat) (cI cJ cZ : ClassId) (σ : jRS) (j : Nat) (x : Int32) : (rcells a cI cJ cZ σ).set 16 (a 28, .inl (cI, 2, .inl (upd (σ.1 28) j x))) = rcells a cI cJ cZ (rP σ 28 j x) := rfl
theorem r_at29 (a : Nat → Nat) (cI cJ cZ : ClassId) (σ : jRS) : (rcells a cI cJ cZ σ)[17]? = some (a 29, .inl (cI, 2, .inl (σ.1 29))) := rfl
theorem r_s29 (a : Nat → Nat) (cI cJ cZ : ClassId) (σ : jRS) (j : Nat) (x : Int32) : (rcells a cI cJ cZ σ).set 17 (a 29, .inl (cI, 2, .inl (upd (σ.1 29) j x))) = rcells a cI cJ cZ (rP σ 29 j x) := rfl
theorem r_at30 (a : Nat → Nat) (cI cJ cZ : ClassId) (σ : jRS) : (rcells a cI cJ cZ σ)[18]? = some (a 30, .inl (cI, 2, .inl (σ.1 30))) := rfl
theorem r_s30 (a : Nat → Nat) (cI cJ cZ : ClassId) (σ : jRS) (j : Nat) (x : Int32) : (rcells a cI cJ cZ σ).set 18 (a 30, .inl (cI, 2, .inl (upd (σ.1 30) j x))) = rcells a cI cJ cZ (rP σ 30 j x) := rfl
theorem r_at31 (a : Nat → Nat) (cI cJ cZ : ClassId) (σ : jRS) : (rcells a cI cJ cZ σ)[19]? = some (a 31, .inl (cI, 2, .inl (σ.1 31))) := rfl
theorem r_s31 (a : Nat → Nat) (cI cJ cZ : ClassId) (σ : jRS) (j : Nat) (x : Int32) : (rcells a cI cJ cZ σ).set 19 (a 31, .inl (cI, 2, .inl (upd (σ.1 31) j x))) = rcells a cI cJ cZ (rP σ 31 j x) := rfl
theorem r_at32 (a : Nat → Nat) (cI cJ cZ : ClassId) (σ : jRS) : (rcells a cI cJ cZ σ)[20]? = some (a 32, .inl (cI, 2, .inl (σ.1 32))) := rfl
theorem r_s32 (a : Nat → Nat) (cI cJ cZ : ClassId) (σ : jRS) (j : Nat) (x : Int32) : (rcells a cI cJ cZ σ).set 20 (a 32, .inl (cI, 2, .inl (upd (σ.1 32) j x))) = rcells a cI cJ cZ (rP σ 32 j x) := rfl
theorem r_at33 (a : Nat → Nat) (cI cJ cZ : ClassId) (σ : jRS) : (rcells a cI cJ cZ σ)[21]? = some (a 33, .inl (cJ, 2, .inr (.inl σ.2))) := rfl
theorem r_s33 (a : Nat → Nat) (cI cJ cZ : ClassId) (σ : jRS) (j : Nat) (x : Int64) : (rcells a cI cJ cZ σ).set 21 (a 33, .inl (cJ, 2, .inr (.inl (vp_updL σ.2 j x)))) = rcells a cI cJ cZ (rL σ j x) := rfl
theorem r_at34 (a : Nat → Nat) (cI cJ cZ : ClassId) (σ : jRS) : (rcells a cI cJ cZ σ)[22]? = some (a 34, .inl (cI, 2, .inl (σ.1 34))) := rfl
theorem r_s34 (a : Nat → Nat) (cI cJ cZ : ClassId) (σ : jRS) (j : Nat) (x : Int32) : (rcells a cI cJ cZ σ).set 22 (a 34, .inl (cI, 2, .inl (upd (σ.1 34) j x))) = rcells a cI cJ cZ (rP σ 34 j x) := rfl
theorem r_at35 (a : Nat → Nat) (cI cJ cZ : ClassId) (σ : jRS) : (rcells a cI cJ cZ σ)[23]? = some (a 35, .inl (cI, 2, .inl (σ.1 35))) := rfl
theorem r_s35 (a : Nat → Nat) (cI cJ cZ : ClassId) (σ : jRS) (j : Nat) (x : Int32) : (rcells a cI cJ cZ σ).set 23 (a 35, .inl (cI, 2, .inl (upd (σ.1 35) j x))) = rcells a cI cJ cZ (rP σ 35 j x) := rfl
theorem r_at36 (a : Nat → Nat) (cI cJ cZ : ClassId) (σ : jRS) : (rcells a cI cJ cZ σ)[24]? = some (a 36, .inl (cI, 2, .inl (σ.1 36))) := rfl
theorem r_s36 (a : Nat → Nat) (cI cJ cZ : ClassId) (σ : jRS) (j : Nat) (x : Int32) : (rcells a cI cJ cZ σ).set 24 (a 36, .inl (cI, 2, .inl (upd (σ.1 36) j x))) = rcells a cI cJ cZ (rP σ 36 j x) := rfl
theorem r_at37 (a : Nat → Nat) (cI cJ cZ : ClassId) (σ : jRS) : (rcells a cI cJ cZ σ)[25]? = some (a 37, .inl (cI, 16384, .inl (σ.1 37))) := rfl
theorem r_s37 (a : Nat → Nat) (cI cJ cZ : ClassId) (σ : jRS) (j : Nat) (x : Int32) : (rcells a cI cJ cZ σ).set 25 (a 37, .inl (cI, 16384, .inl (upd (σ.1 37) j x))) = rcells a cI cJ cZ (rP σ 37 j x) := rfl
theorem r_at38 (a : Nat → Nat) (cI cJ cZ : ClassId) (σ : jRS) : (rcells a cI cJ cZ σ)[26]? = some (a 38, .inl (cI, 16384, .inl (σ.1 38))) := rfl
theorem r_s38 (a : Nat → Nat) (cI cJ cZ : ClassId) (σ : jRS) (j : Nat) (x : Int32) : (rcells a cI cJ cZ σ).set 26 (a 38, .inl (cI, 16384, .inl (upd (σ.1 38) j x))) = rcells a cI cJ cZ (rP σ 38 j x) := rfl
theorem r_at39 (a : Nat → Nat) (cI cJ cZ : ClassId) (σ : jRS) : (rcells a cI cJ cZ σ)[27]? = some (a 39, .inl (cI, 2, .inl (σ.1 39))) := rfl
theorem r_s39 (a : Nat → Nat) (cI cJ cZ : ClassId) (σ : jRS) (j : Nat) (x : Int32) : (rcells a cI cJ cZ σ).set 27 (a 39, .inl (cI, 2, .inl (upd (σ.1 39) j x))) = rcells a cI cJ cZ (rP σ 39 j x) := rfl
theorem r_at40 (a : Nat → Nat) (cI cJ cZ : ClassId) (σ : jRS) : (rcells a cI cJ cZ σ)[28]? = some (a 40, .inl (cI, 2, .inl (σ.1 40))) := rfl
theorem r_s40 (a : Nat → Nat) (cI cJ cZ : ClassId) (σ : jRS) (j : Nat) (x : Int32) : (rcells a cI cJ cZ σ).set 28 (a 40, .inl (cI, 2, .inl (upd (σ.1 40) j x))) = rcells a cI cJ cZ (rP σ 40 j x) := rfl
theorem r_at41 (a : Nat → Nat) (cI cJ cZ : ClassId) (σ : jRS) : (rcells a cI cJ cZ σ)[29]? = some (a 41, .inl (cI, 2, .inl (σ.1 41))) := rfl
theorem r_s41 (a : Nat → Nat) (cI cJ cZ : ClassId) (σ : jRS) (j : Nat) (x : Int32) : (rcells a cI cJ cZ σ).set 29 (a 41, .inl (cI, 2, .inl (upd (σ.1 41) j x))) = rcells a cI cJ cZ (rP σ 41 j x) := rfl
theorem r_at42 (a : Nat → Nat) (cI cJ cZ : ClassId) (σ : jRS) : (rcells a cI cJ cZ σ)[30]? = some (a 42, .inl (cI, 2, .inl (σ.1 42))) := rfl
theorem r_s42 (a : Nat → Nat) (cI cJ cZ : ClassId) (σ : jRS) (j : Nat) (x : Int32) : (rcells a cI cJ cZ σ).set 30 (a 42, .inl (cI, 2, .inl (upd (σ.1 42) j x))) = rcells a cI cJ cZ (rP σ 42 j x) := rfl
theorem r_at43 (a : Nat → Nat) (cI cJ cZ : ClassId) (σ : jRS) : (rcells a cI cJ cZ σ)[31]? = some (a 43, .inl (cI, 2, .inl (σ.1 43))) := rfl
theorem r_s43 (a : Nat → Nat) (cI cJ cZ : ClassId) (σ : jRS) (j : Nat) (x : Int32) : (rcells a cI cJ cZ σ).set 31 (a 43, .inl (cI, 2, .inl (upd (σ.1 43) j x))) = rcells a cI cJ cZ (rP σ 43 j x) := rfl
theorem r_at44 (a : Nat → Nat) (cI cJ cZ : ClassId) (σ : jRS) : (rcells a cI cJ cZ σ)[32]? = some (a 44, .inl (cZ, 2, .inl (σ.1 44))) := rfl
theorem r_s44 (a : Nat → Nat) (cI cJ cZ : ClassId) (σ : jRS) (j : Nat) (x : Int32) : (rcells a cI cJ cZ σ).set 32 (a 44, .inl (cZ, 2, .inl (upd (σ.1 44) j x))) = rcells a cI cJ cZ (rP σ 44 j x) := rfl
theorem r_at45 (a : Nat → Nat) (cI cJ cZ : ClassId) (σ : jRS) : (rcells a cI cJ cZ σ)[33]? = some (a 45, .inl (cI, 2, .inl (σ.1 45))) := rfl
theorem r_s45 (a : Nat → Nat) (cI cJ cZ : ClassId) (σ : jRS) (j : Nat) (x : Int32) : (rcells a cI cJ cZ σ).set 33 (a 45, .inl (cI, 2, .inl (upd (σ.1 45) j x))) = rcells a cI cJ cZ (rP σ 45 j x) := rfl
theorem r_at46 (a : Nat → Nat) (cI cJ cZ : ClassId) (σ : jRS) : (rcells a cI cJ cZ σ)[34]? = some (a 46, .inl (cI, 2, .inl (σ.1 46))) := rfl
theorem r_s46 (a : Nat → Nat) (cI cJ cZ : ClassId) (σ : jRS) (j : Nat) (x : Int32) : (rcells a cI cJ cZ σ).set 34 (a 46, .inl (cI, 2, .inl (upd (σ.1 46) j x))) = rcells a cI cJ cZ (rP σ 46 j x) := rfl
theorem r_at47 (a : Nat → Nat) (cI cJ cZ : ClassId) (σ : jRS) : (rcells a cI cJ cZ σ)[35]? = some (a 47, .inl (cI, 2, .inl (σ.1 47))) := rfl
theorem r_s47 (a : Nat → Nat) (cI cJ cZ : ClassId) (σ : jRS) (j : Nat) (x : Int32) : (rcells a cI cJ cZ σ).set 35 (a 47, .inl (cI, 2, .inl (upd (σ.1 47) j x))) = rcells a cI cJ cZ (rP σ 47 j x) := rfl
theorem r_at48 (a : Nat → Nat) (cI cJ cZ : ClassId) (σ : jRS) : (rcells a cI cJ cZ σ)[36]? = some (a 48, .inl (cI, 24, .inl (σ.1 48))) := rfl
theorem r_s48 (a : Nat → Nat) (cI cJ cZ : ClassId) (σ : jRS) (j : Nat) (x : Int32) : (rcells a cI cJ cZ σ).set 36 (a 48, .inl (cI, 24, .inl (upd (σ.1 48) j x))) = rcells a cI cJ cZ (rP σ 48 j x) := rfl
theorem r_at49 (a : Nat → Nat) (cI cJ cZ : ClassId) (σ : jRS) : (rcells a cI cJ cZ σ)[37]? = some (a 49, .inl (cI, 24, .inl (σ.1 49))) := rfl
theorem r_s49 (a : Nat → Nat) (cI cJ cZ : ClassId) (σ : jRS) (j : Nat) (x : Int32) : (rcells a cI cJ cZ σ).set 37 (a 49, .inl (cI, 24, .inl (upd (σ.1 49) j x))) = rcells a cI cJ cZ (rP σ 49 j x) := rfl

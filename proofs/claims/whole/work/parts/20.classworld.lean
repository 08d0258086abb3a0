/-! ===== the class's world: a sender's cells (object, row 0; OnWay 1; Samples 2; Course 3; rates 4, counts 5, greatest 6, turnTicks 7, turnStates 8; letters 9), the gate's two, letters in a pool ===== -/
abbrev jSS : Type := (Nat → Nat → Int32) × Int64 × (Nat → Option Nat)
def aP (a : jSS) (k j : Nat) (x : Int32) : jSS := (pt a.1 k j x, a.2)
def aN (a : jSS) (x : Int64) : jSS := (a.1, x, a.2.2)
def aL (a : jSS) (j : Nat) (r : Option Nat) : jSS := (a.1, a.2.1, va_up a.2.2 j r)
abbrev jGS : Type := (Nat → Int32) × Option Nat × (Nat → Option Nat) × List Nat × (Nat → Nat → Int32) × (Nat → Option Nat)
def gI (b : jGS) : Nat → Int32 := b.1
def gV (b : jGS) : Option Nat := b.2.1
def gLn (b : jGS) : Nat → Option Nat := b.2.2.1
def gLP (b : jGS) : List Nat := b.2.2.2.1
def gF (b : jGS) : Nat → Nat → Int32 := b.2.2.2.2.1
def gO (b : jGS) : Nat → Option Nat := b.2.2.2.2.2
def gP (b : jGS) (j : Nat) (x : Int32) : jGS := (upd b.1 j x, b.2)
def gS (b : jGS) (r : Option Nat) : jGS := (b.1, r, b.2.2)
def gL (b : jGS) (j : Nat) (r : Option Nat) : jGS := (b.1, b.2.1, va_up b.2.2.1 j r, b.2.2.2)
def gFP (b : jGS) (q k : Nat) (x : Int32) : jGS := (b.1, b.2.1, b.2.2.1, b.2.2.2.1, pt b.2.2.2.2.1 q k x, b.2.2.2.2.2)
def gOP (b : jGS) (q : Nat) (r : Option Nat) : jGS := (b.1, b.2.1, b.2.2.1, b.2.2.2.1, b.2.2.2.2.1, va_up b.2.2.2.2.2 q r)
def gNew (b : jGS) (q : Nat) : jGS := (b.1, b.2.1, b.2.2.1, b.2.2.2.1 ++ [q], va_up b.2.2.2.2.1 q (fun _ => 0), va_up b.2.2.2.2.2 q none)
def sfl0 (f : Nat → Nat) (a : jSS) : List Value := [.ref (f 1), .ref (f 2), .ref (f 3), .int (a.1 0 3), .int (a.1 0 4), .int (a.1 0 5), .int (a.1 0 6), .int (a.1 0 7), .int (a.1 0 8), .int (a.1 0 9), .int (a.1 0 10), .int (a.1 0 11), .int (a.1 0 12), .int (a.1 0 13), .int (a.1 0 14), .long a.2.1]
def sfl1 (f : Nat → Nat) (a : jSS) : List Value := [.ref (f 9), .int (a.1 1 1)]
def sfl2 (f : Nat → Nat) (a : jSS) : List Value := [.ref (f 4), .ref (f 5), .ref (f 6), .int (a.1 2 3), .int (a.1 2 4)]
def sfl3 (f : Nat → Nat) (a : jSS) : List Value := [.int (a.1 3 0), .int (a.1 3 1), .int (a.1 3 2), .int (a.1 3 3), .int (a.1 3 4), .int (a.1 3 5), .int (a.1 3 6), .int (a.1 3 7), .int (a.1 3 8), .int (a.1 3 9), .ref (f 7), .ref (f 8)]
def scells (f : Nat → Nat) (cI cO : ClassId) (a : jSS) : va_W := [(f 0, .inr (5, sfl0 f a)), (f 1, .inr (3, sfl1 f a)), (f 2, .inr (4, sfl2 f a)), (f 3, .inr (0, sfl3 f a)), (f 4, .inl (cI, 2610, .inl (a.1 4))), (f 5, .inl (cI, 10, .inl (a.1 5))), (f 6, .inl (cI, 10, .inl (a.1 6))), (f 7, .inl (cI, 12, .inl (a.1 7))), (f 8, .inl (cI, 12, .inl (a.1 8))), (f 9, .inl (cO, 262, .inr (.inr (.inr (.inr a.2.2)))))]
def acells (f : Nat → Nat) (cI cO : ClassId) (Y : va_W) (a : jSS) : va_W := scells f cI cO a ++ Y
def gfl (h : Nat → Nat) (b : jGS) : List Value := [.int (gI b 0), .int (gI b 1), .int (gI b 2), va_rf (gV b), .int (gI b 4), .ref (h 1), .int (gI b 6), .int (gI b 7), .int (gI b 8), .int (gI b 9), .int (gI b 10), .ref (h 2)]
def lfl (b : jGS) (q : Nat) : List Value := [va_rf (gO b q), .int (gF b q 1), .int (gF b q 2), .int (gF b q 3), .int (gF b q 4), .int (gF b q 5), .int (gF b q 6), .int (gF b q 7)]
def lcell (b : jGS) : Nat → va_E := fun q => .inr (2, lfl b q)
def gcells (h : Nat → Nat) (cO : ClassId) (b : jGS) : va_W := [(h 0, .inr (1, gfl h b)), (h 1, .inl (cO, 60, .inr (.inr (.inr (.inr (gLn b))))))]
def bY (h : Nat → Nat) (cO : ClassId) (Y : va_W) (b : jGS) : va_W := (gcells h cO b ++ Y) ++ va_pl (gLP b) (lcell b)
def bF (f h : Nat → Nat) (cI cO : ClassId) (Y : va_W) (u : jSS × jGS) : va_W := acells f cI cO (bY h cO Y u.2) u.1
theorem c_at0 (f : Nat → Nat) (cI cO : ClassId) (Y : va_W) (a : jSS) : (acells f cI cO Y a)[0]? = some (f 0, .inr (5, sfl0 f a)) := rfl
theorem c_fl0_0 (f : Nat → Nat) (a : jSS) : (sfl0 f a)[0]? = some (.ref (f 1)) := rfl
theorem c_fl0_1 (f : Nat → Nat) (a : jSS) : (sfl0 f a)[1]? = some (.ref (f 2)) := rfl
theorem c_fl0_2 (f : Nat → Nat) (a : jSS) : (sfl0 f a)[2]? = some (.ref (f 3)) := rfl
theorem c_fl0_3 (f : Nat → Nat) (a : jSS) : (sfl0 f a)[3]? = some (.int (a.1 0 3)) := rfl
theorem c_s0_3 (f : Nat → Nat) (cI cO : ClassId) (Y : va_W) (a : jSS) (x : Int32) : (acells f cI cO Y a).set 0 (f 0, .inr (5, (sfl0 f a).set 3 (.int x))) = acells f cI cO Y (aP a 0 3 x) := rfl
theorem c_fl0_4 (f : Nat → Nat) (a : jSS) : (sfl0 f a)[4]? = some (.int (a.1 0 4)) := rfl
theorem c_s0_4 (f : Nat → Nat) (cI cO : ClassId) (Y : va_W) (a : jSS) (x : Int32) : (acells f cI cO Y a).set 0 (f 0, .inr (5, (sfl0 f a).set 4 (.int x))) = acells f cI cO Y (aP a 0 4 x) := rfl
theorem c_fl0_5 (f : Nat → Nat) (a : jSS) : (sfl0 f a)[5]? = some (.int (a.1 0 5)) := rfl
theorem c_s0_5 (f : Nat → Nat) (cI cO : ClassId) (Y : va_W) (a : jSS) (x : Int32) : (acells f cI cO Y a).set 0 (f 0, .inr (5, (sfl0 f a).set 5 (.int x))) = acells f cI cO Y (aP a 0 5 x) := rfl
theorem c_fl0_6 (f : Nat → Nat) (a : jSS) : (sfl0 f a)[6]? = some (.int (a.1 0 6)) := rfl
theorem c_s0_6 (f : Nat → Nat) (cI cO : ClassId) (Y : va_W) (a : jSS) (x : Int32) : (acells f cI cO Y a).set 0 (f 0, .inr (5, (sfl0 f a).set 6 (.int x))) = acells f cI cO Y (aP a 0 6 x) := rfl
theorem c_fl0_7 (f : Nat → Nat) (a : jSS) : (sfl0 f a)[7]? = some (.int (a.1 0 7)) := rfl
theorem c_s0_7 (f : Nat → Nat) (cI cO : ClassId) (Y : va_W) (a : jSS) (x : Int32) : (acells f cI cO Y a).set 0 (f 0, .inr (5, (sfl0 f a).set 7 (.int x))) = acells f cI cO Y (aP a 0 7 x) := rfl
theorem c_fl0_8 (f : Nat → Nat) (a : jSS) : (sfl0 f a)[8]? = some (.int (a.1 0 8)) := rfl
theorem c_s0_8 (f : Nat → Nat) (cI cO : ClassId) (Y : va_W) (a : jSS) (x : Int32) : (acells f cI cO Y a).set 0 (f 0, .inr (5, (sfl0 f a).set 8 (.int x))) = acells f cI cO Y (aP a 0 8 x) := rfl
theorem c_fl0_9 (f : Nat → Nat) (a : jSS) : (sfl0 f a)[9]? = some (.int (a.1 0 9)) := rfl
theorem c_s0_9 (f : Nat → Nat) (cI cO : ClassId) (Y : va_W) (a : jSS) (x : Int32) : (acells f cI cO Y a).set 0 (f 0, .inr (5, (sfl0 f a).set 9 (.int x))) = acells f cI cO Y (aP a 0 9 x) := rfl
theorem c_fl0_10 (f : Nat → Nat) (a : jSS) : (sfl0 f a)[10]? = some (.int (a.1 0 10)) := rfl
theorem c_s0_10 (f : Nat → Nat) (cI cO : ClassId) (Y : va_W) (a : jSS) (x : Int32) : (acells f cI cO Y a).set 0 (f 0, .inr (5, (sfl0 f a).set 10 (.int x))) = acells f cI cO Y (aP a 0 10 x) := rfl
theorem c_fl0_11 (f : Nat → Nat) (a : jSS) : (sfl0 f a)[11]? = some (.int (a.1 0 11)) := rfl
theorem c_s0_11 (f : Nat → Nat) (cI cO : ClassId) (Y : va_W) (a : jSS) (x : Int32) : (acells f cI cO Y a).set 0 (f 0, .inr (5, (sfl0 f a).set 11 (.int x))) = acells f cI cO Y (aP a 0 11 x) := rfl
theorem c_fl0_12 (f : Nat → Nat) (a : jSS) : (sfl0 f a)[12]? = some (.int (a.1 0 12)) := rfl
theorem c_s0_12 (f : Nat → Nat) (cI cO : ClassId) (Y : va_W) (a : jSS) (x : Int32) : (acells f cI cO Y a).set 0 (f 0, .inr (5, (sfl0 f a).set 12 (.int x))) = acells f cI cO Y (aP a 0 12 x) := rfl
theorem c_fl0_13 (f : Nat → Nat) (a : jSS) : (sfl0 f a)[13]? = some (.int (a.1 0 13)) := rfl
theorem c_s0_13 (f : Nat → Nat) (cI cO : ClassId) (Y : va_W) (a : jSS) (x : Int32) : (acells f cI cO Y a).set 0 (f 0, .inr (5, (sfl0 f a).set 13 (.int x))) = acells f cI cO Y (aP a 0 13 x) := rfl
theorem c_fl0_14 (f : Nat → Nat) (a : jSS) : (sfl0 f a)[14]? = some (.int (a.1 0 14)) := rfl
theorem c_s0_14 (f : Nat → Nat) (cI cO : ClassId) (Y : va_W) (a : jSS) (x : Int32) : (acells f cI cO Y a).set 0 (f 0, .inr (5, (sfl0 f a).set 14 (.int x))) = acells f cI cO Y (aP a 0 14 x) := rfl
theorem c_fl0_15 (f : Nat → Nat) (a : jSS) : (sfl0 f a)[15]? = some (.long a.2.1) := rfl
theorem c_s0_15 (f : Nat → Nat) (cI cO : ClassId) (Y : va_W) (a : jSS) (x : Int64) : (acells f cI cO Y a).set 0 (f 0, .inr (5, (sfl0 f a).set 15 (.long x))) = acells f cI cO Y (aN a x) := rfl
theorem c_at1 (f : Nat → Nat) (cI cO : ClassId) (Y : va_W) (a : jSS) : (acells f cI cO Y a)[1]? = some (f 1, .inr (3, sfl1 f a)) := rfl
theorem c_fl1_0 (f : Nat → Nat) (a : jSS) : (sfl1 f a)[0]? = some (.ref (f 9)) := rfl
theorem c_fl1_1 (f : Nat → Nat) (a : jSS) : (sfl1 f a)[1]? = some (.int (a.1 1 1)) := rfl
theorem c_s1_1 (f : Nat → Nat) (cI cO : ClassId) (Y : va_W) (a : jSS) (x : Int32) : (acells f cI cO Y a).set 1 (f 1, .inr (3, (sfl1 f a).set 1 (.int x))) = acells f cI cO Y (aP a 1 1 x) := rfl
theorem c_at2 (f : Nat → Nat) (cI cO : ClassId) (Y : va_W) (a : jSS) : (acells f cI cO Y a)[2]? = some (f 2, .inr (4, sfl2 f a)) := rfl
theorem c_fl2_0 (f : Nat → Nat) (a : jSS) : (sfl2 f a)[0]? = some (.ref (f 4)) := rfl
theorem c_fl2_1 (f : Nat → Nat) (a : jSS) : (sfl2 f a)[1]? = some (.ref (f 5)) := rfl
theorem c_fl2_2 (f : Nat → Nat) (a : jSS) : (sfl2 f a)[2]? = some (.ref (f 6)) := rfl
theorem c_fl2_3 (f : Nat → Nat) (a : jSS) : (sfl2 f a)[3]? = some (.int (a.1 2 3)) := rfl
theorem c_s2_3 (f : Nat → Nat) (cI cO : ClassId) (Y : va_W) (a : jSS) (x : Int32) : (acells f cI cO Y a).set 2 (f 2, .inr (4, (sfl2 f a).set 3 (.int x))) = acells f cI cO Y (aP a 2 3 x) := rfl
theorem c_fl2_4 (f : Nat → Nat) (a : jSS) : (sfl2 f a)[4]? = some (.int (a.1 2 4)) := rfl
theorem c_s2_4 (f : Nat → Nat) (cI cO : ClassId) (Y : va_W) (a : jSS) (x : Int32) : (acells f cI cO Y a).set 2 (f 2, .inr (4, (sfl2 f a).set 4 (.int x))) = acells f cI cO Y (aP a 2 4 x) := rfl
theorem c_at3 (f : Nat → Nat) (cI cO : ClassId) (Y : va_W) (a : jSS) : (acells f cI cO Y a)[3]? = some (f 3, .inr (0, sfl3 f a)) := rfl
theorem c_fl3_0 (f : Nat → Nat) (a : jSS) : (sfl3 f a)[0]? = some (.int (a.1 3 0)) := rfl
theorem c_s3_0 (f : Nat → Nat) (cI cO : ClassId) (Y : va_W) (a : jSS) (x : Int32) : (acells f cI cO Y a).set 3 (f 3, .inr (0, (sfl3 f a).set 0 (.int x))) = acells f cI cO Y (aP a 3 0 x) := rfl
theorem c_fl3_1 (f : Nat → Nat) (a : jSS) : (sfl3 f a)[1]? = some (.int (a.1 3 1)) := rfl
theorem c_s3_1 (f : Nat → Nat) (cI cO : ClassId) (Y : va_W) (a : jSS) (x : Int32) : (acells f cI cO Y a).set 3 (f 3, .inr (0, (sfl3 f a).set 1 (.int x))) = acells f cI cO Y (aP a 3 1 x) := rfl
theorem c_fl3_2 (f : Nat → Nat) (a : jSS) : (sfl3 f a)[2]? = some (.int (a.1 3 2)) := rfl
theorem c_s3_2 (f : Nat → Nat) (cI cO : ClassId) (Y : va_W) (a : jSS) (x : Int32) : (acells f cI cO Y a).set 3 (f 3, .inr (0, (sfl3 f a).set 2 (.int x))) = acells f cI cO Y (aP a 3 2 x) := rfl
theorem c_fl3_3 (f : Nat → Nat) (a : jSS) : (sfl3 f a)[3]? = some (.int (a.1 3 3)) := rfl
theorem c_s3_3 (f : Nat → Nat) (cI cO : ClassId) (Y : va_W) (a : jSS) (x : Int32) : (acells f cI cO Y a).set 3 (f 3, .inr (0, (sfl3 f a).set 3 (.int x))) = acells f cI cO Y (aP a 3 3 x) := rfl
theorem c_fl3_4 (f : Nat → Nat) (a : jSS) : (sfl3 f a)[4]? = some (.int (a.1 3 4)) := rfl
theorem c_s3_4 (f : Nat → Nat) (cI cO : ClassId) (Y : va_W) (a : jSS) (x : Int32) : (acells f cI cO Y a).set 3 (f 3, .inr (0, (sfl3 f a).set 4 (.int x))) = acells f cI cO Y (aP a 3 4 x) := rfl
theorem c_fl3_5 (f : Nat → Nat) (a : jSS) : (sfl3 f a)[5]? = some (.int (a.1 3 5)) := rfl
theorem c_s3_5 (f : Nat → Nat) (cI cO : ClassId) (Y : va_W) (a : jSS) (x : Int32) : (acells f cI cO Y a).set 3 (f 3, .inr (0, (sfl3 f a).set 5 (.int x))) = acells f cI cO Y (aP a 3 5 x) := rfl
theorem c_fl3_6 (f : Nat → Nat) (a : jSS) : (sfl3 f a)[6]? = some (.int (a.1 3 6)) := rfl
theorem c_s3_6 (f : Nat → Nat) (cI cO : ClassId) (Y : va_W) (a : jSS) (x : Int32) : (acells f cI cO Y a).set 3 (f 3, .inr (0, (sfl3 f a).set 6 (.int x))) = acells f cI cO Y (aP a 3 6 x) := rfl
theorem c_fl3_7 (f : Nat → Nat) (a : jSS) : (sfl3 f a)[7]? = some (.int (a.1 3 7)) := rfl
theorem c_s3_7 (f : Nat → Nat) (cI cO : ClassId) (Y : va_W) (a : jSS) (x : Int32) : (acells f cI cO Y a).set 3 (f 3, .inr (0, (sfl3 f a).set 7 (.int x))) = acells f cI cO Y (aP a 3 7 x) := rfl
theorem c_fl3_8 (f : Nat → Nat) (a : jSS) : (sfl3 f a)[8]? = some (.int (a.1 3 8)) := rfl
theorem c_s3_8 (f : Nat → Nat) (cI cO : ClassId) (Y : va_W) (a : jSS) (x : Int32) : (acells f cI cO Y a).set 3 (f 3, .inr (0, (sfl3 f a).set 8 (.int x))) = acells f cI cO Y (aP a 3 8 x) := rfl
theorem c_fl3_9 (f : Nat → Nat) (a : jSS) : (sfl3 f a)[9]? = some (.int (a.1 3 9)) := rfl
theorem c_s3_9 (f : Nat → Nat) (cI cO : ClassId) (Y : va_W) (a : jSS) (x : Int32) : (acells f cI cO Y a).set 3 (f 3, .inr (0, (sfl3 f a).set 9 (.int x))) = acells f cI cO Y (aP a 3 9 x) := rfl
theorem c_fl3_10 (f : Nat → Nat) (a : jSS) : (sfl3 f a)[10]? = some (.ref (f 7)) := rfl
theorem c_fl3_11 (f : Nat → Nat) (a : jSS) : (sfl3 f a)[11]? = some (.ref (f 8)) := rfl
theorem c_at4 (f : Nat → Nat) (cI cO : ClassId) (Y : va_W) (a : jSS) : (acells f cI cO Y a)[4]? = some (f 4, .inl (cI, 2610, .inl (a.1 4))) := rfl
theorem c_s4 (f : Nat → Nat) (cI cO : ClassId) (Y : va_W) (a : jSS) (j : Nat) (x : Int32) : (acells f cI cO Y a).set 4 (f 4, .inl (cI, 2610, .inl (upd (a.1 4) j x))) = acells f cI cO Y (aP a 4 j x) := rfl
theorem c_at5 (f : Nat → Nat) (cI cO : ClassId) (Y : va_W) (a : jSS) : (acells f cI cO Y a)[5]? = some (f 5, .inl (cI, 10, .inl (a.1 5))) := rfl
theorem c_s5 (f : Nat → Nat) (cI cO : ClassId) (Y : va_W) (a : jSS) (j : Nat) (x : Int32) : (acells f cI cO Y a).set 5 (f 5, .inl (cI, 10, .inl (upd (a.1 5) j x))) = acells f cI cO Y (aP a 5 j x) := rfl
theorem c_at6 (f : Nat → Nat) (cI cO : ClassId) (Y : va_W) (a : jSS) : (acells f cI cO Y a)[6]? = some (f 6, .inl (cI, 10, .inl (a.1 6))) := rfl
theorem c_s6 (f : Nat → Nat) (cI cO : ClassId) (Y : va_W) (a : jSS) (j : Nat) (x : Int32) : (acells f cI cO Y a).set 6 (f 6, .inl (cI, 10, .inl (upd (a.1 6) j x))) = acells f cI cO Y (aP a 6 j x) := rfl
theorem c_at7 (f : Nat → Nat) (cI cO : ClassId) (Y : va_W) (a : jSS) : (acells f cI cO Y a)[7]? = some (f 7, .inl (cI, 12, .inl (a.1 7))) := rfl
theorem c_s7 (f : Nat → Nat) (cI cO : ClassId) (Y : va_W) (a : jSS) (j : Nat) (x : Int32) : (acells f cI cO Y a).set 7 (f 7, .inl (cI, 12, .inl (upd (a.1 7) j x))) = acells f cI cO Y (aP a 7 j x) := rfl
theorem c_at8 (f : Nat → Nat) (cI cO : ClassId) (Y : va_W) (a : jSS) : (acells f cI cO Y a)[8]? = some (f 8, .inl (cI, 12, .inl (a.1 8))) := rfl
theorem c_s8 (f : Nat → Nat) (cI cO : ClassId) (Y : va_W) (a : jSS) (j : Nat) (x : Int32) : (acells f cI cO Y a).set 8 (f 8, .inl (cI, 12, .inl (upd (a.1 8) j x))) = acells f cI cO Y (aP a 8 j x) := rfl
theorem c_at9 (f : Nat → Nat) (cI cO : ClassId) (Y : va_W) (a : jSS) : (acells f cI cO Y a)[9]? = some (f 9, .inl (cO, 262, .inr (.inr (.inr (.inr a.2.2))))) := rfl
theorem c_s9 (f : Nat → Nat) (cI cO : ClassId) (Y : va_W) (a : jSS) (j : Nat) (r : Option Nat) : (acells f cI cO Y a).set 9 (f 9, .inl (cO, 262, .inr (.inr (.inr (.inr (va_up a.2.2 j r)))))) = acells f cI cO Y (aL a j r) := rfl
theorem c_at10 (f h : Nat → Nat) (cI cO : ClassId) (Y : va_W) (a : jSS) (b : jGS) : (acells f cI cO (bY h cO Y b) a)[10]? = some (h 0, .inr (1, gfl h b)) := rfl
theorem c_at11 (f h : Nat → Nat) (cI cO : ClassId) (Y : va_W) (a : jSS) (b : jGS) : (acells f cI cO (bY h cO Y b) a)[11]? = some (h 1, .inl (cO, 60, .inr (.inr (.inr (.inr (gLn b)))))) := rfl
theorem c_fl10_0 (h : Nat → Nat) (b : jGS) : (gfl h b)[0]? = some (.int (gI b 0)) := rfl
theorem c_s10_0 (f h : Nat → Nat) (cI cO : ClassId) (Y : va_W) (a : jSS) (b : jGS) (x : Int32) : (acells f cI cO (bY h cO Y b) a).set 10 (h 0, .inr (1, (gfl h b).set 0 (.int x))) = acells f cI cO (bY h cO Y (gP b 0 x)) a := rfl
theorem c_fl10_1 (h : Nat → Nat) (b : jGS) : (gfl h b)[1]? = some (.int (gI b 1)) := rfl
theorem c_s10_1 (f h : Nat → Nat) (cI cO : ClassId) (Y : va_W) (a : jSS) (b : jGS) (x : Int32) : (acells f cI cO (bY h cO Y b) a).set 10 (h 0, .inr (1, (gfl h b).set 1 (.int x))) = acells f cI cO (bY h cO Y (gP b 1 x)) a := rfl
theorem c_fl10_2 (h : Nat → Nat) (b : jGS) : (gfl h b)[2]? = some (.int (gI b 2)) := rfl
theorem c_s10_2 (f h : Nat → Nat) (cI cO : ClassId) (Y : va_W) (a : jSS) (b : jGS) (x : Int32) : (acells f cI cO (bY h cO Y b) a).set 10 (h 0, .inr (1, (gfl h b).set 2 (.int x))) = acells f cI cO (bY h cO Y (gP b 2 x)) a := rfl
theorem c_fl10_3 (h : Nat → Nat) (b : jGS) : (gfl h b)[3]? = some (va_rf (gV b)) := rfl
theorem c_s10_3 (f h : Nat → Nat) (cI cO : ClassId) (Y : va_W) (a : jSS) (b : jGS) (x : Nat) : (acells f cI cO (bY h cO Y b) a).set 10 (h 0, .inr (1, (gfl h b).set 3 (.ref x))) = acells f cI cO (bY h cO Y (gS b (some x))) a := rfl
theorem c_s10_3N (f h : Nat → Nat) (cI cO : ClassId) (Y : va_W) (a : jSS) (b : jGS) : (acells f cI cO (bY h cO Y b) a).set 10 (h 0, .inr (1, (gfl h b).set 3 .null)) = acells f cI cO (bY h cO Y (gS b none)) a := rfl
theorem c_fl10_4 (h : Nat → Nat) (b : jGS) : (gfl h b)[4]? = some (.int (gI b 4)) := rfl
theorem c_s10_4 (f h : Nat → Nat) (cI cO : ClassId) (Y : va_W) (a : jSS) (b : jGS) (x : Int32) : (acells f cI cO (bY h cO Y b) a).set 10 (h 0, .inr (1, (gfl h b).set 4 (.int x))) = acells f cI cO (bY h cO Y (gP b 4 x)) a := rfl
theorem c_fl10_5 (h : Nat → Nat) (b : jGS) : (gfl h b)[5]? = some (.ref (h 1)) := rfl
theorem c_fl10_6 (h : Nat → Nat) (b : jGS) : (gfl h b)[6]? = some (.int (gI b 6)) := rfl
theorem c_s10_6 (f h : Nat → Nat) (cI cO : ClassId) (Y : va_W) (a : jSS) (b : jGS) (x : Int32) : (acells f cI cO (bY h cO Y b) a).set 10 (h 0, .inr (1, (gfl h b).set 6 (.int x))) = acells f cI cO (bY h cO Y (gP b 6 x)) a := rfl
theorem c_fl10_7 (h : Nat → Nat) (b : jGS) : (gfl h b)[7]? = some (.int (gI b 7)) := rfl
theorem c_s10_7 (f h : Nat → Nat) (cI cO : ClassId) (Y : va_W) (a : jSS) (b : jGS) (x : Int32) : (acells f cI cO (bY h cO Y b) a).set 10 (h 0, .inr (1, (gfl h b).set 7 (.int x))) = acells f cI cO (bY h cO Y (gP b 7 x)) a := rfl
theorem c_fl10_8 (h : Nat → Nat) (b : jGS) : (gfl h b)[8]? = some (.int (gI b 8)) := rfl
theorem c_s10_8 (f h : Nat → Nat) (cI cO : ClassId) (Y : va_W) (a : jSS) (b : jGS) (x : Int32) : (acells f cI cO (bY h cO Y b) a).set 10 (h 0, .inr (1, (gfl h b).set 8 (.int x))) = acells f cI cO (bY h cO Y (gP b 8 x)) a := rfl
theorem c_fl10_9 (h : Nat → Nat) (b : jGS) : (gfl h b)[9]? = some (.int (gI b 9)) := rfl
theorem c_s10_9 (f h : Nat → Nat) (cI cO : ClassId) (Y : va_W) (a : jSS) (b : jGS) (x : Int32) : (acells f cI cO (bY h cO Y b) a).set 10 (h 0, .inr (1, (gfl h b).set 9 (.int x))) = acells f cI cO (bY h cO Y (gP b 9 x)) a := rfl
theorem c_fl10_10 (h : Nat → Nat) (b : jGS) : (gfl h b)[10]? = some (.int (gI b 10)) := rfl
theorem c_s10_10 (f h : Nat → Nat) (cI cO : ClassId) (Y : va_W) (a : jSS) (b : jGS) (x : Int32) : (acells f cI cO (bY h cO Y b) a).set 10 (h 0, .inr (1, (gfl h b).set 10 (.int x))) = acells f cI cO (bY h cO Y (gP b 10 x)) a := rfl
theorem c_fl10_11 (h : Nat → Nat) (b : jGS) : (gfl h b)[11]? = some (.ref (h 2)) := rfl
theorem c_s11 (f h : Nat → Nat) (cI cO : ClassId) (Y : va_W) (a : jSS) (b : jGS) (j : Nat) (r : Option Nat) : (acells f cI cO (bY h cO Y b) a).set 11 (h 1, .inl (cO, 60, .inr (.inr (.inr (.inr (va_up (gLn b) j r)))))) = acells f cI cO (bY h cO Y (gL b j r)) a := rfl
theorem c_flL_0 (b : jGS) (q : Nat) : (lfl b q)[0]? = some (va_rf (gO b q)) := rfl
theorem c_flL_1 (b : jGS) (q : Nat) : (lfl b q)[1]? = some (.int (gF b q 1)) := rfl
theorem c_flL_2 (b : jGS) (q : Nat) : (lfl b q)[2]? = some (.int (gF b q 2)) := rfl
theorem c_flL_3 (b : jGS) (q : Nat) : (lfl b q)[3]? = some (.int (gF b q 3)) := rfl
theorem c_flL_4 (b : jGS) (q : Nat) : (lfl b q)[4]? = some (.int (gF b q 4)) := rfl
theorem c_flL_5 (b : jGS) (q : Nat) : (lfl b q)[5]? = some (.int (gF b q 5)) := rfl
theorem c_flL_6 (b : jGS) (q : Nat) : (lfl b q)[6]? = some (.int (gF b q 6)) := rfl
theorem c_flL_7 (b : jGS) (q : Nat) : (lfl b q)[7]? = some (.int (gF b q 7)) := rfl
/-! letters -/
theorem c_assoc (f h : Nat → Nat) (cI cO : ClassId) (Y : va_W) (a : jSS) (b : jGS) : acells f cI cO (bY h cO Y b) a = (scells f cI cO a ++ (gcells h cO b ++ Y)) ++ va_pl (gLP b) (lcell b) := by
  unfold acells bY
  exact (List.append_assoc _ _ _).symm
theorem c_pool (f h : Nat → Nat) (cI cO : ClassId) (Y : va_W) (a : jSS) (b : jGS) {q : Nat} (hq : q ∈ gLP b) : ∃ k : Nat, (acells f cI cO (bY h cO Y b) a)[k]? = some (q, .inr (2, lfl b q)) := by
  rw [c_assoc]
  exact va_pl_get hq
theorem c_lset1 (b : jGS) (q : Nat) (x : Int32) : va_up (lcell b) q (.inr (2, (lfl b q).set 1 (.int x))) = lcell (gFP b q 1 x) := by
  funext z
  by_cases hz : z = q
  · subst hz; simp [va_up, lcell, lfl, gFP, gO, gF, pt, upd]
  · simp [va_up, lcell, lfl, gFP, gO, gF, pt, hz]
theorem c_lset2 (b : jGS) (q : Nat) (x : Int32) : va_up (lcell b) q (.inr (2, (lfl b q).set 2 (.int x))) = lcell (gFP b q 2 x) := by
  funext z
  by_cases hz : z = q
  · subst hz; simp [va_up, lcell, lfl, gFP, gO, gF, pt, upd]
  · simp [va_up, lcell, lfl, gFP, gO, gF, pt, hz]
theorem c_lset3 (b : jGS) (q : Nat) (x : Int32) : va_up (lcell b) q (.inr (2, (lfl b q).set 3 (.int x))) = lcell (gFP b q 3 x) := by
  funext z
  by_cases hz : z = q
  · subst hz; simp [va_up, lcell, lfl, gFP, gO, gF, pt, upd]
  · simp [va_up, lcell, lfl, gFP, gO, gF, pt, hz]
theorem c_lset4 (b : jGS) (q : Nat) (x : Int32) : va_up (lcell b) q (.inr (2, (lfl b q).set 4 (.int x))) = lcell (gFP b q 4 x) := by
  funext z
  by_cases hz : z = q
  · subst hz; simp [va_up, lcell, lfl, gFP, gO, gF, pt, upd]
  · simp [va_up, lcell, lfl, gFP, gO, gF, pt, hz]
theorem c_lset5 (b : jGS) (q : Nat) (x : Int32) : va_up (lcell b) q (.inr (2, (lfl b q).set 5 (.int x))) = lcell (gFP b q 5 x) := by
  funext z
  by_cases hz : z = q
  · subst hz; simp [va_up, lcell, lfl, gFP, gO, gF, pt, upd]
  · simp [va_up, lcell, lfl, gFP, gO, gF, pt, hz]
theorem c_lset6 (b : jGS) (q : Nat) (x : Int32) : va_up (lcell b) q (.inr (2, (lfl b q).set 6 (.int x))) = lcell (gFP b q 6 x) := by
  funext z
  by_cases hz : z = q
  · subst hz; simp [va_up, lcell, lfl, gFP, gO, gF, pt, upd]
  · simp [va_up, lcell, lfl, gFP, gO, gF, pt, hz]
theorem c_lset7 (b : jGS) (q : Nat) (x : Int32) : va_up (lcell b) q (.inr (2, (lfl b q).set 7 (.int x))) = lcell (gFP b q 7 x) := by
  funext z
  by_cases hz : z = q
  · subst hz; simp [va_up, lcell, lfl, gFP, gO, gF, pt, upd]
  · simp [va_up, lcell, lfl, gFP, gO, gF, pt, hz]
theorem c_lsetO (b : jGS) (q x : Nat) : va_up (lcell b) q (.inr (2, (lfl b q).set 0 (.ref x))) = lcell (gOP b q (some x)) := by
  funext z
  by_cases hz : z = q
  · subst hz; simp [va_up, lcell, lfl, gOP, gO, gF, va_rf]
  · simp [va_up, lcell, lfl, gOP, gO, gF, hz]
theorem c_lnew (b : jGS) (q : Nat) : va_up (lcell b) q (.inr (2, [.null, .int 0, .int 0, .int 0, .int 0, .int 0, .int 0, .int 0])) = lcell (gNew b q) := by
  funext z
  by_cases hz : z = q
  · subst hz; simp [va_up, lcell, lfl, gNew, gO, gF, va_rf]
  · simp [va_up, lcell, lfl, gNew, gO, gF, hz]
theorem c_put {A : Nat → Prop} {f h : Nat → Nat} {cI cO : ClassId} {Y : va_W} {a : jSS} {b b' : jGS} {q k : Nat} {e : va_E} (hD : va_D A (acells f cI cO (bY h cO Y b) a)) (hq : q ∈ gLP b) (hk : (acells f cI cO (bY h cO Y b) a)[k]? = some (q, .inr (2, lfl b q))) (he : va_up (lcell b) q e = lcell b') (hg : gcells h cO b' = gcells h cO b) (hp : gLP b' = gLP b) : (acells f cI cO (bY h cO Y b) a).set k (q, e) = acells f cI cO (bY h cO Y b') a := by
  rw [c_assoc] at hD hk ⊢
  rw [va_pl_set hD hq hk, he, c_assoc, hg, hp]

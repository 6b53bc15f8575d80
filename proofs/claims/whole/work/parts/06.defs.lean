theorem oel_n {ρ : Type} {a z : ρ} {b : Nat → ρ} (h : oel none a b = z) : a = z := h
theorem oel_s {ρ : Type} {a z : ρ} {b : Nat → ρ} {k : Nat} (h : oel (some k) a b = z) : b k = z := h
def f_X0_size (I : HI) (J : HJ) : Option (Int32) :=
some (I 96 1)
def f_X0_has (a0 : Int32) (I : HI) (J : HJ) : Option (Int32) :=
if a0 < 0 then (
some ((0 : Int32)))
else (
if (I 96 1) ≤ a0 then (
some ((0 : Int32)))
else (
some ((1 : Int32))))
def f_X0_bodyAt (a0 : Int32) (I : HI) (J : HJ) : Option (Int32) :=
bd1 (f_X0_has a0 I J) fun r3 =>
if r3 = 0 then (
some ((0 : Int32)))
else (
if (30 : Int32) ≤ a0 then (
some ((0 : Int32)))
else (
if vin a0 30 = true then (
some (I 97 a0.toNatClampNeg)) else none))
def f_X0_forget (I : HI) (J : HJ) : Option (HI) :=
nm (put I 96 1 (0 : Int32)) fun I3 =>
nm (put I3 96 2 (0 : Int32)) fun I4 =>
some (I4)
def f_X0_takeThing (a0 : Int32) (a1 : Int32) (a2 : Int32) (I : HI) (J : HJ) : Option (HI) :=
nm (put I 96 3 a0) fun I4 =>
nm (put I4 96 4 a1) fun I5 =>
nm (put I5 96 5 a2) fun I6 =>
some (I6)
def f_X0_beginBody (a0 : Int32) (I : HI) (J : HJ) : Option (HI) :=
if (I 96 1) < 0 then (
some (I))
else (
if (30 : Int32) ≤ (I 96 1) then (
some (I))
else (
if vin (I 96 1) 30 = true then (
nm (put I 97 (I 96 1).toNatClampNeg a0) fun I3 =>
nm (put I3 96 1 ((I3 96 1) + (1 : Int32))) fun I4 =>
some (I4)) else none))
def f_X1_above (a0 : Int32) : Option (Int32) :=
if a0 < 0 then (
some ((-1 : Int32)))
else (
if (Int32.ofNat (sl 4)) ≤ a0 then (
some ((-1 : Int32)))
else (
if vin a0 (sl 4) = true then (
some (sv 4 a0)) else none))
def fb_X0_grows (g_grows : Int32 → Int32 → Int32 → HI → HJ → Option (Int32 × HI)) (a0 : Int32) (a1 : Int32) (a2 : Int32) (I : HI) (J : HJ) : Option (Int32 × HI) :=
if a2 ≤ (20 : Int32) then (
if a0 = (0 : Int32) then (
bd1 (f_X0_beginBody (10 : Int32) I J) fun I37 =>
some (a1 + (I37 96 5), I37))
else (
if a0 = (2 : Int32) then (
bd1 (f_X0_beginBody (30 : Int32) I J) fun I40 =>
bd1 (f_X1_above a0) fun r42 =>
bd2 (g_grows r42 a1 (a2 + (1 : Int32)) I40 J) fun r44 I45 =>
some (r44 * (5 : Int32), I45))
else (
if a0 = (3 : Int32) then (
bd1 (f_X0_beginBody (40 : Int32) I J) fun I48 =>
bd1 (f_X1_above a0) fun r50 =>
bd2 (g_grows r50 a1 (a2 + (1 : Int32)) I48 J) fun r52 I53 =>
some (r52 ^^^ (I53 96 5), I53))
else (
if a0 = (6 : Int32) then (
bd1 (f_X0_beginBody (70 : Int32) I J) fun I56 =>
bd1 (f_X1_above a0) fun r58 =>
bd2 (g_grows r58 a1 (a2 + (1 : Int32)) I56 J) fun r60 I61 =>
some (r60 - (6 : Int32), I61))
else (
if a0 = (7 : Int32) then (
bd1 (f_X0_beginBody (80 : Int32) I J) fun I64 =>
some ((I64 96 5) - a1, I64))
else (
bd1 (f_X1_above a0) fun r66 =>
bd2 (g_grows r66 a1 (a2 + (1 : Int32)) I J) fun r68 I69 =>
some (r68, I69)))))))
else (
some ((0 : Int32), I))
def grp_X0_grows : Nat → Int32 → Int32 → Int32 → HI → HJ → Option (Int32 × HI)
  | 0 => fun _ _ _ _ _ => none
  | d + 1 => nm (grp_X0_grows d) fun q => (fb_X0_grows (q))
def f_X0_grows (d : Nat) : Int32 → Int32 → Int32 → HI → HJ → Option (Int32 × HI) := (grp_X0_grows d)
def fb_X0_swings (g_swings : Int32 → Int32 → Int32 → HI → HJ → Option (Int32 × HI)) (a0 : Int32) (a1 : Int32) (a2 : Int32) (I : HI) (J : HJ) : Option (Int32 × HI) :=
if a2 ≤ (20 : Int32) then (
if a0 = (0 : Int32) then (
bd1 (f_X0_beginBody (11 : Int32) I J) fun I35 =>
bd2 (f_X0_grows 40 (I35 96 3) a1 (a2 + (1 : Int32)) I35 J) fun r37 I38 =>
some (r37 * (2 : Int32), I38))
else (
if a0 = (1 : Int32) then (
bd1 (f_X0_beginBody (20 : Int32) I J) fun I41 =>
bd1 (f_X1_above a0) fun r43 =>
bd2 (g_swings r43 a1 (a2 + (1 : Int32)) I41 J) fun r45 I46 =>
some (r45 - (3 : Int32), I46))
else (
if a0 = (4 : Int32) then (
bd1 (f_X0_beginBody (50 : Int32) I J) fun I49 =>
bd1 (f_X1_above a0) fun r51 =>
bd2 (g_swings r51 a1 (a2 + (1 : Int32)) I49 J) fun r53 I54 =>
some ((0 : Int32) - r53, I54))
else (
if a0 = (7 : Int32) then (
bd1 (f_X0_beginBody (81 : Int32) I J) fun I57 =>
bd2 (f_X0_grows 40 (I57 96 3) a1 (a2 + (1 : Int32)) I57 J) fun r59 I60 =>
some (r59 * (I60 96 4), I60))
else (
bd1 (f_X1_above a0) fun r62 =>
bd2 (g_swings r62 a1 (a2 + (1 : Int32)) I J) fun r64 I65 =>
some (r64, I65))))))
else (
some ((0 : Int32), I))
def grp_X0_swings : Nat → Int32 → Int32 → Int32 → HI → HJ → Option (Int32 × HI)
  | 0 => fun _ _ _ _ _ => none
  | d + 1 => nm (grp_X0_swings d) fun q => (fb_X0_swings (q))
def f_X0_swings (d : Nat) : Int32 → Int32 → Int32 → HI → HJ → Option (Int32 × HI) := (grp_X0_swings d)
def f_X0_partedBy (a0 : Int32) (a1 : Int32) (I : HI) (J : HJ) : Option (Int32 × HI) :=
if a0 = 0 then (
nm (put I 96 2 (1 : Int32)) fun I2 =>
some ((0 : Int32), I2))
else (
if a0 = 0 then none else
some (a1 / a0, I))
def fb_X0_parts (g_parts : Int32 → Int32 → Int32 → HI → HJ → Option (Int32 × HI)) (a0 : Int32) (a1 : Int32) (a2 : Int32) (I : HI) (J : HJ) : Option (Int32 × HI) :=
if a2 ≤ (20 : Int32) then (
if a0 = (0 : Int32) then (
bd1 (f_X0_beginBody (12 : Int32) I J) fun I40 =>
bd2 (f_X0_partedBy ((I40 96 5) - (I40 96 4)) a1 I40 J) fun r42 I43 =>
some (r42, I43))
else (
if a0 = (3 : Int32) then (
bd1 (f_X0_beginBody (41 : Int32) I J) fun I46 =>
bd1 (f_X1_above a0) fun r48 =>
bd2 (g_parts r48 (a1 + (1 : Int32)) (a2 + (1 : Int32)) I46 J) fun r50 I51 =>
some (r50, I51))
else (
if a0 = (5 : Int32) then (
bd1 (f_X0_beginBody (61 : Int32) I J) fun I54 =>
bd1 (f_X1_above a0) fun r56 =>
bd2 (g_parts r56 (a1 - (1 : Int32)) (a2 + (1 : Int32)) I54 J) fun r58 I59 =>
some (r58, I59))
else (
if a0 = (6 : Int32) then (
bd1 (f_X0_beginBody (71 : Int32) I J) fun I62 =>
bd1 (f_X1_above a0) fun r64 =>
bd2 (g_parts r64 a1 (a2 + (1 : Int32)) I62 J) fun r66 I67 =>
some (r66 ^^^ (1 : Int32), I67))
else (
if a0 = (7 : Int32) then (
bd1 (f_X0_beginBody (82 : Int32) I J) fun I70 =>
some (a1 &&& (I70 96 5), I70))
else (
bd1 (f_X1_above a0) fun r72 =>
bd2 (g_parts r72 a1 (a2 + (1 : Int32)) I J) fun r74 I75 =>
some (r74, I75)))))))
else (
some ((0 : Int32), I))
def grp_X0_parts : Nat → Int32 → Int32 → Int32 → HI → HJ → Option (Int32 × HI)
  | 0 => fun _ _ _ _ _ => none
  | d + 1 => nm (grp_X0_parts d) fun q => (fb_X0_parts (q))
def f_X0_parts (d : Nat) : Int32 → Int32 → Int32 → HI → HJ → Option (Int32 × HI) := (grp_X0_parts d)
def fb_X0_tells (g_tells : Int32 → Int32 → Int32 → HI → HJ → Option (Int32 × HI)) (a0 : Int32) (a1 : Int32) (a2 : Int32) (I : HI) (J : HJ) : Option (Int32 × HI) :=
if a2 ≤ (20 : Int32) then (
if a0 = (0 : Int32) then (
bd1 (f_X0_beginBody (13 : Int32) I J) fun I41 =>
bd2 (f_X0_swings 40 (I41 96 3) a1 (a2 + (1 : Int32)) I41 J) fun r43 I44 =>
some (r43 ^^^ (I44 96 4), I44))
else (
if a0 = (2 : Int32) then (
bd1 (f_X0_beginBody (31 : Int32) I J) fun I47 =>
bd1 (f_X1_above a0) fun r49 =>
bd2 (g_tells r49 a1 (a2 + (1 : Int32)) I47 J) fun r51 I52 =>
bd2 (f_X0_parts 40 (I52 96 3) (I52 96 4) (a2 + (1 : Int32)) I52 J) fun r54 I55 =>
some (r51 + r54, I55))
else (
if a0 = (5 : Int32) then (
bd1 (f_X0_beginBody (60 : Int32) I J) fun I58 =>
bd1 (f_X1_above a0) fun r60 =>
bd2 (g_tells r60 a1 (a2 + (1 : Int32)) I58 J) fun r62 I63 =>
some (r62 * (2 : Int32), I63))
else (
if a0 = (7 : Int32) then (
bd1 (f_X0_beginBody (83 : Int32) I J) fun I66 =>
bd2 (f_X0_swings 40 (I66 96 3) a1 (a2 + (1 : Int32)) I66 J) fun r68 I69 =>
bd2 (f_X0_parts 40 (I69 96 3) (I69 96 4) (a2 + (1 : Int32)) I69 J) fun r71 I72 =>
some (r68 - r71, I72))
else (
bd1 (f_X1_above a0) fun r74 =>
bd2 (g_tells r74 a1 (a2 + (1 : Int32)) I J) fun r76 I77 =>
some (r76, I77))))))
else (
some ((0 : Int32), I))
def grp_X0_tells : Nat → Int32 → Int32 → Int32 → HI → HJ → Option (Int32 × HI)
  | 0 => fun _ _ _ _ _ => none
  | d + 1 => nm (grp_X0_tells d) fun q => (fb_X0_tells (q))
def f_X0_tells (d : Nat) : Int32 → Int32 → Int32 → HI → HJ → Option (Int32 × HI) := (grp_X0_tells d)
def f_X0_byAct (a0 : Int32) (a1 : Int32) (I : HI) (J : HJ) : Option (Int32 × HI) :=
if a0 = (0 : Int32) then (
bd2 (f_X0_grows 40 (I 96 3) a1 (0 : Int32) I J) fun r18 I19 =>
some (r18, I19))
else (
if a0 = (1 : Int32) then (
bd2 (f_X0_swings 40 (I 96 3) a1 (0 : Int32) I J) fun r22 I23 =>
some (r22, I23))
else (
if a0 = (2 : Int32) then (
bd2 (f_X0_parts 40 (I 96 3) a1 (0 : Int32) I J) fun r26 I27 =>
some (r26, I27))
else (
if a0 = (3 : Int32) then (
bd2 (f_X0_tells 40 (I 96 3) a1 (0 : Int32) I J) fun r30 I31 =>
some (r30, I31))
else (
some ((0 : Int32), I)))))
def f_X0_answer (a0 : Int32) (a1 : Int32) (I : HI) (J : HJ) : Option (Int32 × HI) :=
bd2 (f_X0_byAct a0 a1 I J) fun r4 I5 =>
if (I5 96 2) = 0 then (
some (r4, I5))
else (
some ((-15 : Int32), I5))
def fLB_X1_isUnder_4 (a0 : Int32) (a1 : Int32) (r_4 : Int32 → Int32 → Option (Int32)) (x2 : Int32) (x3 : Int32) : Option (Int32) :=
if (Int32.ofNat (sl 4)) ≤ x3 then (
some ((0 : Int32)))
else (
if x2 = (-1 : Int32) then (
some ((0 : Int32)))
else (
if x2 = a1 then (
some ((1 : Int32)))
else (
bd1 (f_X1_above x2) fun r4 =>
nm (x3 + (1 : Int32)) fun v6 =>
r_4 r4 v6)))
def fL_X1_isUnder_4 (a0 : Int32) (a1 : Int32) : Nat → Int32 → Int32 → Option (Int32)
  | 0 => fun _ _ => none
  | f + 1 => fLB_X1_isUnder_4 a0 a1 (fL_X1_isUnder_4 a0 a1 f)
def f_X1_isUnder (a0 : Int32) (a1 : Int32) : Option (Int32) :=
fL_X1_isUnder_4 a0 a1 FU a0 (0 : Int32)
def f_X2_isKey (k : Nat) (a0 : Int32) : Option (Int32) :=
if a0 < 0 then (
some ((0 : Int32)))
else (
if (4 : Int32) ≤ a0 then (
some ((0 : Int32)))
else (
some ((1 : Int32))))
def fB_X2_howManyTold_21 (k : Nat) (r_4 : Int32 → Int32 → HI → HJ → Option (Int32)) (x1 : Int32) (x2 : Int32) (I : HI) (J : HJ) : Option (Int32) :=
nm (x2 + (1 : Int32)) fun v3 =>
r_4 x1 v3 I J
def fLB_X2_howManyTold_4 (k : Nat) (r_4 : Int32 → Int32 → HI → HJ → Option (Int32)) (x1 : Int32) (x2 : Int32) (I : HI) (J : HJ) : Option (Int32) :=
if (4 : Int32) ≤ x2 then (
some (x1))
else (
if vin x2 4 = true then (
if (I (rfn k 2) x2.toNatClampNeg) = 0 then (
fB_X2_howManyTold_21 k r_4 x1 x2 I J)
else (
nm (x1 + (1 : Int32)) fun v4 =>
fB_X2_howManyTold_21 k r_4 v4 x2 I J)) else none)
def fL_X2_howManyTold_4 (k : Nat) : Nat → Int32 → Int32 → HI → HJ → Option (Int32)
  | 0 => fun _ _ _ _ => none
  | f + 1 => fLB_X2_howManyTold_4 k (fL_X2_howManyTold_4 k f)
def f_X2_howManyTold (k : Nat) (I : HI) (J : HJ) : Option (Int32) :=
fL_X2_howManyTold_4 k FU (0 : Int32) (0 : Int32) I J
def f_X2_tellAnew (k : Nat) (a0 : Int32) (I : HI) (J : HJ) : Option (HI) :=
bd1 (f_X2_isKey k a0) fun r5 =>
if r5 = 0 then (
some (I))
else (
if vin a0 4 = true then (
nm (put I (rfn k 1) a0.toNatClampNeg (0 : Int32)) fun I7 =>
if vin a0 4 = true then (
nm (put I7 (rfn k 2) a0.toNatClampNeg (1 : Int32)) fun I8 =>
some (I8)) else none) else none)
def f_X2_add (k : Nat) (a0 : Int32) (a1 : Int32) (I : HI) (J : HJ) : Option (HI) :=
bd1 (f_X2_isKey k a0) fun r6 =>
if r6 = 0 then (
some (I))
else (
if vin a0 4 = true then (
if (200 : Int32) ≤ (I (rfn k 1) a0.toNatClampNeg) then (
some (I))
else (
if vin a0 4 = true then (
if vin a0 4 = true then (
if vin (I (rfn k 1) a0.toNatClampNeg) 200 = true then (
nm (put I (rfn (rfn k 0) a0.toNatClampNeg) (I (rfn k 1) a0.toNatClampNeg).toNatClampNeg a1) fun I9 =>
if vin a0 4 = true then (
if vin a0 4 = true then (
nm (put I9 (rfn k 1) a0.toNatClampNeg ((I9 (rfn k 1) a0.toNatClampNeg) + (1 : Int32))) fun I10 =>
some (I10)) else none) else none) else none) else none) else none)) else none)
def fLB_X2_write_7 (k : Nat) (a0 : Int32) (a1 : Nat) (r_7 : Int32 → HI → HJ → Option (HI)) (x3 : Int32) (I : HI) (J : HJ) : Option (HI) :=
if (Int32.ofNat (sl a1)) ≤ x3 then (
if vin a0 4 = true then (
nm (put I (rfn k 2) a0.toNatClampNeg (0 : Int32)) fun I7 =>
some (I7)) else none)
else (
if vin x3 (sl a1) = true then (
bd1 (f_X2_add k a0 (sv a1 x3) I J) fun I8 =>
nm (x3 + (1 : Int32)) fun v10 =>
r_7 v10 I8 J) else none)
def fL_X2_write_7 (k : Nat) (a0 : Int32) (a1 : Nat) : Nat → Int32 → HI → HJ → Option (HI)
  | 0 => fun _ _ _ => none
  | f + 1 => fLB_X2_write_7 k a0 a1 (fL_X2_write_7 k a0 a1 f)
def f_X2_write (k : Nat) (a0 : Int32) (a1 : Nat) (I : HI) (J : HJ) : Option (HI) :=
bd1 (f_X2_tellAnew k a0 I J) fun I11 =>
fL_X2_write_7 k a0 a1 FU (0 : Int32) I11 J
def f_X2_becomeAsAtFirst (k : Nat) (I : HI) (J : HJ) : Option (HI) :=
bd1 (f_X2_write k (0 : Int32) 0 I J) fun I9 =>
bd1 (f_X2_write k (1 : Int32) 1 I9 J) fun I11 =>
bd1 (f_X2_write k (2 : Int32) 2 I11 J) fun I13 =>
bd1 (f_X2_write k (3 : Int32) 3 I13 J) fun I15 =>
some (I15)
def fLB_X2_becomeLike_2 (k : Nat) (a0 : Nat) (r_2 : Int32 → HI → HJ → Option (HI)) (x2 : Int32) (I : HI) (J : HJ) : Option (HI) :=
if (4 : Int32) ≤ x2 then (
some (I))
else (
if vin x2 4 = true then (
if vin x2 4 = true then (
nm (put I (rfn k 1) x2.toNatClampNeg (I (rfn a0 1) x2.toNatClampNeg)) fun I7 =>
if vin x2 4 = true then (
if zb (I7 (rfn a0 2) x2.toNatClampNeg) = true then (
if vin x2 4 = true then (
nm (put I7 (rfn k 2) x2.toNatClampNeg (I7 (rfn a0 2) x2.toNatClampNeg)) fun I8 =>
if vin x2 4 = true then (
if vin x2 4 = true then (
if (0 ≤ (0 : Int32) ∧ 0 ≤ (0 : Int32) ∧ 0 ≤ (200 : Int32) ∧ (0 : Int32).toNatClampNeg + (200 : Int32).toNatClampNeg ≤ 200 ∧ (0 : Int32).toNatClampNeg + (200 : Int32).toNatClampNeg ≤ 200) then (
nm (cpyI I8 (rfn (rfn a0 0) x2.toNatClampNeg) (rfn (rfn k 0) x2.toNatClampNeg) (0 : Int32).toNatClampNeg (0 : Int32).toNatClampNeg (200 : Int32).toNatClampNeg) fun I11 =>
nm (x2 + (1 : Int32)) fun v12 =>
r_2 v12 I11 J) else none) else none) else none) else none) else none) else none) else none) else none)
def fL_X2_becomeLike_2 (k : Nat) (a0 : Nat) : Nat → Int32 → HI → HJ → Option (HI)
  | 0 => fun _ _ _ => none
  | f + 1 => fLB_X2_becomeLike_2 k a0 (fL_X2_becomeLike_2 k a0 f)
def f_X2_becomeLike (k : Nat) (a0 : Nat) (I : HI) (J : HJ) : Option (HI) :=
fL_X2_becomeLike_2 k a0 FU (0 : Int32) I J
def f_X2_negateTop (k : Nat) (a0 : Int32) (I : HI) (J : HJ) : Option (HI) :=
if a0 ≤ 0 then (
some (I))
else (
if (32 : Int32) < a0 then (
some (I))
else (
if vin (a0 - (1 : Int32)) 32 = true then (
if vin (a0 - (1 : Int32)) 32 = true then (
nm (put I (rfn k 3) (a0 - (1 : Int32)).toNatClampNeg (-(I (rfn k 3) (a0 - (1 : Int32)).toNatClampNeg))) fun I2 =>
some (I2)) else none) else none))
def f_X2_joined (a0 : Int32) (a1 : Int32) (a2 : Int32) : Option (Int32) :=
if a1 = (37 : Int32) then (
if a2 = 0 then (
some ((0 : Int32)))
else (
if a2 = 0 then none else
some (jrem a0 a2)))
else (
if a1 = (42 : Int32) then (
some (a0 * a2))
else (
if a1 = (43 : Int32) then (
some (a0 + a2))
else (
if a1 = (45 : Int32) then (
some (a0 - a2))
else (
if a1 = (47 : Int32) then (
if a2 = 0 then (
some ((0 : Int32)))
else (
if a2 = 0 then none else
some (a0 / a2)))
else (
if a1 = (60 : Int32) then (
if a2 ≤ a0 then (
some ((0 : Int32)))
else (
some ((1 : Int32))))
else (
if a1 = (61 : Int32) then (
if a0 = a2 then (
some ((1 : Int32)))
else (
some ((0 : Int32))))
else (
if a1 = (62 : Int32) then (
if a0 ≤ a2 then (
some ((0 : Int32)))
else (
some ((1 : Int32))))
else (
some ((0 : Int32))))))))))
def f_X2_join (k : Nat) (a0 : Int32) (a1 : Int32) (I : HI) (J : HJ) : Option (Int32 × HI) :=
if a0 < (2 : Int32) then (
some (a0, I))
else (
if a0 ≤ (32 : Int32) then (
if vin (a0 - (2 : Int32)) 32 = true then (
if vin (a0 - (1 : Int32)) 32 = true then (
bd1 (f_X2_joined (I (rfn k 3) (a0 - (2 : Int32)).toNatClampNeg) a1 (I (rfn k 3) (a0 - (1 : Int32)).toNatClampNeg)) fun r4 =>
if vin (a0 - (2 : Int32)) 32 = true then (
nm (put I (rfn k 3) (a0 - (2 : Int32)).toNatClampNeg r4) fun I6 =>
some (a0 - (1 : Int32), I6)) else none) else none) else none)
else (
some (a0, I)))
def f_X7_named (k : Nat) (a0 : Int32) (I : HI) (J : HJ) : Option (Int32) :=
if a0 = (0 : Int32) then (
some (I k 1))
else (
if a0 = (1 : Int32) then (
some (I k 2))
else (
if a0 = (2 : Int32) then (
some (I k 3))
else (
if a0 = (3 : Int32) then (
some (I k 4))
else (
if a0 = (4 : Int32) then (
some (I k 5))
else (
if a0 = (5 : Int32) then (
some (I k 6))
else (
if a0 = (6 : Int32) then (
some (I k 7))
else (
some ((0 : Int32)))))))))
def f_X2_push (k : Nat) (a0 : Int32) (a1 : Int32) (I : HI) (J : HJ) : Option (Int32 × HI) :=
if a0 < 0 then (
some (a0, I))
else (
if a0 < (32 : Int32) then (
if vin a0 32 = true then (
nm (put I (rfn k 3) a0.toNatClampNeg a1) fun I2 =>
some (a0 + (1 : Int32), I2)) else none)
else (
some (a0, I)))
def fB_X2_worth_119 (k : Nat) (a0 : Int32) (a1 : Nat) (x3 : Int32) (I : HI) (J : HJ) : Option (Int32 × HI) :=
if x3 ≤ 0 then (
some ((0 : Int32), I))
else (
if (32 : Int32) < x3 then (
some ((0 : Int32), I))
else (
if vin (x3 - (1 : Int32)) 32 = true then (
some (I (rfn k 3) (x3 - (1 : Int32)).toNatClampNeg, I)) else none))
def fB_X2_worth_113 (k : Nat) (a0 : Int32) (a1 : Nat) (r_15 : Int32 → Int32 → HI → HJ → Option (Int32 × HI)) (x3 : Int32) (x4 : Int32) (I : HI) (J : HJ) : Option (Int32 × HI) :=
nm (x4 + (1 : Int32)) fun v16 =>
r_15 x3 v16 I J
def fB_X2_worth_109 (k : Nat) (a0 : Int32) (a1 : Nat) (r_15 : Int32 → Int32 → HI → HJ → Option (Int32 × HI)) (x4 : Int32) (s0 : Int32) (s1 : Int32) (s2 : Nat) (I : HI) (J : HJ) : Option (Int32 × HI) :=
bd2 (f_X2_push s2 s1 s0 I J) fun r17 I18 =>
fB_X2_worth_113 k a0 a1 r_15 r17 x4 I18 J
def fLB_X2_worth_15 (k : Nat) (a0 : Int32) (a1 : Nat) (r_15 : Int32 → Int32 → HI → HJ → Option (Int32 × HI)) (x3 : Int32) (x4 : Int32) (I : HI) (J : HJ) : Option (Int32 × HI) :=
if vin a0 4 = true then (
if (I (rfn k 1) a0.toNatClampNeg) ≤ x4 then (
fB_X2_worth_119 k a0 a1 x3 I J)
else (
if (200 : Int32) ≤ x4 then (
fB_X2_worth_119 k a0 a1 x3 I J)
else (
if vin a0 4 = true then (
if vin x4 200 = true then (
nm (I (rfn (rfn k 0) a0.toNatClampNeg) x4.toNatClampNeg) fun v21 =>
if v21 = (20126 : Int32) then (
bd1 (f_X2_negateTop k x3 I J) fun I27 =>
fB_X2_worth_113 k a0 a1 r_15 x3 x4 I27 J)
else (
if v21 < (20000 : Int32) then (
if (10000 : Int32) ≤ v21 then (
bd1 (f_X7_named a1 (v21 - (10000 : Int32)) I J) fun r22 =>
fB_X2_worth_109 k a0 a1 r_15 x4 r22 x3 k I J)
else (
fB_X2_worth_109 k a0 a1 r_15 x4 v21 x3 k I J))
else (
bd2 (f_X2_join k x3 (v21 - (20000 : Int32)) I J) fun r24 I25 =>
fB_X2_worth_113 k a0 a1 r_15 r24 x4 I25 J))) else none) else none))) else none
def fL_X2_worth_15 (k : Nat) (a0 : Int32) (a1 : Nat) : Nat → Int32 → Int32 → HI → HJ → Option (Int32 × HI)
  | 0 => fun _ _ _ _ => none
  | f + 1 => fLB_X2_worth_15 k a0 a1 (fL_X2_worth_15 k a0 a1 f)
def f_X2_worth (k : Nat) (a0 : Int32) (a1 : Nat) (I : HI) (J : HJ) : Option (Int32 × HI) :=
bd1 (f_X2_isKey k a0) fun r29 =>
if r29 = 0 then (
some ((0 : Int32), I))
else (
fL_X2_worth_15 k a0 a1 FU (0 : Int32) (0 : Int32) I J)
def f_X3_size (I : HI) (J : HJ) : Option (Int32) :=
some (I 70 1)
def f_X10_isWithin (a0 : Int32) (a1 : Int32) (a2 : Int32) : Option (Int32) :=
if a0 < a1 then (
some ((0 : Int32)))
else (
if a2 < a0 then (
some ((0 : Int32)))
else (
some ((1 : Int32))))
def f_X3_has (a0 : Int32) (a1 : Int32) (I : HI) (J : HJ) : Option (Int32) :=
bd1 (f_X10_isWithin a0 (0 : Int32) ((I 70 1) - (1 : Int32))) fun r5 =>
if r5 = 0 then (
some ((0 : Int32)))
else (
if (12 : Int32) ≤ a0 then (
some ((0 : Int32)))
else (
bd1 (f_X10_isWithin a1 (0 : Int32) (1 : Int32)) fun r7 =>
if r7 = 0 then (
some ((0 : Int32)))
else (
some ((1 : Int32)))))
def f_X3_at (a0 : Int32) (a1 : Int32) (I : HI) (J : HJ) : Option (Int32) :=
bd1 (f_X3_has a0 a1 I J) fun r4 =>
if r4 = 0 then (
some ((0 : Int32)))
else (
if vin a0 12 = true then (
if vin a1 2 = true then (
some (I (rfn 71 a0.toNatClampNeg) a1.toNatClampNeg)) else none) else none)
def f_X3_alter (a0 : Int32) (a1 : Int32) (a2 : Int32) (I : HI) (J : HJ) : Option (HI) :=
bd1 (f_X3_has a0 a1 I J) fun r5 =>
if r5 = 0 then (
some (I))
else (
if vin a0 12 = true then (
if vin a1 2 = true then (
nm (put I (rfn 71 a0.toNatClampNeg) a1.toNatClampNeg a2) fun I8 =>
some (I8)) else none) else none)
def f_X3_becomeEmpty (I : HI) (J : HJ) : Option (HI) :=
nm (put I 70 1 (0 : Int32)) fun I2 =>
some (I2)
def f_X3_add (a0 : Int32) (a1 : Int32) (I : HI) (J : HJ) : Option (HI) :=
if (I 70 1) < 0 then (
some (I))
else (
if (12 : Int32) ≤ (I 70 1) then (
some (I))
else (
if vin (I 70 1) 12 = true then (
if vin (0 : Int32) 2 = true then (
nm (put I (rfn 71 (I 70 1).toNatClampNeg) (0 : Int32).toNatClampNeg a0) fun I7 =>
if vin (I7 70 1) 12 = true then (
if vin (1 : Int32) 2 = true then (
nm (put I7 (rfn 71 (I7 70 1).toNatClampNeg) (1 : Int32).toNatClampNeg a1) fun I9 =>
nm (put I9 70 1 ((I9 70 1) + (1 : Int32))) fun I10 =>
some (I10)) else none) else none) else none) else none))
def f_X3_tells (a0 : Int32) (a1 : Int32) (a2 : Int32) (I : HI) (J : HJ) : Option (Int32) :=
bd1 (f_X3_at a0 (0 : Int32) I J) fun r5 =>
if r5 = a1 then (
bd1 (f_X3_at a0 (1 : Int32) I J) fun r7 =>
if r7 = a2 then (
some ((1 : Int32)))
else (
some ((0 : Int32))))
else (
some ((0 : Int32)))
def f_X4_size (k : Nat) (I : HI) (J : HJ) : Option (Int32) :=
some (I k 1)
def f_X4_at (k : Nat) (a0 : Int32) (I : HI) (J : HJ) : Option ((Option Nat)) :=
if a0 < 0 then (
some ((none : Option Nat)))
else (
if (I k 1) ≤ a0 then (
some ((none : Option Nat)))
else (
if (6 : Int32) ≤ a0 then (
some ((none : Option Nat)))
else (
if vin a0 6 = true then (
some (some (rfn (rfn k 0) a0.toNatClampNeg))) else none)))
def f_X9_becomeLike (k : Nat) (a0 : Nat) (I : HI) (J : HJ) : Option (HI) :=
if (0 ≤ (0 : Int32) ∧ 0 ≤ (0 : Int32) ∧ 0 ≤ (60 : Int32) ∧ (0 : Int32).toNatClampNeg + (60 : Int32).toNatClampNeg ≤ 60 ∧ (0 : Int32).toNatClampNeg + (60 : Int32).toNatClampNeg ≤ 60) then (
nm (cpyI I (rfn a0 0) (rfn k 0) (0 : Int32).toNatClampNeg (0 : Int32).toNatClampNeg (60 : Int32).toNatClampNeg) fun I3 =>
nm (put I3 k 1 (I3 a0 1)) fun I4 =>
some (I4)) else none
def f_X4_add (k : Nat) (a0 : Nat) (I : HI) (J : HJ) : Option (Int32 × HI) :=
if (I k 1) < 0 then (
some ((0 : Int32), I))
else (
if (6 : Int32) ≤ (I k 1) then (
some ((0 : Int32), I))
else (
if vin (I k 1) 6 = true then (
if vin (I k 1) 6 = true then (
bd1 (f_X9_becomeLike (rfn (rfn k 0) (I k 1).toNatClampNeg) a0 I J) fun I8 =>
nm (put I8 k 1 ((I8 k 1) + (1 : Int32))) fun I10 =>
some ((1 : Int32), I10)) else none) else none))
def fB_X4_becomeLike_37 (k : Nat) (a0 : Nat) (r_7 : Int32 → HI → HJ → Option (HI)) (x2 : Int32) (I : HI) (J : HJ) : Option (HI) :=
nm (x2 + (1 : Int32)) fun v10 =>
r_7 v10 I J
def fLB_X4_becomeLike_7 (k : Nat) (a0 : Nat) (r_7 : Int32 → HI → HJ → Option (HI)) (x2 : Int32) (I : HI) (J : HJ) : Option (HI) :=
if (I a0 1) ≤ x2 then (
some (I))
else (
if (6 : Int32) ≤ x2 then (
some (I))
else (
bd1 (f_X4_at a0 x2 I J) fun r11 =>
oel r11 (
fB_X4_becomeLike_37 k a0 r_7 x2 I J) (fun q13 => if oK q13 = 8 then (
bd2 (f_X4_add k q13 I J) fun r15 I16 =>
fB_X4_becomeLike_37 k a0 r_7 x2 I16 J) else none)))
def fL_X4_becomeLike_7 (k : Nat) (a0 : Nat) : Nat → Int32 → HI → HJ → Option (HI)
  | 0 => fun _ _ _ => none
  | f + 1 => fLB_X4_becomeLike_7 k a0 (fL_X4_becomeLike_7 k a0 f)
def f_X4_becomeLike (k : Nat) (a0 : Nat) (I : HI) (J : HJ) : Option (HI) :=
nm (put I k 1 (0 : Int32)) fun I18 =>
fL_X4_becomeLike_7 k a0 FU (0 : Int32) I18 J
def f_X5_isSheet (a0 : Int32) : Option (Int32) :=
if a0 < 0 then (
some ((0 : Int32)))
else (
if (4 : Int32) ≤ a0 then (
some ((0 : Int32)))
else (
some ((1 : Int32))))
def f_X5_has (a0 : Int32) (a1 : Int32) (I : HI) (J : HJ) : Option (Int32) :=
bd1 (f_X5_isSheet a0) fun r5 =>
if r5 = 0 then (
some ((0 : Int32)))
else (
if vin a0 4 = true then (
bd1 (f_X10_isWithin a1 (0 : Int32) ((I 86 a0.toNatClampNeg) - (1 : Int32))) fun r7 =>
if r7 = 0 then (
some ((0 : Int32)))
else (
if (40 : Int32) ≤ a1 then (
some ((0 : Int32)))
else (
some ((1 : Int32))))) else none)
def f_X5_sortOf (a0 : Int32) (I : HI) (J : HJ) : Option (Int32) :=
bd1 (f_X5_isSheet a0) fun r3 =>
if r3 = 0 then (
some ((-1 : Int32)))
else (
if vin a0 4 = true then (
some (I 85 a0.toNatClampNeg)) else none)
def f_X5_sizeOf (a0 : Int32) (I : HI) (J : HJ) : Option (Int32) :=
bd1 (f_X5_isSheet a0) fun r3 =>
if r3 = 0 then (
some ((0 : Int32)))
else (
if vin a0 4 = true then (
some (I 86 a0.toNatClampNeg)) else none)
def f_X5_becomeMissing (a0 : Int32) (I : HI) (J : HJ) : Option (HI) :=
bd1 (f_X5_isSheet a0) fun r5 =>
if r5 = 0 then (
some (I))
else (
if vin a0 4 = true then (
nm (put I 85 a0.toNatClampNeg (-1 : Int32)) fun I7 =>
if vin a0 4 = true then (
nm (put I7 86 a0.toNatClampNeg (0 : Int32)) fun I8 =>
some (I8)) else none) else none)
def fLB_X5_becomeRow_25 (a0 : Int32) (a1 : Int32) (a2 : Int32) (r_25 : Int32 → HI → HJ → Option (HI)) (x4 : Int32) (I : HI) (J : HJ) : Option (HI) :=
if (40 : Int32) ≤ x4 then (
some (I))
else (
if vin a0 4 = true then (
if vin x4 40 = true then (
nm (put I (rfn 87 a0.toNatClampNeg) x4.toNatClampNeg (0 : Int32)) fun I9 =>
nm (x4 + (1 : Int32)) fun v10 =>
r_25 v10 I9 J) else none) else none)
def fL_X5_becomeRow_25 (a0 : Int32) (a1 : Int32) (a2 : Int32) : Nat → Int32 → HI → HJ → Option (HI)
  | 0 => fun _ _ _ => none
  | f + 1 => fLB_X5_becomeRow_25 a0 a1 a2 (fL_X5_becomeRow_25 a0 a1 a2 f)
def f_X5_becomeRow (a0 : Int32) (a1 : Int32) (a2 : Int32) (I : HI) (J : HJ) : Option (HI) :=
bd1 (f_X5_isSheet a0) fun r11 =>
if r11 = 0 then (
some (I))
else (
if vin a0 4 = true then (
nm (put I 85 a0.toNatClampNeg a1) fun I13 =>
if vin a0 4 = true then (
nm (put I13 86 a0.toNatClampNeg a2) fun I14 =>
fL_X5_becomeRow_25 a0 a1 a2 FU (0 : Int32) I14 J) else none) else none)
def f_X5_at (a0 : Int32) (a1 : Int32) (I : HI) (J : HJ) : Option (Int32) :=
bd1 (f_X5_has a0 a1 I J) fun r4 =>
if r4 = 0 then (
some ((0 : Int32)))
else (
if vin a0 4 = true then (
if vin a1 40 = true then (
some (I (rfn 87 a0.toNatClampNeg) a1.toNatClampNeg)) else none) else none)
def f_X5_narrowed (a0 : Int32) (a1 : Int32) : Option (Int32) :=
if a0 = (0 : Int32) then (
some (a1.toInt8.toInt32))
else (
if a0 = (1 : Int32) then (
some (a1.toInt16.toInt32))
else (
if a0 = (4 : Int32) then (
if a1 = 0 then (
some ((0 : Int32)))
else (
some ((1 : Int32))))
else (
some (a1))))
def f_X5_putNarrowed (a0 : Int32) (a1 : Int32) (a2 : Int32) (I : HI) (J : HJ) : Option (HI) :=
bd1 (f_X5_has a0 a1 I J) fun r7 =>
if r7 = 0 then (
some (I))
else (
if vin a0 4 = true then (
if vin a0 4 = true then (
bd1 (f_X5_narrowed (I 85 a0.toNatClampNeg) a2) fun r10 =>
if vin a1 40 = true then (
nm (put I (rfn 87 a0.toNatClampNeg) a1.toNatClampNeg r10) fun I12 =>
some (I12)) else none) else none) else none)
def f_X6_isShelf (a0 : Int32) : Option (Int32) :=
if a0 < 0 then (
some ((0 : Int32)))
else (
if (4 : Int32) ≤ a0 then (
some ((0 : Int32)))
else (
some ((1 : Int32))))
def f_X6_hold (a0 : Int32) (a1 : Int32) (a2 : Int32) (a3 : Int32) (I : HI) (J : HJ) : Option (Int32 × HI) :=
bd1 (f_X6_isShelf a0) fun r6 =>
if r6 = 0 then (
some ((1 : Int32), I))
else (
if vin a0 4 = true then (
nm (put I 93 a0.toNatClampNeg a1) fun I8 =>
if vin a0 4 = true then (
nm (put I8 94 a0.toNatClampNeg a2) fun I9 =>
if vin a0 4 = true then (
nm (put I9 95 a0.toNatClampNeg a3) fun I10 =>
some ((1 : Int32), I10)) else none) else none) else none)
def f_X6_whatOn (a0 : Int32) (I : HI) (J : HJ) : Option (Int32) :=
bd1 (f_X6_isShelf a0) fun r3 =>
if r3 = 0 then (
some ((3 : Int32)))
else (
if vin a0 4 = true then (
some (I 93 a0.toNatClampNeg)) else none)
def f_X6_numberOn (a0 : Int32) (I : HI) (J : HJ) : Option (Int32) :=
bd1 (f_X6_isShelf a0) fun r3 =>
if r3 = 0 then (
some ((0 : Int32)))
else (
if vin a0 4 = true then (
some (I 94 a0.toNatClampNeg)) else none)
def f_X6_itemsOn (a0 : Int32) (I : HI) (J : HJ) : Option (Int32) :=
bd1 (f_X6_isShelf a0) fun r3 =>
if r3 = 0 then (
some ((0 : Int32)))
else (
if vin a0 4 = true then (
some (I 95 a0.toNatClampNeg)) else none)
def f_X9_becomeEmpty (k : Nat) (I : HI) (J : HJ) : Option (HI) :=
nm (put I k 1 (0 : Int32)) fun I2 =>
some (I2)
def f_X7_beginAnew (k : Nat) (a0 : Int32) (a1 : Int32) (a2 : Int32) (I : HI) (J : HJ) : Option (HI × HJ) :=
nm (put I k 1 a0) fun I12 =>
nm (put I12 k 2 a1) fun I13 =>
nm (put I13 k 3 a2) fun I14 =>
nm (put I14 k 4 (0 : Int32)) fun I15 =>
nm (put I15 k 5 (0 : Int32)) fun I16 =>
nm (put I16 k 6 (0 : Int32)) fun I17 =>
nm (putJ J k 10 (0 : Int64)) fun J18 =>
nm (putJ J18 k 11 (0 : Int64)) fun J19 =>
nm (put I17 k 12 a0) fun I20 =>
bd1 (f_X9_becomeEmpty (rfn k 0) I20 J19) fun I21 =>
some (I21, J19)
def f_X7_goOnFrom (k : Nat) (a0 : Nat) (I : HI) (J : HJ) : Option (HI × HJ) :=
nm (put I k 1 (I a0 1)) fun I15 =>
nm (put I15 k 2 (I15 a0 2)) fun I16 =>
nm (put I16 k 3 (I16 a0 3)) fun I17 =>
nm (put I17 k 4 (I17 a0 4)) fun I18 =>
nm (put I18 k 5 (I18 a0 5)) fun I19 =>
nm (put I19 k 6 (I19 a0 6)) fun I20 =>
nm (put I20 k 7 (I20 a0 7)) fun I21 =>
nm (put I21 k 8 (I21 a0 8)) fun I22 =>
nm (put I22 k 9 (I22 a0 9)) fun I23 =>
nm (putJ J k 10 (J a0 10)) fun J24 =>
nm (putJ J24 k 11 (J24 a0 11)) fun J25 =>
nm (put I23 k 12 (I23 a0 12)) fun I26 =>
bd1 (f_X9_becomeEmpty (rfn k 0) I26 J25) fun I27 =>
some (I27, J25)
def f_X7_becomeLike (k : Nat) (a0 : Nat) (I : HI) (J : HJ) : Option (HI × HJ) :=
bd2 (f_X7_goOnFrom k a0 I J) fun I6 J7 =>
bd1 (f_X9_becomeLike (rfn k 0) (rfn a0 0) I6 J7) fun I9 =>
some (I9, J7)
def f_X9_isFull (k : Nat) (I : HI) (J : HJ) : Option (Int32) :=
if (I k 1) < (60 : Int32) then (
some ((0 : Int32)))
else (
some ((1 : Int32)))
def f_X10_heldTo (a0 : Int32) (a1 : Int32) (a2 : Int32) : Option (Int32) :=
some (jmax a1 (jmin a2 a0))
def f_X7_addWeight (k : Nat) (a0 : Int32) (I : HI) (J : HJ) : Option (HI) :=
nm (put I k 1 (jmin (99999 : Int32) ((I k 1) + a0))) fun I2 =>
some (I2)
def f_X7_shakeSpeed (k : Nat) (I : HI) (J : HJ) : Option (HI) :=
nm (((2 : Int32) * (I k 8)) + (1 : Int32)) fun v4 =>
if (I k 8) = 0 then (
some (I))
else (
if v4 = 0 then (
some (I))
else (
nm (put I k 9 (((I k 9) * (1103515245 : Int32)) + (12345 : Int32))) fun I5 =>
if v4 = 0 then none else
nm (put I5 k 3 ((I5 k 3) + ((jrem (jushr (I5 k 9) (16 : Int32)) v4) - (I5 k 8)))) fun I6 =>
some (I6)))
def f_X7_swayOn (k : Nat) (I : HI) (J : HJ) : Option (HI) :=
nm (put I k 2 ((I k 2) + (I k 3))) fun I8 =>
bd1 (f_X10_isWithin (I8 k 2) (-999 : Int32) (999 : Int32)) fun r9 =>
if r9 = 0 then (
bd1 (f_X10_heldTo (I8 k 2) (-999 : Int32) (999 : Int32)) fun r11 =>
nm (put I8 k 2 r11) fun I13 =>
nm (put I13 k 3 (0 : Int32)) fun I14 =>
some (I14))
else (
some (I8))
def f_X9_add (k : Nat) (a0 : Int32) (I : HI) (J : HJ) : Option (Int32 × HI) :=
bd1 (f_X9_isFull k I J) fun r5 =>
if r5 = 0 then (
if 0 ≤ (I k 1) then (
if vin (I k 1) 60 = true then (
nm (put I (rfn k 0) (I k 1).toNatClampNeg a0) fun I7 =>
nm (put I7 k 1 ((I7 k 1) + (1 : Int32))) fun I8 =>
some ((1 : Int32), I8)) else none)
else (
some ((0 : Int32), I)))
else (
some ((0 : Int32), I))
def f_X7_letDrop (k : Nat) (a0 : Int32) (I : HI) (J : HJ) : Option (HI × HJ) :=
nm (put I k 13 (I k 5)) fun I12 =>
nm (put I12 k 14 ((I12 k 1) - a0)) fun I13 =>
nm (putJ J k 11 ((J k 11) + ((I13 k 14).toInt64))) fun J14 =>
nm (put I13 k 1 a0) fun I15 =>
nm (put I15 k 2 (-((I15 k 2) / (2 : Int32)))) fun I16 =>
nm (put I16 k 3 (-((I16 k 3) / (2 : Int32)))) fun I17 =>
nm (put I17 k 5 (0 : Int32)) fun I18 =>
nm (put I18 k 6 ((I18 k 6) + (1 : Int32))) fun I19 =>
bd2 (f_X9_add (rfn k 0) (I19 k 13) I19 J14) fun r20 I21 =>
some (I21, J14)
def f_X7_goOneTick (k : Nat) (a0 : Nat) (I : HI) (J : HJ) : Option (Int32 × HI × HJ) :=
nm (put I k 4 ((I k 4) + (1 : Int32))) fun I35 =>
nm (put I35 k 5 ((I35 k 5) + (1 : Int32))) fun I36 =>
bd2 (f_X2_worth a0 (0 : Int32) k I36 J) fun r37 I38 =>
bd1 (f_X10_heldTo r37 (0 : Int32) (999 : Int32)) fun r40 =>
nm (putJ J k 10 ((J k 10) + (r40.toInt64))) fun J42 =>
bd1 (f_X7_addWeight k r40 I38 J42) fun I43 =>
bd2 (f_X2_worth a0 (1 : Int32) k I43 J42) fun r45 I46 =>
bd1 (f_X10_heldTo r45 (-999 : Int32) (999 : Int32)) fun r48 =>
nm (put I46 k 3 ((I43 k 3) - r48)) fun I50 =>
bd1 (f_X7_shakeSpeed k I50 J42) fun I51 =>
bd1 (f_X10_heldTo (I51 k 3) (-999 : Int32) (999 : Int32)) fun r53 =>
nm (put I51 k 3 r53) fun I55 =>
bd1 (f_X7_swayOn k I55 J42) fun I56 =>
bd2 (f_X2_worth a0 (2 : Int32) k I56 J42) fun r58 I59 =>
if r58 = 0 then (
some ((0 : Int32), I59, J42))
else (
bd2 (f_X2_worth a0 (3 : Int32) k I59 J42) fun r61 I62 =>
bd1 (f_X10_heldTo r61 (0 : Int32) (I62 k 1)) fun r64 =>
bd2 (f_X7_letDrop k r64 I62 J42) fun I66 J67 =>
some ((1 : Int32), I66, J67))
def fLB_X7_fillRow_2 (k : Nat) (a0 : Int32) (a1 : Nat) (r_2 : Int32 → HI → HJ → Option (HI × HJ)) (x3 : Int32) (I : HI) (J : HJ) : Option (HI × HJ) :=
if a0 ≤ x3 then (
some (I, J))
else (
bd1 (f_X9_isFull (rfn k 0) I J) fun r8 =>
if r8 = 0 then (
bd3 (f_X7_goOneTick k a1 I J) fun r10 I11 J12 =>
nm (x3 + (1 : Int32)) fun v14 =>
r_2 v14 I11 J12)
else (
some (I, J)))
def fL_X7_fillRow_2 (k : Nat) (a0 : Int32) (a1 : Nat) : Nat → Int32 → HI → HJ → Option (HI × HJ)
  | 0 => fun _ _ _ => none
  | f + 1 => fLB_X7_fillRow_2 k a0 a1 (fL_X7_fillRow_2 k a0 a1 f)
def f_X7_fillRow (k : Nat) (a0 : Int32) (a1 : Nat) (I : HI) (J : HJ) : Option (HI × HJ) :=
fL_X7_fillRow_2 k a0 a1 FU (0 : Int32) I J
def f_X8_size (I : HI) (J : HJ) : Option (Int32) :=
some (I 59 2)
def fLB_X8_takeBytes_21 (a0 : Int64) (a1 : Int32) (r_21 : Int32 → HI → HJ → Option (Int32 × HI)) (x4 : Int32) (I : HI) (J : HJ) : Option (Int32 × HI) :=
if a1 ≤ x4 then (
nm (put I 59 2 ((I 59 2) + a1)) fun I4 =>
some ((1 : Int32), I4))
else (
if vin ((I 59 2) + x4) 200 = true then (
nm (put I 69 ((I 59 2) + x4).toNatClampNeg (((jlushr a0 ((8 : Int32) * x4)).toInt32) &&& (255 : Int32))) fun I5 =>
nm (x4 + (1 : Int32)) fun v6 =>
r_21 v6 I5 J) else none)
def fL_X8_takeBytes_21 (a0 : Int64) (a1 : Int32) : Nat → Int32 → HI → HJ → Option (Int32 × HI)
  | 0 => fun _ _ _ => none
  | f + 1 => fLB_X8_takeBytes_21 a0 a1 (fL_X8_takeBytes_21 a0 a1 f)
def f_X8_takeBytes (a0 : Int64) (a1 : Int32) (I : HI) (J : HJ) : Option (Int32 × HI) :=
if a1 < 0 then (
some ((0 : Int32), I))
else (
if a1 ≤ ((200 : Int32) - (I 59 2)) then (
fL_X8_takeBytes_21 a0 a1 FU (0 : Int32) I J)
else (
some ((0 : Int32), I)))
def f_X8_useUp (I : HI) (J : HJ) : Option (HI) :=
nm (put I 59 2 (0 : Int32)) fun I2 =>
some (I2)
def f_X8_faultPlace (I : HI) (J : HJ) : Option (Int32) :=
some (I 59 5)
def f_X8_isLetter (a0 : Int32) : Option (Int32) :=
if a0 < (97 : Int32) then (
some ((0 : Int32)))
else (
if (122 : Int32) < a0 then (
some ((0 : Int32)))
else (
some ((1 : Int32))))
def f_X8_isDigit (a0 : Int32) : Option (Int32) :=
if a0 < (48 : Int32) then (
some ((0 : Int32)))
else (
if (57 : Int32) < a0 then (
some ((0 : Int32)))
else (
some ((1 : Int32))))
def fB_X8_goToNext_84 (I : HI) (J : HJ) : Option (HI) :=
nm (put I 59 4 (256 : Int32)) fun I20 =>
nm (put I20 59 6 (I20 59 5)) fun I21 =>
some (I21)
def fLB_X8_goToNext_197 (r_197 : HI → HJ → Option (HI)) (I : HI) (J : HJ) : Option (HI) :=
if (I 59 2) ≤ (I 59 6) then (
some (I))
else (
if (200 : Int32) ≤ (I 59 6) then (
some (I))
else (
if vin (I 59 6) 200 = true then (
bd1 (f_X8_isDigit (I 69 (I 59 6).toNatClampNeg)) fun r22 =>
if r22 = 0 then (
some (I))
else (
nm (put I 59 6 ((I 59 6) + (1 : Int32))) fun I24 =>
r_197 I24 J)) else none))
def fL_X8_goToNext_197 : Nat → HI → HJ → Option (HI)
  | 0 => fun _ _ => none
  | f + 1 => fLB_X8_goToNext_197 (fL_X8_goToNext_197 f)
def fLB_X8_goToNext_134 (r_134 : HI → HJ → Option (HI)) (I : HI) (J : HJ) : Option (HI) :=
if (I 59 2) ≤ (I 59 6) then (
some (I))
else (
if (200 : Int32) ≤ (I 59 6) then (
some (I))
else (
if vin (I 59 6) 200 = true then (
bd1 (f_X8_isLetter (I 69 (I 59 6).toNatClampNeg)) fun r25 =>
if r25 = 0 then (
some (I))
else (
nm (put I 59 6 ((I 59 6) + (1 : Int32))) fun I27 =>
r_134 I27 J)) else none))
def fL_X8_goToNext_134 : Nat → HI → HJ → Option (HI)
  | 0 => fun _ _ => none
  | f + 1 => fLB_X8_goToNext_134 (fL_X8_goToNext_134 f)
def fB_X8_goToNext_56 (I : HI) (J : HJ) : Option (HI) :=
if (I 59 5) < 0 then (
fB_X8_goToNext_84 I J)
else (
if (I 59 2) ≤ (I 59 5) then (
fB_X8_goToNext_84 I J)
else (
if (I 59 5) < (200 : Int32) then (
if vin (I 59 5) 200 = true then (
nm (I 69 (I 59 5).toNatClampNeg) fun v28 =>
nm (put I 59 6 ((I 59 5) + (1 : Int32))) fun I29 =>
bd1 (f_X8_isLetter v28) fun r30 =>
if r30 = 0 then (
bd1 (f_X8_isDigit v28) fun r32 =>
if r32 = 0 then (
nm (put I29 59 4 v28) fun I34 =>
some (I34))
else (
nm (put I29 59 4 (258 : Int32)) fun I35 =>
fL_X8_goToNext_197 FU I35 J))
else (
nm (put I29 59 4 (257 : Int32)) fun I36 =>
fL_X8_goToNext_134 FU I36 J)) else none)
else (
fB_X8_goToNext_84 I J)))
def fLB_X8_goToNext_8 (r_8 : HI → HJ → Option (HI)) (I : HI) (J : HJ) : Option (HI) :=
if (I 59 2) ≤ (I 59 5) then (
fB_X8_goToNext_56 I J)
else (
if (200 : Int32) ≤ (I 59 5) then (
fB_X8_goToNext_56 I J)
else (
if vin (I 59 5) 200 = true then (
if (I 69 (I 59 5).toNatClampNeg) = (32 : Int32) then (
nm (put I 59 5 ((I 59 5) + (1 : Int32))) fun I37 =>
r_8 I37 J)
else (
fB_X8_goToNext_56 I J)) else none))
def fL_X8_goToNext_8 : Nat → HI → HJ → Option (HI)
  | 0 => fun _ _ => none
  | f + 1 => fLB_X8_goToNext_8 (fL_X8_goToNext_8 f)
def f_X8_goToNext (I : HI) (J : HJ) : Option (HI) :=
nm (put I 59 5 (I 59 6)) fun I38 =>
fL_X8_goToNext_8 FU I38 J
def fB_X8_placeAmong_123 (a0 : Nat) (r_25 : Int32 → Int32 → Int32 → Int32 → HI → HJ → Option (Int32)) (x2 : Int32) (x3 : Int32) (x4 : Int32) (x5 : Int32) (I : HI) (J : HJ) : Option (Int32) :=
nm (x5 + (1 : Int32)) fun v7 =>
r_25 x2 x3 x4 v7 I J
def fB_X8_placeAmong_112 (a0 : Nat) (r_25 : Int32 → Int32 → Int32 → Int32 → HI → HJ → Option (Int32)) (x2 : Int32) (x5 : Int32) (I : HI) (J : HJ) : Option (Int32) :=
nm (x2 + (1 : Int32)) fun v8 =>
nm (I 59 5) fun v9 =>
fB_X8_placeAmong_123 a0 r_25 v8 v9 (1 : Int32) x5 I J
def fB_X8_placeAmong_89 (a0 : Nat) (r_25 : Int32 → Int32 → Int32 → Int32 → HI → HJ → Option (Int32)) (x2 : Int32) (x3 : Int32) (x5 : Int32) (s0 : Int32) (I : HI) (J : HJ) : Option (Int32) :=
nm (x3 + (1 : Int32)) fun v10 =>
fB_X8_placeAmong_123 a0 r_25 x2 v10 s0 x5 I J
def fB_X8_placeAmong_88 (a0 : Nat) (r_25 : Int32 → Int32 → Int32 → Int32 → HI → HJ → Option (Int32)) (x2 : Int32) (x3 : Int32) (x5 : Int32) (I : HI) (J : HJ) : Option (Int32) :=
fB_X8_placeAmong_89 a0 r_25 x2 x3 x5 (0 : Int32) I J
def fLB_X8_placeAmong_25 (a0 : Nat) (r_25 : Int32 → Int32 → Int32 → Int32 → HI → HJ → Option (Int32)) (x2 : Int32) (x3 : Int32) (x4 : Int32) (x5 : Int32) (I : HI) (J : HJ) : Option (Int32) :=
if (nI (lenJS.getD a0 0)) ≤ x5 then (
some ((-1 : Int32)))
else (
if vin x5 (lenJS.getD a0 0) = true then (
nm (chJS a0 x5) fun v11 =>
if v11 = (32 : Int32) then (
if x4 = 0 then (
fB_X8_placeAmong_112 a0 r_25 x2 x5 I J)
else (
if x3 = (I 59 6) then (
some (x2))
else (
fB_X8_placeAmong_112 a0 r_25 x2 x5 I J)))
else (
if x4 = 0 then (
fB_X8_placeAmong_88 a0 r_25 x2 x3 x5 I J)
else (
if x3 < 0 then (
fB_X8_placeAmong_88 a0 r_25 x2 x3 x5 I J)
else (
if (I 59 6) ≤ x3 then (
fB_X8_placeAmong_88 a0 r_25 x2 x3 x5 I J)
else (
if (200 : Int32) ≤ x3 then (
fB_X8_placeAmong_88 a0 r_25 x2 x3 x5 I J)
else (
if vin x3 200 = true then (
if (I 69 x3.toNatClampNeg) = v11 then (
fB_X8_placeAmong_89 a0 r_25 x2 x3 x5 (1 : Int32) I J)
else (
fB_X8_placeAmong_88 a0 r_25 x2 x3 x5 I J)) else none)))))) else none)
def fL_X8_placeAmong_25 (a0 : Nat) : Nat → Int32 → Int32 → Int32 → Int32 → HI → HJ → Option (Int32)
  | 0 => fun _ _ _ _ _ _ => none
  | f + 1 => fLB_X8_placeAmong_25 a0 (fL_X8_placeAmong_25 a0 f)
def f_X8_placeAmong (a0 : Nat) (I : HI) (J : HJ) : Option (Int32) :=
if (I 59 4) = (257 : Int32) then (
nm (I 59 5) fun v12 =>
fL_X8_placeAmong_25 a0 FU (0 : Int32) v12 (1 : Int32) (0 : Int32) I J)
else (
some ((-1 : Int32)))
def f_X8_levelOf (a0 : Int32) : Option (Int32) :=
if a0 = (37 : Int32) then (
some ((2 : Int32)))
else (
if a0 = (42 : Int32) then (
some ((2 : Int32)))
else (
if a0 = (43 : Int32) then (
some ((1 : Int32)))
else (
if a0 = (45 : Int32) then (
some ((1 : Int32)))
else (
if a0 = (47 : Int32) then (
some ((2 : Int32)))
else (
if a0 = (60 : Int32) then (
some ((0 : Int32)))
else (
if a0 = (61 : Int32) then (
some ((0 : Int32)))
else (
if a0 = (62 : Int32) then (
some ((0 : Int32)))
else (
some ((3 : Int32))))))))))
def fB_X8_tellsNumber_58 (x1 : Int32) (I : HI) (J : HJ) : Option (Int32 × HI) :=
bd1 (f_X2_add 60 (I 59 3) x1 I J) fun I8 =>
bd1 (f_X8_goToNext I8 J) fun I10 =>
some ((1 : Int32), I10)
def fLB_X8_tellsNumber_22 (r_22 : Int32 → Int32 → HI → HJ → Option (Int32 × HI)) (x1 : Int32) (x2 : Int32) (I : HI) (J : HJ) : Option (Int32 × HI) :=
if (I 59 6) ≤ x2 then (
fB_X8_tellsNumber_58 x1 I J)
else (
if (200 : Int32) ≤ x2 then (
fB_X8_tellsNumber_58 x1 I J)
else (
if vin x2 200 = true then (
nm (((x1 * (10 : Int32)) + (I 69 x2.toNatClampNeg)) - (48 : Int32)) fun v12 =>
nm (x2 + (1 : Int32)) fun v13 =>
r_22 v12 v13 I J) else none))
def fL_X8_tellsNumber_22 : Nat → Int32 → Int32 → HI → HJ → Option (Int32 × HI)
  | 0 => fun _ _ _ _ => none
  | f + 1 => fLB_X8_tellsNumber_22 (fL_X8_tellsNumber_22 f)
def f_X8_tellsNumber (I : HI) (J : HJ) : Option (Int32 × HI) :=
if ((I 59 6) - (I 59 5)) ≤ (4 : Int32) then (
nm (I 59 5) fun v14 =>
fL_X8_tellsNumber_22 FU (0 : Int32) v14 I J)
else (
some ((0 : Int32), I))
def f_X8_tellsName (I : HI) (J : HJ) : Option (Int32 × HI) :=
bd1 (f_X8_placeAmong 1 I J) fun r7 =>
if 0 ≤ r7 then (
bd1 (f_X2_add 60 (I 59 3) ((10000 : Int32) + r7) I J) fun I9 =>
bd1 (f_X8_goToNext I9 J) fun I11 =>
some ((1 : Int32), I11))
else (
some ((0 : Int32), I))
def fLB_X8_tellsJoined_39 (g_tellsJoined : Int32 → Int32 → HI → HJ → Option (Int32 × HI)) (g_tellsOne : Int32 → HI → HJ → Option (Int32 × HI)) (g_tellsLess : Int32 → HI → HJ → Option (Int32 × HI)) (g_tellsBracket : Int32 → HI → HJ → Option (Int32 × HI)) (a0 : Int32) (a1 : Int32) (r_39 : Int32 → Int32 → HI → HJ → Option (Int32 × HI)) (x3 : Int32) (x4 : Int32) (I : HI) (J : HJ) : Option (Int32 × HI) :=
if x3 ≤ x4 then (
some ((1 : Int32), I))
else (
bd1 (f_X8_levelOf (I 59 4)) fun r18 =>
if r18 = a0 then (
nm (I 59 4) fun v20 =>
bd1 (f_X8_goToNext I J) fun I21 =>
bd2 (g_tellsJoined (a0 + (1 : Int32)) a1 I21 J) fun r23 I24 =>
if r23 = 0 then (
some ((0 : Int32), I24))
else (
bd1 (f_X2_add 60 (I24 59 3) ((20000 : Int32) + v20) I24 J) fun I26 =>
nm (x4 + (1 : Int32)) fun v28 =>
r_39 x3 v28 I26 J))
else (
some ((1 : Int32), I)))
def fL_X8_tellsJoined_39 (g_tellsJoined : Int32 → Int32 → HI → HJ → Option (Int32 × HI)) (g_tellsOne : Int32 → HI → HJ → Option (Int32 × HI)) (g_tellsLess : Int32 → HI → HJ → Option (Int32 × HI)) (g_tellsBracket : Int32 → HI → HJ → Option (Int32 × HI)) (a0 : Int32) (a1 : Int32) : Nat → Int32 → Int32 → HI → HJ → Option (Int32 × HI)
  | 0 => fun _ _ _ _ => none
  | f + 1 => fLB_X8_tellsJoined_39 g_tellsJoined g_tellsOne g_tellsLess g_tellsBracket a0 a1 (fL_X8_tellsJoined_39 g_tellsJoined g_tellsOne g_tellsLess g_tellsBracket a0 a1 f)
def fB_X8_tellsJoined_35 (g_tellsJoined : Int32 → Int32 → HI → HJ → Option (Int32 × HI)) (g_tellsOne : Int32 → HI → HJ → Option (Int32 × HI)) (g_tellsLess : Int32 → HI → HJ → Option (Int32 × HI)) (g_tellsBracket : Int32 → HI → HJ → Option (Int32 × HI)) (a0 : Int32) (a1 : Int32) (s0 : Int32) (I : HI) (J : HJ) : Option (Int32 × HI) :=
fL_X8_tellsJoined_39 g_tellsJoined g_tellsOne g_tellsLess g_tellsBracket a0 a1 FU s0 (0 : Int32) I J
def fb_X8_tellsJoined (g_tellsJoined : Int32 → Int32 → HI → HJ → Option (Int32 × HI)) (g_tellsOne : Int32 → HI → HJ → Option (Int32 × HI)) (g_tellsLess : Int32 → HI → HJ → Option (Int32 × HI)) (g_tellsBracket : Int32 → HI → HJ → Option (Int32 × HI)) (a0 : Int32) (a1 : Int32) (I : HI) (J : HJ) : Option (Int32 × HI) :=
if a0 = (3 : Int32) then (
bd2 (g_tellsOne a1 I J) fun r32 I33 =>
if zb r32 = true then some (r32, I33) else none)
else (
bd2 (g_tellsJoined (a0 + (1 : Int32)) a1 I J) fun r29 I30 =>
if r29 = 0 then (
some ((0 : Int32), I30))
else (
if a0 = 0 then (
fB_X8_tellsJoined_35 g_tellsJoined g_tellsOne g_tellsLess g_tellsBracket a0 a1 (1 : Int32) I30 J)
else (
fB_X8_tellsJoined_35 g_tellsJoined g_tellsOne g_tellsLess g_tellsBracket a0 a1 (200 : Int32) I30 J)))
def fb_X8_tellsOne (g_tellsJoined : Int32 → Int32 → HI → HJ → Option (Int32 × HI)) (g_tellsOne : Int32 → HI → HJ → Option (Int32 × HI)) (g_tellsLess : Int32 → HI → HJ → Option (Int32 × HI)) (g_tellsBracket : Int32 → HI → HJ → Option (Int32 × HI)) (a0 : Int32) (I : HI) (J : HJ) : Option (Int32 × HI) :=
nm (I 59 4) fun v18 =>
if v18 = (40 : Int32) then (
if (4 : Int32) ≤ a0 then (
some ((0 : Int32), I))
else (
bd2 (g_tellsBracket (a0 + (1 : Int32)) I J) fun r20 I21 =>
if r20 = 0 then (
some ((0 : Int32), I21))
else (
some ((1 : Int32), I21))))
else (
if v18 = (45 : Int32) then (
if (4 : Int32) ≤ a0 then (
some ((0 : Int32), I))
else (
bd2 (g_tellsLess (a0 + (1 : Int32)) I J) fun r24 I25 =>
if r24 = 0 then (
some ((0 : Int32), I25))
else (
some ((1 : Int32), I25))))
else (
if v18 = (257 : Int32) then (
bd2 (f_X8_tellsName I J) fun r28 I29 =>
if zb r28 = true then some (r28, I29) else none)
else (
if v18 = (258 : Int32) then (
bd2 (f_X8_tellsNumber I J) fun r32 I33 =>
if zb r32 = true then some (r32, I33) else none)
else (
some ((0 : Int32), I)))))
def fb_X8_tellsLess (g_tellsJoined : Int32 → Int32 → HI → HJ → Option (Int32 × HI)) (g_tellsOne : Int32 → HI → HJ → Option (Int32 × HI)) (g_tellsLess : Int32 → HI → HJ → Option (Int32 × HI)) (g_tellsBracket : Int32 → HI → HJ → Option (Int32 × HI)) (a0 : Int32) (I : HI) (J : HJ) : Option (Int32 × HI) :=
bd1 (f_X8_goToNext I J) fun I8 =>
bd2 (g_tellsOne a0 I8 J) fun r10 I11 =>
if r10 = 0 then (
some ((0 : Int32), I11))
else (
bd1 (f_X2_add 60 (I11 59 3) (20126 : Int32) I11 J) fun I13 =>
some ((1 : Int32), I13))
def fb_X8_tellsBracket (g_tellsJoined : Int32 → Int32 → HI → HJ → Option (Int32 × HI)) (g_tellsOne : Int32 → HI → HJ → Option (Int32 × HI)) (g_tellsLess : Int32 → HI → HJ → Option (Int32 × HI)) (g_tellsBracket : Int32 → HI → HJ → Option (Int32 × HI)) (a0 : Int32) (I : HI) (J : HJ) : Option (Int32 × HI) :=
bd1 (f_X8_goToNext I J) fun I8 =>
bd2 (g_tellsJoined (0 : Int32) a0 I8 J) fun r10 I11 =>
if r10 = 0 then (
some ((0 : Int32), I11))
else (
if (I11 59 4) = (41 : Int32) then (
bd1 (f_X8_goToNext I11 J) fun I13 =>
some ((1 : Int32), I13))
else (
some ((0 : Int32), I11)))
def grp_X8_tellsJoined : Nat → (Int32 → Int32 → HI → HJ → Option (Int32 × HI)) × (Int32 → HI → HJ → Option (Int32 × HI)) × (Int32 → HI → HJ → Option (Int32 × HI)) × (Int32 → HI → HJ → Option (Int32 × HI))
  | 0 => (fun _ _ _ _ => none, fun _ _ _ => none, fun _ _ _ => none, fun _ _ _ => none)
  | d + 1 => nm (grp_X8_tellsJoined d) fun q => ((fb_X8_tellsJoined (q.1) (q.2.1) (q.2.2.1) (q.2.2.2)), (fb_X8_tellsOne (q.1) (q.2.1) (q.2.2.1) (q.2.2.2)), (fb_X8_tellsLess (q.1) (q.2.1) (q.2.2.1) (q.2.2.2)), (fb_X8_tellsBracket (q.1) (q.2.1) (q.2.2.1) (q.2.2.2)))
def f_X8_tellsJoined (d : Nat) : Int32 → Int32 → HI → HJ → Option (Int32 × HI) := (grp_X8_tellsJoined d).1
def f_X8_tellsOne (d : Nat) : Int32 → HI → HJ → Option (Int32 × HI) := (grp_X8_tellsJoined d).2.1
def f_X8_tellsLess (d : Nat) : Int32 → HI → HJ → Option (Int32 × HI) := (grp_X8_tellsJoined d).2.2.1
def f_X8_tellsBracket (d : Nat) : Int32 → HI → HJ → Option (Int32 × HI) := (grp_X8_tellsJoined d).2.2.2
def f_X8_tellsLaw (I : HI) (J : HJ) : Option (Int32 × HI) :=
bd1 (f_X8_placeAmong 0 I J) fun r13 =>
nm (put I 59 3 r13) fun I15 =>
if 0 ≤ (I15 59 3) then (
bd1 (f_X2_tellAnew 60 (I15 59 3) I15 J) fun I16 =>
bd1 (f_X8_goToNext I16 J) fun I18 =>
bd2 (f_X8_tellsJoined 40 (0 : Int32) (0 : Int32) I18 J) fun r20 I21 =>
if r20 = 0 then (
some ((0 : Int32), I21))
else (
if (I21 59 4) = (59 : Int32) then (
bd1 (f_X8_goToNext I21 J) fun I23 =>
some ((1 : Int32), I23))
else (
some ((0 : Int32), I21))))
else (
some ((0 : Int32), I15))
def fB_X8_tellsLaws_49 (I : HI) (J : HJ) : Option (Int32 × HI) :=
if (I 59 4) = (256 : Int32) then (
some ((1 : Int32), I))
else (
some ((0 : Int32), I))
def fLB_X8_tellsLaws_18 (r_18 : Int32 → HI → HJ → Option (Int32 × HI)) (x1 : Int32) (I : HI) (J : HJ) : Option (Int32 × HI) :=
if (8 : Int32) ≤ x1 then (
fB_X8_tellsLaws_49 I J)
else (
if (I 59 4) = (256 : Int32) then (
fB_X8_tellsLaws_49 I J)
else (
bd2 (f_X8_tellsLaw I J) fun r10 I11 =>
if r10 = 0 then (
some ((0 : Int32), I11))
else (
nm (x1 + (1 : Int32)) fun v13 =>
r_18 v13 I11 J)))
def fL_X8_tellsLaws_18 : Nat → Int32 → HI → HJ → Option (Int32 × HI)
  | 0 => fun _ _ _ => none
  | f + 1 => fLB_X8_tellsLaws_18 (fL_X8_tellsLaws_18 f)
def f_X8_tellsLaws (I : HI) (J : HJ) : Option (Int32 × HI) :=
bd1 (f_X2_becomeAsAtFirst 60 I J) fun I14 =>
nm (put I14 59 6 (0 : Int32)) fun I16 =>
bd1 (f_X8_goToNext I16 J) fun I17 =>
fL_X8_tellsLaws_18 FU (0 : Int32) I17 J
def f_X9_size (k : Nat) (I : HI) (J : HJ) : Option (Int32) :=
some (I k 1)
def f_X9_has (k : Nat) (a0 : Int32) (I : HI) (J : HJ) : Option (Int32) :=
if a0 < 0 then (
some ((0 : Int32)))
else (
if (I k 1) ≤ a0 then (
some ((0 : Int32)))
else (
some ((1 : Int32))))
def f_X9_at (k : Nat) (a0 : Int32) (I : HI) (J : HJ) : Option (Int32) :=
bd1 (f_X9_has k a0 I J) fun r3 =>
if r3 = 0 then (
some ((0 : Int32)))
else (
if (60 : Int32) ≤ a0 then (
some ((0 : Int32)))
else (
if vin a0 60 = true then (
some (I (rfn k 0) a0.toNatClampNeg)) else none))
def fLB_X9_comesAgainBy_4 (k : Nat) (a0 : Int32) (a1 : Int32) (r_4 : Int32 → HI → HJ → Option (Int32)) (x3 : Int32) (I : HI) (J : HJ) : Option (Int32) :=
if (I k 1) ≤ x3 then (
some ((1 : Int32)))
else (
bd1 (f_X9_at k x3 I J) fun r7 =>
bd1 (f_X9_at k (x3 - a0) I J) fun r9 =>
if r7 = r9 then (
nm (x3 + (1 : Int32)) fun v11 =>
r_4 v11 I J)
else (
some ((0 : Int32))))
def fL_X9_comesAgainBy_4 (k : Nat) (a0 : Int32) (a1 : Int32) : Nat → Int32 → HI → HJ → Option (Int32)
  | 0 => fun _ _ _ => none
  | f + 1 => fLB_X9_comesAgainBy_4 k a0 a1 (fL_X9_comesAgainBy_4 k a0 a1 f)
def f_X9_comesAgainBy (k : Nat) (a0 : Int32) (a1 : Int32) (I : HI) (J : HJ) : Option (Int32) :=
nm (a1 + a0) fun v12 =>
fL_X9_comesAgainBy_4 k a0 a1 FU v12 I J
def fLB_X9_findPeriod_14 (k : Nat) (r_14 : Int32 → Int32 → HI → HJ → Option (Int32)) (x1 : Int32) (x2 : Int32) (I : HI) (J : HJ) : Option (Int32) :=
if (8 : Int32) < x2 then (
some ((0 : Int32)))
else (
if (x1 / (2 : Int32)) < x2 then (
some ((0 : Int32)))
else (
bd1 (f_X9_comesAgainBy k x2 ((I k 1) - x1) I J) fun r5 =>
if r5 = 0 then (
nm (x2 + (1 : Int32)) fun v7 =>
r_14 x1 v7 I J)
else (
some (x2))))
def fL_X9_findPeriod_14 (k : Nat) : Nat → Int32 → Int32 → HI → HJ → Option (Int32)
  | 0 => fun _ _ _ _ => none
  | f + 1 => fLB_X9_findPeriod_14 k (fL_X9_findPeriod_14 k f)
def f_X9_findPeriod (k : Nat) (I : HI) (J : HJ) : Option (Int32) :=
nm ((I k 1) - ((I k 1) / (2 : Int32))) fun v8 =>
fL_X9_findPeriod_14 k FU v8 (1 : Int32) I J
def f_X9_findKind (k : Nat) (I : HI) (J : HJ) : Option (Int32) :=
if (I k 1) = 0 then (
some ((6 : Int32)))
else (
bd1 (f_X9_findPeriod k I J) fun r7 =>
if r7 = (1 : Int32) then (
some ((1 : Int32)))
else (
if r7 = (2 : Int32) then (
some ((2 : Int32)))
else (
if r7 = (3 : Int32) then (
some ((4 : Int32)))
else (
if r7 = (4 : Int32) then (
some ((3 : Int32)))
else (
some ((5 : Int32)))))))
def fLB_X9_isSameRun_3 (k : Nat) (a0 : Int32) (a1 : Int32) (a2 : Int32) (r_3 : Int32 → HI → HJ → Option (Int32)) (x4 : Int32) (I : HI) (J : HJ) : Option (Int32) :=
if a2 ≤ x4 then (
some ((1 : Int32)))
else (
bd1 (f_X9_at k (a0 + x4) I J) fun r6 =>
bd1 (f_X9_at k (a1 + x4) I J) fun r8 =>
if r6 = r8 then (
nm (x4 + (1 : Int32)) fun v10 =>
r_3 v10 I J)
else (
some ((0 : Int32))))
def fL_X9_isSameRun_3 (k : Nat) (a0 : Int32) (a1 : Int32) (a2 : Int32) : Nat → Int32 → HI → HJ → Option (Int32)
  | 0 => fun _ _ _ => none
  | f + 1 => fLB_X9_isSameRun_3 k a0 a1 a2 (fL_X9_isSameRun_3 k a0 a1 a2 f)
def f_X9_isSameRun (k : Nat) (a0 : Int32) (a1 : Int32) (a2 : Int32) (I : HI) (J : HJ) : Option (Int32) :=
fL_X9_isSameRun_3 k a0 a1 a2 FU (0 : Int32) I J
def fB_X9_isOrder_48 (k : Nat) (a0 : Int32) (r_2 : Int32 → HI → HJ → Option (Int32)) (r_14 : Int32 → Int32 → HI → HJ → Option (Int32)) (x2 : Int32) (x3 : Int32) (I : HI) (J : HJ) : Option (Int32) :=
nm (x3 + (1 : Int32)) fun v9 =>
r_14 x2 v9 I J
def fLB_X9_isOrder_14 (k : Nat) (a0 : Int32) (r_2 : Int32 → HI → HJ → Option (Int32)) (r_14 : Int32 → Int32 → HI → HJ → Option (Int32)) (x2 : Int32) (x3 : Int32) (I : HI) (J : HJ) : Option (Int32) :=
if x2 ≤ x3 then (
nm (x2 + (1 : Int32)) fun v10 =>
r_2 v10 I J)
else (
bd1 (f_X9_at k (x3 + a0) I J) fun r11 =>
bd1 (f_X9_at k (x2 + a0) I J) fun r13 =>
if r11 = r13 then (
fB_X9_isOrder_48 k a0 r_2 r_14 x2 x3 I J)
else (
bd1 (f_X9_isSameRun k x3 x2 a0 I J) fun r15 =>
if r15 = 0 then (
fB_X9_isOrder_48 k a0 r_2 r_14 x2 x3 I J)
else (
some ((0 : Int32)))))
def fL_X9_isOrder_14 (k : Nat) (a0 : Int32) (r_2 : Int32 → HI → HJ → Option (Int32)) : Nat → Int32 → Int32 → HI → HJ → Option (Int32)
  | 0 => fun _ _ _ _ => none
  | f + 1 => fLB_X9_isOrder_14 k a0 r_2 (fL_X9_isOrder_14 k a0 r_2 f)
def fLB_X9_isOrder_2 (k : Nat) (a0 : Int32) (r_2 : Int32 → HI → HJ → Option (Int32)) (x2 : Int32) (I : HI) (J : HJ) : Option (Int32) :=
if (I k 1) ≤ (x2 + a0) then (
some ((1 : Int32)))
else (
fL_X9_isOrder_14 k a0 r_2 FU x2 (0 : Int32) I J)
def fL_X9_isOrder_2 (k : Nat) (a0 : Int32) : Nat → Int32 → HI → HJ → Option (Int32)
  | 0 => fun _ _ _ => none
  | f + 1 => fLB_X9_isOrder_2 k a0 (fL_X9_isOrder_2 k a0 f)
def f_X9_isOrder (k : Nat) (a0 : Int32) (I : HI) (J : HJ) : Option (Int32) :=
fL_X9_isOrder_2 k a0 FU (1 : Int32) I J
def fLB_X9_findOrder_2 (k : Nat) (r_2 : Int32 → HI → HJ → Option (Int32)) (x1 : Int32) (I : HI) (J : HJ) : Option (Int32) :=
if (4 : Int32) < x1 then (
some ((0 : Int32)))
else (
bd1 (f_X9_isOrder k x1 I J) fun r4 =>
if r4 = 0 then (
nm (x1 + (1 : Int32)) fun v6 =>
r_2 v6 I J)
else (
some (x1)))
def fL_X9_findOrder_2 (k : Nat) : Nat → Int32 → HI → HJ → Option (Int32)
  | 0 => fun _ _ _ => none
  | f + 1 => fLB_X9_findOrder_2 k (fL_X9_findOrder_2 k f)
def f_X9_findOrder (k : Nat) (I : HI) (J : HJ) : Option (Int32) :=
fL_X9_findOrder_2 k FU (1 : Int32) I J
def fB_X9_nearestBefore_38 (k : Nat) (a0 : Int32) (a1 : Int32) (r_5 : Int32 → Int32 → HI → HJ → Option (Int32)) (x3 : Int32) (x4 : Int32) (I : HI) (J : HJ) : Option (Int32) :=
nm (x4 + (1 : Int32)) fun v6 =>
r_5 x3 v6 I J
def fLB_X9_nearestBefore_5 (k : Nat) (a0 : Int32) (a1 : Int32) (r_5 : Int32 → Int32 → HI → HJ → Option (Int32)) (x3 : Int32) (x4 : Int32) (I : HI) (J : HJ) : Option (Int32) :=
if a0 ≤ x4 then (
some (x3))
else (
bd1 (f_X9_at k x4 I J) fun r7 =>
bd1 (f_X9_at k x3 I J) fun r9 =>
if (jabs (r9 - a1)) < (jabs (r7 - a1)) then (
fB_X9_nearestBefore_38 k a0 a1 r_5 x3 x4 I J)
else (
fB_X9_nearestBefore_38 k a0 a1 r_5 x4 x4 I J))
def fL_X9_nearestBefore_5 (k : Nat) (a0 : Int32) (a1 : Int32) : Nat → Int32 → Int32 → HI → HJ → Option (Int32)
  | 0 => fun _ _ _ _ => none
  | f + 1 => fLB_X9_nearestBefore_5 k a0 a1 (fL_X9_nearestBefore_5 k a0 a1 f)
def f_X9_nearestBefore (k : Nat) (a0 : Int32) (a1 : Int32) (I : HI) (J : HJ) : Option (Int32) :=
fL_X9_nearestBefore_5 k a0 a1 FU (0 : Int32) (1 : Int32) I J
def fLB_X9_toldAhead_9 (k : Nat) (a0 : Int32) (a1 : Int32) (r_9 : Int32 → Int32 → HI → HJ → Option (Int32)) (x3 : Int32) (x4 : Int32) (I : HI) (J : HJ) : Option (Int32) :=
if a1 ≤ x4 then (
some (x3))
else (
bd1 (f_X9_nearestBefore k a0 x3 I J) fun r8 =>
bd1 (f_X9_at k (r8 + (1 : Int32)) I J) fun r10 =>
nm (x4 + (1 : Int32)) fun v12 =>
r_9 r10 v12 I J)
def fL_X9_toldAhead_9 (k : Nat) (a0 : Int32) (a1 : Int32) : Nat → Int32 → Int32 → HI → HJ → Option (Int32)
  | 0 => fun _ _ _ _ => none
  | f + 1 => fLB_X9_toldAhead_9 k a0 a1 (fL_X9_toldAhead_9 k a0 a1 f)
def f_X9_toldAhead (k : Nat) (a0 : Int32) (a1 : Int32) (I : HI) (J : HJ) : Option (Int32) :=
bd1 (f_X9_at k a0 I J) fun r13 =>
fL_X9_toldAhead_9 k a0 a1 FU r13 (0 : Int32) I J
def fB_X9_countHits_42 (k : Nat) (a0 : Int32) (a1 : Int32) (r_5 : Int32 → Int32 → HI → HJ → Option (Int32)) (x3 : Int32) (x4 : Int32) (I : HI) (J : HJ) : Option (Int32) :=
nm (x4 + (1 : Int32)) fun v7 =>
r_5 x3 v7 I J
def fLB_X9_countHits_5 (k : Nat) (a0 : Int32) (a1 : Int32) (r_5 : Int32 → Int32 → HI → HJ → Option (Int32)) (x3 : Int32) (x4 : Int32) (I : HI) (J : HJ) : Option (Int32) :=
if (I k 1) ≤ (x4 + a0) then (
some (x3))
else (
bd1 (f_X9_toldAhead k x4 a0 I J) fun r8 =>
bd1 (f_X9_at k (x4 + a0) I J) fun r10 =>
if a1 < (jabs (r8 - r10)) then (
fB_X9_countHits_42 k a0 a1 r_5 x3 x4 I J)
else (
nm (x3 + (1 : Int32)) fun v12 =>
fB_X9_countHits_42 k a0 a1 r_5 v12 x4 I J))
def fL_X9_countHits_5 (k : Nat) (a0 : Int32) (a1 : Int32) : Nat → Int32 → Int32 → HI → HJ → Option (Int32)
  | 0 => fun _ _ _ _ => none
  | f + 1 => fLB_X9_countHits_5 k a0 a1 (fL_X9_countHits_5 k a0 a1 f)
def f_X9_countHits (k : Nat) (a0 : Int32) (a1 : Int32) (I : HI) (J : HJ) : Option (Int32) :=
fL_X9_countHits_5 k a0 a1 FU (0 : Int32) (1 : Int32) I J
def f_X9_isApart (k : Nat) (a0 : Int32) (a1 : Int32) (a2 : Int32) (I : HI) (J : HJ) : Option (Int32) :=
bd1 (f_X9_at k a0 I J) fun r5 =>
bd1 (f_X9_at k a1 I J) fun r7 =>
if a2 < (jabs (r5 - r7)) then (
some ((0 : Int32)))
else (
some ((1 : Int32)))
def fB_X9_countTwos_61 (k : Nat) (a0 : Int32) (a1 : Int32) (r_5 : Int32 → Int32 → HI → HJ → Option (Int32)) (r_19 : Int32 → Int32 → Int32 → HI → HJ → Option (Int32)) (x3 : Int32) (x4 : Int32) (x5 : Int32) (I : HI) (J : HJ) : Option (Int32) :=
nm (x5 + (1 : Int32)) fun v8 =>
r_19 x3 x4 v8 I J
def fB_X9_countTwos_58 (k : Nat) (a0 : Int32) (a1 : Int32) (r_5 : Int32 → Int32 → HI → HJ → Option (Int32)) (r_19 : Int32 → Int32 → Int32 → HI → HJ → Option (Int32)) (x3 : Int32) (x4 : Int32) (x5 : Int32) (I : HI) (J : HJ) : Option (Int32) :=
nm (x3 + (1 : Int32)) fun v9 =>
fB_X9_countTwos_61 k a0 a1 r_5 r_19 v9 x4 x5 I J
def fLB_X9_countTwos_19 (k : Nat) (a0 : Int32) (a1 : Int32) (r_5 : Int32 → Int32 → HI → HJ → Option (Int32)) (r_19 : Int32 → Int32 → Int32 → HI → HJ → Option (Int32)) (x3 : Int32) (x4 : Int32) (x5 : Int32) (I : HI) (J : HJ) : Option (Int32) :=
if x4 ≤ x5 then (
nm (x4 + (1 : Int32)) fun v10 =>
r_5 x3 v10 I J)
else (
bd1 (f_X9_isApart k x5 x4 a0 I J) fun r11 =>
if r11 = 0 then (
fB_X9_countTwos_61 k a0 a1 r_5 r_19 x3 x4 x5 I J)
else (
if a1 = 0 then (
fB_X9_countTwos_58 k a0 a1 r_5 r_19 x3 x4 x5 I J)
else (
bd1 (f_X9_isApart k (x5 + (1 : Int32)) (x4 + (1 : Int32)) a0 I J) fun r13 =>
if r13 = 0 then (
fB_X9_countTwos_61 k a0 a1 r_5 r_19 x3 x4 x5 I J)
else (
fB_X9_countTwos_58 k a0 a1 r_5 r_19 x3 x4 x5 I J))))
def fL_X9_countTwos_19 (k : Nat) (a0 : Int32) (a1 : Int32) (r_5 : Int32 → Int32 → HI → HJ → Option (Int32)) : Nat → Int32 → Int32 → Int32 → HI → HJ → Option (Int32)
  | 0 => fun _ _ _ _ _ => none
  | f + 1 => fLB_X9_countTwos_19 k a0 a1 r_5 (fL_X9_countTwos_19 k a0 a1 r_5 f)
def fLB_X9_countTwos_5 (k : Nat) (a0 : Int32) (a1 : Int32) (r_5 : Int32 → Int32 → HI → HJ → Option (Int32)) (x3 : Int32) (x4 : Int32) (I : HI) (J : HJ) : Option (Int32) :=
if (I k 1) ≤ (x4 + (1 : Int32)) then (
some (x3))
else (
fL_X9_countTwos_19 k a0 a1 r_5 FU x3 x4 (0 : Int32) I J)
def fL_X9_countTwos_5 (k : Nat) (a0 : Int32) (a1 : Int32) : Nat → Int32 → Int32 → HI → HJ → Option (Int32)
  | 0 => fun _ _ _ _ => none
  | f + 1 => fLB_X9_countTwos_5 k a0 a1 (fL_X9_countTwos_5 k a0 a1 f)
def f_X9_countTwos (k : Nat) (a0 : Int32) (a1 : Int32) (I : HI) (J : HJ) : Option (Int32) :=
fL_X9_countTwos_5 k a0 a1 FU (0 : Int32) (1 : Int32) I J
def fLB_X9_least_8 (k : Nat) (r_8 : Int32 → Int32 → HI → HJ → Option (Int32)) (x1 : Int32) (x2 : Int32) (I : HI) (J : HJ) : Option (Int32) :=
if (I k 1) ≤ x2 then (
some (x1))
else (
bd1 (f_X9_at k x2 I J) fun r7 =>
nm (jmin x1 r7) fun v9 =>
nm (x2 + (1 : Int32)) fun v10 =>
r_8 v9 v10 I J)
def fL_X9_least_8 (k : Nat) : Nat → Int32 → Int32 → HI → HJ → Option (Int32)
  | 0 => fun _ _ _ _ => none
  | f + 1 => fLB_X9_least_8 k (fL_X9_least_8 k f)
def f_X9_least (k : Nat) (I : HI) (J : HJ) : Option (Int32) :=
bd1 (f_X9_at k (0 : Int32) I J) fun r11 =>
fL_X9_least_8 k FU r11 (1 : Int32) I J
def fLB_X9_greatest_8 (k : Nat) (r_8 : Int32 → Int32 → HI → HJ → Option (Int32)) (x1 : Int32) (x2 : Int32) (I : HI) (J : HJ) : Option (Int32) :=
if (I k 1) ≤ x2 then (
some (x1))
else (
bd1 (f_X9_at k x2 I J) fun r7 =>
nm (jmax x1 r7) fun v9 =>
nm (x2 + (1 : Int32)) fun v10 =>
r_8 v9 v10 I J)
def fL_X9_greatest_8 (k : Nat) : Nat → Int32 → Int32 → HI → HJ → Option (Int32)
  | 0 => fun _ _ _ _ => none
  | f + 1 => fLB_X9_greatest_8 k (fL_X9_greatest_8 k f)
def f_X9_greatest (k : Nat) (I : HI) (J : HJ) : Option (Int32) :=
bd1 (f_X9_at k (0 : Int32) I J) fun r11 =>
fL_X9_greatest_8 k FU r11 (1 : Int32) I J
def fLB_X9_sum_4 (k : Nat) (r_4 : Int32 → Int32 → HI → HJ → Option (Int32)) (x1 : Int32) (x2 : Int32) (I : HI) (J : HJ) : Option (Int32) :=
if (I k 1) ≤ x2 then (
some (x1))
else (
bd1 (f_X9_at k x2 I J) fun r5 =>
nm (x1 + r5) fun v7 =>
nm (x2 + (1 : Int32)) fun v8 =>
r_4 v7 v8 I J)
def fL_X9_sum_4 (k : Nat) : Nat → Int32 → Int32 → HI → HJ → Option (Int32)
  | 0 => fun _ _ _ _ => none
  | f + 1 => fLB_X9_sum_4 k (fL_X9_sum_4 k f)
def f_X9_sum (k : Nat) (I : HI) (J : HJ) : Option (Int32) :=
fL_X9_sum_4 k FU (0 : Int32) (0 : Int32) I J
def fB_X9_firstUnlike_18 (k : Nat) (a0 : Nat) (r_2 : Int32 → HI → HJ → Option (Int32)) (x2 : Int32) (I : HI) (J : HJ) : Option (Int32) :=
bd1 (f_X9_has k x2 I J) fun r10 =>
if r10 = 0 then (
some (x2))
else (
bd1 (f_X9_has a0 x2 I J) fun r12 =>
if r12 = 0 then (
some (x2))
else (
bd1 (f_X9_at k x2 I J) fun r14 =>
bd1 (f_X9_at a0 x2 I J) fun r16 =>
if r14 = r16 then (
nm (x2 + (1 : Int32)) fun v18 =>
r_2 v18 I J)
else (
some (x2))))
def fLB_X9_firstUnlike_2 (k : Nat) (a0 : Nat) (r_2 : Int32 → HI → HJ → Option (Int32)) (x2 : Int32) (I : HI) (J : HJ) : Option (Int32) :=
if x2 < (I k 1) then (
fB_X9_firstUnlike_18 k a0 r_2 x2 I J)
else (
if (I a0 1) ≤ x2 then (
some ((-1 : Int32)))
else (
fB_X9_firstUnlike_18 k a0 r_2 x2 I J))
def fL_X9_firstUnlike_2 (k : Nat) (a0 : Nat) : Nat → Int32 → HI → HJ → Option (Int32)
  | 0 => fun _ _ _ => none
  | f + 1 => fLB_X9_firstUnlike_2 k a0 (fL_X9_firstUnlike_2 k a0 f)
def f_X9_firstUnlike (k : Nat) (a0 : Nat) (I : HI) (J : HJ) : Option (Int32) :=
fL_X9_firstUnlike_2 k a0 FU (0 : Int32) I J
def fB_X9_countAlike_36 (k : Nat) (a0 : Nat) (r_4 : Int32 → Int32 → HI → HJ → Option (Int32)) (x2 : Int32) (x3 : Int32) (I : HI) (J : HJ) : Option (Int32) :=
nm (x3 + (1 : Int32)) fun v7 =>
r_4 x2 v7 I J
def fLB_X9_countAlike_4 (k : Nat) (a0 : Nat) (r_4 : Int32 → Int32 → HI → HJ → Option (Int32)) (x2 : Int32) (x3 : Int32) (I : HI) (J : HJ) : Option (Int32) :=
if (I k 1) ≤ x3 then (
some (x2))
else (
if (I a0 1) ≤ x3 then (
some (x2))
else (
bd1 (f_X9_at k x3 I J) fun r8 =>
bd1 (f_X9_at a0 x3 I J) fun r10 =>
if r8 = r10 then (
nm (x2 + (1 : Int32)) fun v12 =>
fB_X9_countAlike_36 k a0 r_4 v12 x3 I J)
else (
fB_X9_countAlike_36 k a0 r_4 x2 x3 I J)))
def fL_X9_countAlike_4 (k : Nat) (a0 : Nat) : Nat → Int32 → Int32 → HI → HJ → Option (Int32)
  | 0 => fun _ _ _ _ => none
  | f + 1 => fLB_X9_countAlike_4 k a0 (fL_X9_countAlike_4 k a0 f)
def f_X9_countAlike (k : Nat) (a0 : Nat) (I : HI) (J : HJ) : Option (Int32) :=
fL_X9_countAlike_4 k a0 FU (0 : Int32) (0 : Int32) I J
def f_X10_begin (a0 : Int32) (a1 : Int32) (a2 : Int32) (I : HI) (J : HJ) : Option (Int32 × HI × HJ) :=
bd1 (f_X10_isWithin a0 (0 : Int32) (9999 : Int32)) fun r10 =>
if r10 = 0 then (
some ((-1 : Int32), I, J))
else (
bd1 (f_X10_isWithin a1 (-999 : Int32) (999 : Int32)) fun r12 =>
if r12 = 0 then (
some ((-1 : Int32), I, J))
else (
bd1 (f_X10_isWithin a2 (-999 : Int32) (999 : Int32)) fun r14 =>
if r14 = 0 then (
some ((-1 : Int32), I, J))
else (
bd2 (f_X7_beginAnew 1 a0 a1 a2 I J) fun I16 J17 =>
some ((1 : Int32), I16, J17))))
def fB_X10_set_42 (a0 : Int32) (a1 : Int32) (s0 : Int32) (I : HI) (J : HJ) : Option (Int32 × HI) :=
if a0 = 0 then (
nm (put I 1 7 a1) fun I8 =>
some (s0, I8))
else (
nm (put I 1 8 a1) fun I7 =>
some (s0, I7))
def f_X10_set (a0 : Int32) (a1 : Int32) (I : HI) (J : HJ) : Option (Int32 × HI) :=
bd1 (f_X10_isWithin a0 (0 : Int32) (1 : Int32)) fun r9 =>
if r9 = 0 then (
some ((-1 : Int32), I))
else (
bd1 (f_X10_isWithin a1 (0 : Int32) (99 : Int32)) fun r11 =>
if r11 = 0 then (
some ((-1 : Int32), I))
else (
if a0 = 0 then (
fB_X10_set_42 a0 a1 (I 1 7) I J)
else (
fB_X10_set_42 a0 a1 (I 1 8) I J)))
def f_X10_seed (a0 : Int32) (I : HI) (J : HJ) : Option (Int32 × HI) :=
nm (I 1 9) fun v3 =>
nm (put I 1 9 a0) fun I4 =>
some (v3, I4)
def fLB_X10_run_23 (a0 : Int32) (r_23 : Int32 → Int32 → HI → HJ → Option (Int32 × HI × HJ)) (x2 : Int32) (x3 : Int32) (I : HI) (J : HJ) : Option (Int32 × HI × HJ) :=
if a0 ≤ x3 then (
some ((I 1 6) - x2, I, J))
else (
bd3 (f_X7_goOneTick 1 4 I J) fun r9 I10 J11 =>
nm (x3 + (1 : Int32)) fun v13 =>
r_23 x2 v13 I10 J11)
def fL_X10_run_23 (a0 : Int32) : Nat → Int32 → Int32 → HI → HJ → Option (Int32 × HI × HJ)
  | 0 => fun _ _ _ _ => none
  | f + 1 => fLB_X10_run_23 a0 (fL_X10_run_23 a0 f)
def f_X10_run (a0 : Int32) (I : HI) (J : HJ) : Option (Int32 × HI × HJ) :=
bd1 (f_X10_isWithin a0 (0 : Int32) (400 : Int32)) fun r14 =>
if r14 = 0 then (
some ((-1 : Int32), I, J))
else (
nm (I 1 6) fun v16 =>
fL_X10_run_23 a0 FU v16 (0 : Int32) I J)
def f_X10_tap (a0 : Int32) (I : HI) (J : HJ) : Option (Int32) :=
if a0 = (0 : Int32) then (
some (I 1 1))
else (
if a0 = (1 : Int32) then (
some ((I 1 2) + (10000 : Int32)))
else (
if a0 = (2 : Int32) then (
some ((I 1 3) + (10000 : Int32)))
else (
if a0 = (3 : Int32) then (
some (I 1 4))
else (
if a0 = (4 : Int32) then (
some (I 1 5))
else (
if a0 = (5 : Int32) then (
some (I 1 6))
else (
if a0 = (6 : Int32) then (
some (I 1 7))
else (
if a0 = (7 : Int32) then (
some (I 1 8))
else (
some ((-1 : Int32))))))))))
def f_X10_water (I : HI) (J : HJ) : Option (Int64) :=
some ((((J 1 10) - (J 1 11)) - ((I 1 1).toInt64)) + ((I 1 12).toInt64))
def f_X10_feed (a0 : Int64) (a1 : Int32) (I : HI) (J : HJ) : Option (Int32 × HI) :=
bd1 (f_X10_isWithin a1 (1 : Int32) (8 : Int32)) fun r8 =>
if r8 = 0 then (
some ((-1 : Int32), I))
else (
bd2 (f_X8_takeBytes a0 a1 I J) fun r10 I11 =>
if r10 = 0 then (
some ((-2 : Int32), I11))
else (
bd1 (f_X8_size I11 J) fun r13 =>
some (r13, I11)))
def f_X10_read (I : HI) (J : HJ) : Option (Int32 × HI) :=
bd2 (f_X8_tellsLaws I J) fun r12 I13 =>
bd1 (f_X8_faultPlace I13 J) fun r15 =>
bd1 (f_X8_useUp I13 J) fun I17 =>
if r12 = 0 then (
some ((-100 : Int32) - r15, I17))
else (
bd1 (f_X2_becomeLike 4 60 I17 J) fun I19 =>
bd1 (f_X2_howManyTold 4 I19 J) fun r21 =>
some (r21, I19))
def f_X10_says (a0 : Int32) (I : HI) (J : HJ) : Option (Int32 × HI) :=
bd2 (f_X2_worth 4 a0 1 I J) fun r4 I5 =>
some (r4, I5)
def f_X10_tell (a0 : Int32) (I : HI) (J : HJ) : Option (Int32 × HI) :=
bd1 (f_X10_isWithin a0 (1 : Int32) (9999 : Int32)) fun r8 =>
if r8 = 0 then (
some ((-1 : Int32), I))
else (
bd2 (f_X9_add 2 a0 I J) fun r10 I11 =>
if r10 = 0 then (
some ((-2 : Int32), I11))
else (
bd1 (f_X9_size 2 I11 J) fun r13 =>
some (r13, I11)))
def f_X10_clear (I : HI) (J : HJ) : Option (Int32 × HI) :=
bd1 (f_X9_size 2 I J) fun r5 =>
bd1 (f_X9_becomeEmpty 2 I J) fun I7 =>
some (r5, I7)
def f_X10_time (a0 : Int32) (I : HI) (J : HJ) : Option (Int32) :=
bd1 (f_X9_has 2 a0 I J) fun r5 =>
if r5 = 0 then (
some ((-3 : Int32)))
else (
bd1 (f_X9_at 2 a0 I J) fun r7 =>
some (r7))
def f_X10_period (I : HI) (J : HJ) : Option (Int32) :=
bd1 (f_X9_findPeriod 2 I J) fun r3 =>
some (r3)
def f_X10_kind (I : HI) (J : HJ) : Option (Int32) :=
bd1 (f_X9_findKind 2 I J) fun r3 =>
some (r3)
def f_X10_order (I : HI) (J : HJ) : Option (Int32) :=
bd1 (f_X9_findOrder 2 I J) fun r3 =>
some (r3)
def f_X10_hits (a0 : Int32) (a1 : Int32) (I : HI) (J : HJ) : Option (Int32) :=
bd1 (f_X10_isWithin a0 (1 : Int32) (9 : Int32)) fun r7 =>
if r7 = 0 then (
some ((-1 : Int32)))
else (
bd1 (f_X10_isWithin a1 (0 : Int32) (9999 : Int32)) fun r9 =>
if r9 = 0 then (
some ((-1 : Int32)))
else (
bd1 (f_X9_countHits 2 a0 a1 I J) fun r11 =>
some (r11)))
def f_X10_ahead (a0 : Int32) (I : HI) (J : HJ) : Option (Int32) :=
bd1 (f_X10_isWithin a0 (1 : Int32) (9 : Int32)) fun r7 =>
if r7 = 0 then (
some ((-1 : Int32)))
else (
bd1 (f_X9_size 2 I J) fun r9 =>
if (2 : Int32) ≤ r9 then (
bd1 (f_X9_toldAhead 2 (r9 - (1 : Int32)) a0 I J) fun r11 =>
some (r11))
else (
some ((-3 : Int32))))
def fLB_X10_commonMeasure_7 (a0 : Int32) (a1 : Int32) (r_7 : Int32 → Int32 → Int32 → Option (Int32)) (x2 : Int32) (x3 : Int32) (x4 : Int32) : Option (Int32) :=
if (50 : Int32) ≤ x4 then (
some (x2))
else (
if x3 = 0 then (
some (x2))
else (
if x3 = 0 then none else
nm (jrem x2 x3) fun v3 =>
nm (x4 + (1 : Int32)) fun v4 =>
r_7 x3 v3 v4))
def fL_X10_commonMeasure_7 (a0 : Int32) (a1 : Int32) : Nat → Int32 → Int32 → Int32 → Option (Int32)
  | 0 => fun _ _ _ => none
  | f + 1 => fLB_X10_commonMeasure_7 a0 a1 (fL_X10_commonMeasure_7 a0 a1 f)
def f_X10_commonMeasure (a0 : Int32) (a1 : Int32) : Option (Int32) :=
fL_X10_commonMeasure_7 a0 a1 FU a0 a1 (0 : Int32)
def fB_X10_rule_82 (a0 : Int32) (a1 : Int32) (x5 : Int32) (s0 : Int32) (I : HI) (J : HJ) : Option (Int32) :=
if x5 = 0 then none else
some (s0 / x5)
def f_X10_rule (a0 : Int32) (a1 : Int32) (I : HI) (J : HJ) : Option (Int32) :=
bd1 (f_X10_isWithin a0 (0 : Int32) (9999 : Int32)) fun r11 =>
if r11 = 0 then (
some ((-1 : Int32)))
else (
bd1 (f_X10_isWithin a1 (0 : Int32) (1 : Int32)) fun r13 =>
if r13 = 0 then (
some ((-1 : Int32)))
else (
bd1 (f_X9_countTwos 2 a0 (0 : Int32) I J) fun r15 =>
if r15 = 0 then (
some ((-3 : Int32)))
else (
bd1 (f_X9_countTwos 2 a0 (1 : Int32) I J) fun r17 =>
bd1 (f_X10_commonMeasure r17 r15) fun r19 =>
if r19 = 0 then (
some ((-3 : Int32)))
else (
if a1 = 0 then (
fB_X10_rule_82 a0 a1 r19 r17 I J)
else (
fB_X10_rule_82 a0 a1 r19 r15 I J)))))
def f_X10_drift (a0 : Int32) (I : HI) (J : HJ) : Option (Int32) :=
bd1 (f_X9_size 2 I J) fun r12 =>
if r12 < (2 : Int32) then (
some ((-3 : Int32)))
else (
bd1 (f_X9_has 2 a0 I J) fun r14 =>
if r14 = 0 then (
some ((-3 : Int32)))
else (
bd1 (f_X9_at 2 (0 : Int32) I J) fun r16 =>
bd1 (f_X9_at 2 (r12 - (1 : Int32)) I J) fun r18 =>
nm (r18 - r16) fun v20 =>
bd1 (f_X9_at 2 a0 I J) fun r21 =>
if (r12 - (1 : Int32)) = 0 then none else
some (((r21 - r16) - ((v20 * a0) / (r12 - (1 : Int32)))) + (20000 : Int32))))
def f_X10_span (a0 : Int32) (I : HI) (J : HJ) : Option (Int32) :=
bd1 (f_X10_isWithin a0 (0 : Int32) (2 : Int32)) fun r13 =>
if r13 = 0 then (
some ((-1 : Int32)))
else (
bd1 (f_X9_size 2 I J) fun r15 =>
if r15 = 0 then (
some ((-3 : Int32)))
else (
if a0 = (0 : Int32) then (
bd1 (f_X9_least 2 I J) fun r18 =>
some (r18))
else (
if a0 = (1 : Int32) then (
bd1 (f_X9_greatest 2 I J) fun r21 =>
some (r21))
else (
bd1 (f_X9_sum 2 I J) fun r23 =>
some (r23)))))
def f_X10_periodWith (a0 : Int32) (I : HI) (J : HJ) : Option (Int32 × HI × HJ) :=
bd2 (f_X7_goOnFrom 53 1 I J) fun I10 J11 =>
nm (put I10 53 7 a0) fun I13 =>
bd2 (f_X7_fillRow 53 (400 : Int32) 4 I13 J11) fun I14 J15 =>
bd1 (f_X9_findPeriod 54 I14 J15) fun r17 =>
some (r17, I14, J15)
def f_X10_grid (a0 : Int32) (I : HI) (J : HJ) : Option (Int32 × HI × HJ) :=
bd1 (f_X10_isWithin a0 (0 : Int32) (99 : Int32)) fun r7 =>
if r7 = 0 then (
some ((-1 : Int32), I, J))
else (
bd3 (f_X10_periodWith a0 I J) fun r9 I10 J11 =>
some (r9, I10, J11))
def f_X10_isSpanOfKnobs (a0 : Int32) (a1 : Int32) : Option (Int32) :=
bd1 (f_X10_isWithin a0 (0 : Int32) (99 : Int32)) fun r5 =>
if r5 = 0 then (
some ((0 : Int32)))
else (
bd1 (f_X10_isWithin a1 a0 (99 : Int32)) fun r7 =>
if r7 = 0 then (
some ((0 : Int32)))
else (
if (20 : Int32) < (a1 - a0) then (
some ((0 : Int32)))
else (
some ((1 : Int32)))))
def fB_X10_doubling_50 (a0 : Int32) (a1 : Int32) (r_21 : Int32 → Int32 → HI → HJ → Option (Int32 × HI × HJ)) (x4 : Int32) (x5 : Int32) (I : HI) (J : HJ) : Option (Int32 × HI × HJ) :=
nm (x4 + (1 : Int32)) fun v13 =>
r_21 x5 v13 I J
def fLB_X10_doubling_21 (a0 : Int32) (a1 : Int32) (r_21 : Int32 → Int32 → HI → HJ → Option (Int32 × HI × HJ)) (x3 : Int32) (x4 : Int32) (I : HI) (J : HJ) : Option (Int32 × HI × HJ) :=
if a1 < x4 then (
some ((-3 : Int32), I, J))
else (
bd3 (f_X10_periodWith x4 I J) fun r14 I15 J16 =>
if x3 ≤ 0 then (
fB_X10_doubling_50 a0 a1 r_21 x4 r14 I15 J16)
else (
if r14 = ((2 : Int32) * x3) then (
some (x4, I15, J16))
else (
fB_X10_doubling_50 a0 a1 r_21 x4 r14 I15 J16)))
def fL_X10_doubling_21 (a0 : Int32) (a1 : Int32) : Nat → Int32 → Int32 → HI → HJ → Option (Int32 × HI × HJ)
  | 0 => fun _ _ _ _ => none
  | f + 1 => fLB_X10_doubling_21 a0 a1 (fL_X10_doubling_21 a0 a1 f)
def f_X10_doubling (a0 : Int32) (a1 : Int32) (I : HI) (J : HJ) : Option (Int32 × HI × HJ) :=
bd1 (f_X10_isSpanOfKnobs a0 a1) fun r18 =>
if r18 = 0 then (
some ((-1 : Int32), I, J))
else (
bd3 (f_X10_periodWith a0 I J) fun r20 I21 J22 =>
nm (a0 + (1 : Int32)) fun v24 =>
fL_X10_doubling_21 a0 a1 FU r20 v24 I21 J22)
def fB_X10_windows_34 (a0 : Int32) (a1 : Int32) (r_15 : Int32 → Int32 → HI → HJ → Option (Int32 × HI × HJ)) (x3 : Int32) (x4 : Int32) (I : HI) (J : HJ) : Option (Int32 × HI × HJ) :=
nm (x4 + (1 : Int32)) fun v9 =>
r_15 x3 v9 I J
def fLB_X10_windows_15 (a0 : Int32) (a1 : Int32) (r_15 : Int32 → Int32 → HI → HJ → Option (Int32 × HI × HJ)) (x3 : Int32) (x4 : Int32) (I : HI) (J : HJ) : Option (Int32 × HI × HJ) :=
if a1 < x4 then (
some (x3, I, J))
else (
bd3 (f_X10_periodWith x4 I J) fun r10 I11 J12 =>
if r10 = (3 : Int32) then (
nm (x3 + (1 : Int32)) fun v14 =>
fB_X10_windows_34 a0 a1 r_15 v14 x4 I11 J12)
else (
fB_X10_windows_34 a0 a1 r_15 x3 x4 I11 J12))
def fL_X10_windows_15 (a0 : Int32) (a1 : Int32) : Nat → Int32 → Int32 → HI → HJ → Option (Int32 × HI × HJ)
  | 0 => fun _ _ _ _ => none
  | f + 1 => fLB_X10_windows_15 a0 a1 (fL_X10_windows_15 a0 a1 f)
def f_X10_windows (a0 : Int32) (a1 : Int32) (I : HI) (J : HJ) : Option (Int32 × HI × HJ) :=
bd1 (f_X10_isSpanOfKnobs a0 a1) fun r15 =>
if r15 = 0 then (
some ((-1 : Int32), I, J))
else (
fL_X10_windows_15 a0 a1 FU (0 : Int32) a0 I J)
def f_X10_isEvenWith (a0 : Int32) (a1 : Int32) (I : HI) (J : HJ) : Option (Int32 × HI × HJ) :=
bd2 (f_X7_goOnFrom 53 1 I J) fun I10 J11 =>
nm (put I10 53 3 ((I10 53 3) + a0)) fun I13 =>
bd2 (f_X7_fillRow 53 a1 4 I13 J11) fun I14 J15 =>
bd1 (f_X9_findKind 54 I14 J15) fun r17 =>
if r17 = (1 : Int32) then (
some ((1 : Int32), I14, J15))
else (
some ((0 : Int32), I14, J15))
def fLB_X10_touch_15 (a0 : Int32) (r_15 : Int32 → HI → HJ → Option (Int32 × HI × HJ)) (x2 : Int32) (I : HI) (J : HJ) : Option (Int32 × HI × HJ) :=
if (30 : Int32) < x2 then (
some ((-3 : Int32), I, J))
else (
bd3 (f_X10_isEvenWith x2 a0 I J) fun r12 I13 J14 =>
if r12 = 0 then (
bd3 (f_X10_isEvenWith (-x2) a0 I13 J14) fun r16 I17 J18 =>
if r16 = 0 then (
nm (x2 + (1 : Int32)) fun v20 =>
r_15 v20 I17 J18)
else (
some ((100 : Int32) - x2, I17, J18)))
else (
some ((100 : Int32) + x2, I13, J14)))
def fL_X10_touch_15 (a0 : Int32) : Nat → Int32 → HI → HJ → Option (Int32 × HI × HJ)
  | 0 => fun _ _ _ => none
  | f + 1 => fLB_X10_touch_15 a0 (fL_X10_touch_15 a0 f)
def f_X10_touch (a0 : Int32) (I : HI) (J : HJ) : Option (Int32 × HI × HJ) :=
bd1 (f_X10_isWithin a0 (1 : Int32) (400 : Int32)) fun r21 =>
if r21 = 0 then (
some ((-1 : Int32), I, J))
else (
fL_X10_touch_15 a0 FU (0 : Int32) I J)
def f_X10_lost (a0 : Int32) (I : HI) (J : HJ) : Option (Int32 × HI × HJ) :=
bd1 (f_X10_isWithin a0 (0 : Int32) (999 : Int32)) fun r19 =>
if r19 = 0 then (
some ((-1 : Int32), I, J))
else (
bd2 (f_X7_goOnFrom 53 1 I J) fun I21 J22 =>
bd2 (f_X7_fillRow 53 (400 : Int32) 4 I21 J22) fun I24 J25 =>
bd2 (f_X7_goOnFrom 56 1 I24 J25) fun I27 J28 =>
bd1 (f_X7_addWeight 56 a0 I27 J28) fun I30 =>
bd2 (f_X7_fillRow 56 (400 : Int32) 4 I30 J28) fun I32 J33 =>
bd1 (f_X9_firstUnlike 54 57 I32 J33) fun r35 =>
if 0 ≤ r35 then (
some (r35, I32, J33))
else (
some ((-3 : Int32), I32, J33)))
def fB_X10_prove_91 (a0 : Int32) (I : HI) (J : HJ) : Option (Int32 × HI × HJ) :=
bd1 (f_X3_size I J) fun r19 =>
some (r19, I, J)
def fB_X10_prove_85 (a0 : Int32) (r_32 : Int32 → HI → HJ → Option (Int32 × HI × HJ)) (x2 : Int32) (I : HI) (J : HJ) : Option (Int32 × HI × HJ) :=
nm (x2 + (1 : Int32)) fun v21 =>
r_32 v21 I J
def fLB_X10_prove_32 (a0 : Int32) (r_32 : Int32 → HI → HJ → Option (Int32 × HI × HJ)) (x2 : Int32) (I : HI) (J : HJ) : Option (Int32 × HI × HJ) :=
if (400 : Int32) ≤ x2 then (
fB_X10_prove_91 a0 I J)
else (
bd1 (f_X3_size I J) fun r22 =>
if a0 ≤ r22 then (
fB_X10_prove_91 a0 I J)
else (
bd3 (f_X7_goOneTick 53 4 I J) fun r24 I25 J26 =>
if r24 = 0 then (
fB_X10_prove_85 a0 r_32 x2 I25 J26)
else (
bd1 (f_X3_add (I25 53 13) (I25 53 14) I25 J26) fun I28 =>
fB_X10_prove_85 a0 r_32 x2 I28 J26)))
def fL_X10_prove_32 (a0 : Int32) : Nat → Int32 → HI → HJ → Option (Int32 × HI × HJ)
  | 0 => fun _ _ _ => none
  | f + 1 => fLB_X10_prove_32 a0 (fL_X10_prove_32 a0 f)
def f_X10_prove (a0 : Int32) (I : HI) (J : HJ) : Option (Int32 × HI × HJ) :=
bd1 (f_X10_isWithin a0 (1 : Int32) (12 : Int32)) fun r30 =>
if r30 = 0 then (
some ((-1 : Int32), I, J))
else (
bd1 (f_X3_becomeEmpty I J) fun I32 =>
bd2 (f_X7_goOnFrom 53 1 I32 J) fun I34 J35 =>
fL_X10_prove_32 a0 FU (0 : Int32) I34 J35)
def f_X10_row (a0 : Int32) (a1 : Int32) (I : HI) (J : HJ) : Option (Int32) :=
bd1 (f_X3_has a0 a1 I J) fun r5 =>
if r5 = 0 then (
some ((-9 : Int32)))
else (
bd1 (f_X3_at a0 a1 I J) fun r7 =>
some (r7))
def f_X10_alterRow (a0 : Int32) (a1 : Int32) (a2 : Int32) (I : HI) (J : HJ) : Option (Int32 × HI) :=
bd1 (f_X3_has a0 a1 I J) fun r7 =>
if r7 = 0 then (
some ((-9 : Int32), I))
else (
bd1 (f_X3_at a0 a1 I J) fun r9 =>
bd1 (f_X3_alter a0 a1 a2 I J) fun I11 =>
some (r9, I11))
def fB_X10_judge_85 (x1 : Int32) (I : HI) (J : HJ) : Option (Int32 × HI × HJ) :=
bd1 (f_X3_size I J) fun r16 =>
if r16 ≤ x1 then (
some ((0 : Int32), I, J))
else (
some (x1 + (1 : Int32), I, J))
def fB_X10_judge_79 (r_15 : Int32 → Int32 → HI → HJ → Option (Int32 × HI × HJ)) (x1 : Int32) (x2 : Int32) (I : HI) (J : HJ) : Option (Int32 × HI × HJ) :=
nm (x2 + (1 : Int32)) fun v18 =>
r_15 x1 v18 I J
def fLB_X10_judge_15 (r_15 : Int32 → Int32 → HI → HJ → Option (Int32 × HI × HJ)) (x1 : Int32) (x2 : Int32) (I : HI) (J : HJ) : Option (Int32 × HI × HJ) :=
if (400 : Int32) ≤ x2 then (
fB_X10_judge_85 x1 I J)
else (
bd1 (f_X3_size I J) fun r19 =>
if r19 ≤ x1 then (
fB_X10_judge_85 x1 I J)
else (
bd3 (f_X7_goOneTick 53 4 I J) fun r21 I22 J23 =>
if r21 = 0 then (
fB_X10_judge_79 r_15 x1 x2 I22 J23)
else (
bd1 (f_X3_tells x1 (I22 53 13) (I22 53 14) I22 J23) fun r25 =>
if r25 = 0 then (
some (x1 + (1 : Int32), I22, J23))
else (
nm (x1 + (1 : Int32)) fun v27 =>
fB_X10_judge_79 r_15 v27 x2 I22 J23))))
def fL_X10_judge_15 : Nat → Int32 → Int32 → HI → HJ → Option (Int32 × HI × HJ)
  | 0 => fun _ _ _ _ => none
  | f + 1 => fLB_X10_judge_15 (fL_X10_judge_15 f)
def f_X10_judge (I : HI) (J : HJ) : Option (Int32 × HI × HJ) :=
bd2 (f_X7_goOnFrom 53 1 I J) fun I28 J29 =>
fL_X10_judge_15 FU (0 : Int32) (0 : Int32) I28 J29
def f_X10_record (I : HI) (J : HJ) : Option (Int32 × HI) :=
bd2 (f_X4_add 13 2 I J) fun r6 I7 =>
if r6 = 0 then (
some ((-2 : Int32), I7))
else (
bd1 (f_X4_size 13 I7 J) fun r9 =>
some (r9 - (1 : Int32), I7))
def f_X10_recorded (a0 : Int32) (a1 : Int32) (I : HI) (J : HJ) : Option (Int32) :=
bd1 (f_X4_at 13 a0 I J) fun r18 =>
oel r18 (
some ((-1 : Int32))) (fun q20 => if oK q20 = 8 then (
if a1 = (0 : Int32) then (
bd1 (f_X9_findKind q20 I J) fun r23 =>
some (r23))
else (
if a1 = (1 : Int32) then (
bd1 (f_X9_size q20 I J) fun r26 =>
some (r26))
else (
if a1 = (2 : Int32) then (
bd1 (f_X9_findPeriod q20 I J) fun r29 =>
some (r29))
else (
if a1 < (3 : Int32) then (
some ((-1 : Int32)))
else (
bd1 (f_X9_has q20 (a1 - (3 : Int32)) I J) fun r31 =>
if r31 = 0 then (
some ((-1 : Int32)))
else (
bd1 (f_X9_at q20 (a1 - (3 : Int32)) I J) fun r33 =>
some (r33))))))) else none)
def fB_X10_alike_28 (a0 : Int32) (a1 : Int32) (I : HI) (J : HJ) : Option (Int32) :=
some ((-1 : Int32))
def f_X10_alike (a0 : Int32) (a1 : Int32) (I : HI) (J : HJ) : Option (Int32) :=
bd1 (f_X4_at 13 a0 I J) fun r15 =>
oel r15 (
bd1 (f_X4_at 13 a1 I J) fun r18 =>
oel r18 (
fB_X10_alike_28 a0 a1 I J) (fun q20 => if oK q20 = 8 then (
fB_X10_alike_28 a0 a1 I J) else none)) (fun q17 => if oK q17 = 8 then (
bd1 (f_X4_at 13 a1 I J) fun r23 =>
oel r23 (
fB_X10_alike_28 a0 a1 I J) (fun q25 => if oK q25 = 8 then (
bd1 (f_X9_countAlike q17 q25 I J) fun r27 =>
some (r27)) else none)) else none)
def f_X10_sheet (a0 : Int32) (a1 : Int32) (a2 : Int32) (I : HI) (J : HJ) : Option (Int32 × HI) :=
bd1 (f_X5_isSheet a0) fun r9 =>
if r9 = 0 then (
some ((-1 : Int32), I))
else (
bd1 (f_X10_isWithin a1 (-1 : Int32) (4 : Int32)) fun r11 =>
if r11 = 0 then (
some ((-1 : Int32), I))
else (
if a1 = (-1 : Int32) then (
bd1 (f_X5_becomeMissing a0 I J) fun I15 =>
some ((1 : Int32), I15))
else (
if a2 ≤ (40 : Int32) then (
if 0 ≤ a2 then (
bd1 (f_X5_becomeRow a0 a1 a2 I J) fun I13 =>
some ((1 : Int32), I13))
else (
some ((-14 : Int32), I)))
else (
some ((-1 : Int32), I)))))
def f_X10_put (a0 : Int32) (a1 : Int32) (a2 : Int32) (I : HI) (J : HJ) : Option (Int32 × HI) :=
bd1 (f_X5_isSheet a0) fun r9 =>
if r9 = 0 then (
some ((-1 : Int32), I))
else (
bd1 (f_X5_sortOf a0 I J) fun r11 =>
if r11 = (-1 : Int32) then (
some ((-11 : Int32), I))
else (
bd1 (f_X5_has a0 a1 I J) fun r13 =>
if r13 = 0 then (
some ((-12 : Int32), I))
else (
bd1 (f_X5_putNarrowed a0 a1 a2 I J) fun I15 =>
some ((1 : Int32), I15))))
def f_X10_refusalOfSort (a0 : Int32) (a1 : Int32) (I : HI) (J : HJ) : Option (Int32) :=
bd1 (f_X5_sortOf a0 I J) fun r3 =>
if r3 = (-1 : Int32) then (
some ((-11 : Int32)))
else (
if r3 = a1 then (
some ((0 : Int32)))
else (
some ((-13 : Int32))))
def f_X10_item (a0 : Int32) (a1 : Int32) (a2 : Int32) (I : HI) (J : HJ) : Option (Int32) :=
bd1 (f_X5_isSheet a0) fun r11 =>
if r11 = 0 then (
some ((-1 : Int32)))
else (
bd1 (f_X10_isWithin a1 (0 : Int32) (4 : Int32)) fun r13 =>
if r13 = 0 then (
some ((-1 : Int32)))
else (
bd1 (f_X10_refusalOfSort a0 a1 I J) fun r15 =>
if r15 = 0 then (
bd1 (f_X5_has a0 a2 I J) fun r17 =>
if r17 = 0 then (
some ((-12 : Int32)))
else (
bd1 (f_X5_at a0 a2 I J) fun r19 =>
some (r19)))
else (
some (r15))))
def fB_X10_times_91 (a0 : Int32) (a1 : Int32) (a2 : Int32) (r_45 : Int32 → Int32 → HI → HJ → Option (Int32 × HI)) (x5 : Int32) (x6 : Int32) (I : HI) (J : HJ) : Option (Int32 × HI) :=
nm (x6 + (1 : Int32)) fun v16 =>
r_45 x5 v16 I J
def fLB_X10_times_45 (a0 : Int32) (a1 : Int32) (a2 : Int32) (r_45 : Int32 → Int32 → HI → HJ → Option (Int32 × HI)) (x5 : Int32) (x6 : Int32) (I : HI) (J : HJ) : Option (Int32 × HI) :=
if a2 ≤ x6 then (
some (x5, I))
else (
bd1 (f_X5_has a0 (a1 + x6) I J) fun r17 =>
if r17 = 0 then (
some ((-12 : Int32), I))
else (
bd1 (f_X5_at a0 (a1 + x6) I J) fun r19 =>
bd2 (f_X10_tell r19 I J) fun r21 I22 =>
if r21 ≤ 0 then (
fB_X10_times_91 a0 a1 a2 r_45 x5 x6 I22 J)
else (
nm (x5 + (1 : Int32)) fun v24 =>
fB_X10_times_91 a0 a1 a2 r_45 v24 x6 I22 J)))
def fL_X10_times_45 (a0 : Int32) (a1 : Int32) (a2 : Int32) : Nat → Int32 → Int32 → HI → HJ → Option (Int32 × HI)
  | 0 => fun _ _ _ _ => none
  | f + 1 => fLB_X10_times_45 a0 a1 a2 (fL_X10_times_45 a0 a1 a2 f)
def f_X10_times (a0 : Int32) (a1 : Int32) (a2 : Int32) (I : HI) (J : HJ) : Option (Int32 × HI) :=
bd1 (f_X5_isSheet a0) fun r25 =>
if r25 = 0 then (
some ((-1 : Int32), I))
else (
bd1 (f_X10_isWithin a2 (0 : Int32) (40 : Int32)) fun r27 =>
if r27 = 0 then (
some ((-1 : Int32), I))
else (
bd1 (f_X10_refusalOfSort a0 (1 : Int32) I J) fun r29 =>
if r29 = 0 then (
fL_X10_times_45 a0 a1 a2 FU (0 : Int32) (0 : Int32) I J)
else (
some (r29, I))))
def f_X10_shelveRow (a0 : Int32) (a1 : Int32) (I : HI) (J : HJ) : Option (Int32 × HI) :=
bd1 (f_X5_sortOf a1 I J) fun r11 =>
if r11 = (-1 : Int32) then (
bd2 (f_X6_hold a0 (3 : Int32) (0 : Int32) (0 : Int32) I J) fun r18 I19 =>
some (r18, I19))
else (
bd1 (f_X5_sizeOf a1 I J) fun r13 =>
bd2 (f_X6_hold a0 (2 : Int32) r11 r13 I J) fun r15 I16 =>
some (r15, I16))
def f_X10_shelf (a0 : Int32) (a1 : Int32) (a2 : Int32) (I : HI) (J : HJ) : Option (Int32 × HI) :=
bd1 (f_X6_isShelf a0) fun r27 =>
if r27 = 0 then (
some ((-1 : Int32), I))
else (
if a1 = (0 : Int32) then (
bd1 (f_X4_at 13 a2 I J) fun r30 =>
oel r30 (
some ((-1 : Int32), I)) (fun q32 => if oK q32 = 8 then (
bd2 (f_X6_hold a0 a1 a2 (0 : Int32) I J) fun r34 I35 =>
some (r34, I35)) else none))
else (
if a1 = (1 : Int32) then (
bd1 (f_X2_isKey 4 a2) fun r38 =>
if r38 = 0 then (
some ((-1 : Int32), I))
else (
bd2 (f_X6_hold a0 a1 a2 (0 : Int32) I J) fun r40 I41 =>
some (r40, I41)))
else (
if a1 = (2 : Int32) then (
bd1 (f_X5_isSheet a2) fun r44 =>
if r44 = 0 then (
some ((-1 : Int32), I))
else (
bd2 (f_X10_shelveRow a0 a2 I J) fun r46 I47 =>
some (r46, I47)))
else (
if a1 = (3 : Int32) then (
bd2 (f_X6_hold a0 a1 (0 : Int32) (0 : Int32) I J) fun r50 I51 =>
some (r50, I51))
else (
some ((-1 : Int32), I))))))
def fB_X10_heldOn_36 (a0 : Int32) (x2 : Int32) (s0 : Int32) (I : HI) (J : HJ) : Option (Int32) :=
if s0 = 0 then (
some (x2))
else (
some ((3 : Int32)))
def fB_X10_heldOn_35 (a0 : Int32) (x2 : Int32) (I : HI) (J : HJ) : Option (Int32) :=
fB_X10_heldOn_36 a0 x2 (0 : Int32) I J
def f_X10_heldOn (a0 : Int32) (I : HI) (J : HJ) : Option (Int32) :=
bd1 (f_X6_whatOn a0 I J) fun r9 =>
if r9 = 0 then (
bd1 (f_X6_numberOn a0 I J) fun r11 =>
bd1 (f_X4_at 13 r11 I J) fun r13 =>
oel r13 (
fB_X10_heldOn_36 a0 r9 (1 : Int32) I J) (fun q15 => if oK q15 = 8 then (
fB_X10_heldOn_35 a0 r9 I J) else none))
else (
fB_X10_heldOn_35 a0 r9 I J)
def f_X10_kindOn (a0 : Int32) (I : HI) (J : HJ) : Option (Int32) :=
bd1 (f_X6_whatOn a0 I J) fun r11 =>
if r11 = (1 : Int32) then (
some ((7 : Int32)))
else (
bd1 (f_X6_numberOn a0 I J) fun r13 =>
bd1 (f_X4_at 13 r13 I J) fun r15 =>
oel r15 (
some ((-1 : Int32))) (fun q17 => if oK q17 = 8 then (
bd1 (f_X9_findKind q17 I J) fun r19 =>
some (r19)) else none))
def fB_X10_taken_34 (a0 : Int32) (a1 : Int32) (I : HI) (J : HJ) : Option (Int32) :=
bd1 (f_X6_numberOn a0 I J) fun r24 =>
bd1 (f_X10_heldOn a0 I J) fun r26 =>
if r26 = (0 : Int32) then (
bd1 (f_X10_kindOn a0 I J) fun r29 =>
bd1 (f_X1_isUnder r29 a1) fun r31 =>
if r31 = 0 then (
some ((-13 : Int32)))
else (
some (r24)))
else (
if r26 = (1 : Int32) then (
bd1 (f_X10_kindOn a0 I J) fun r34 =>
bd1 (f_X1_isUnder r34 a1) fun r36 =>
if r36 = 0 then (
some ((-13 : Int32)))
else (
some (r24)))
else (
if r26 = (2 : Int32) then (
if (a1 - (10 : Int32)) = r24 then (
bd1 (f_X6_itemsOn a0 I J) fun r39 =>
some (r39))
else (
some ((-13 : Int32))))
else (
some ((-11 : Int32)))))
def f_X10_taken (a0 : Int32) (a1 : Int32) (I : HI) (J : HJ) : Option (Int32) :=
bd1 (f_X6_isShelf a0) fun r41 =>
if r41 = 0 then (
some ((-1 : Int32)))
else (
bd1 (f_X10_isWithin a1 (0 : Int32) (7 : Int32)) fun r43 =>
if r43 = 0 then (
bd1 (f_X10_isWithin a1 (10 : Int32) (14 : Int32)) fun r45 =>
if r45 = 0 then (
some ((-1 : Int32)))
else (
fB_X10_taken_34 a0 a1 I J))
else (
fB_X10_taken_34 a0 a1 I J))
def fB_X10_act_108 (a0 : Int32) (a1 : Int32) (a2 : Int32) (s0 : Int32) (s1 : Int32) (s2 : Int32) (I : HI) (J : HJ) : Option (Int32 × HI) :=
bd1 (f_X0_takeThing s2 s1 s0 I J) fun I36 =>
bd2 (f_X0_answer a1 a2 I36 J) fun r38 I39 =>
some (r38, I39)
def f_X10_act (a0 : Int32) (a1 : Int32) (a2 : Int32) (I : HI) (J : HJ) : Option (Int32 × HI) :=
bd1 (f_X0_forget I J) fun I41 =>
bd1 (f_X6_isShelf a0) fun r43 =>
if r43 = 0 then (
some ((0 : Int32), I41))
else (
bd1 (f_X10_isWithin a1 (0 : Int32) (3 : Int32)) fun r45 =>
if r45 = 0 then (
some ((0 : Int32), I41))
else (
bd1 (f_X6_numberOn a0 I41 J) fun r47 =>
bd1 (f_X10_heldOn a0 I41 J) fun r49 =>
if r49 = (0 : Int32) then (
bd1 (f_X4_at 13 r47 I41 J) fun r52 =>
oel r52 (
bd1 (f_X10_kindOn a0 I41 J) fun r55 =>
fB_X10_act_108 a0 a1 a2 (0 : Int32) r47 r55 I41 J) (fun q54 => if oK q54 = 8 then (
bd1 (f_X10_kindOn a0 I41 J) fun r58 =>
bd1 (f_X9_size q54 I41 J) fun r60 =>
fB_X10_act_108 a0 a1 a2 r60 r47 r58 I41 J) else none))
else (
if r49 = (1 : Int32) then (
bd2 (f_X2_worth 4 r47 1 I41 J) fun r63 I64 =>
bd1 (f_X0_takeThing (7 : Int32) r47 r63 I64 J) fun I66 =>
bd2 (f_X0_answer a1 a2 I66 J) fun r68 I69 =>
some (r68, I69))
else (
some ((0 : Int32), I41)))))
def f_X10_trace (a0 : Int32) (I : HI) (J : HJ) : Option (Int32) :=
bd1 (f_X0_has a0 I J) fun r5 =>
if r5 = 0 then (
some ((-3 : Int32)))
else (
bd1 (f_X0_bodyAt a0 I J) fun r7 =>
some (r7))
def f_X10_many (a0 : Int32) (I : HI) (J : HJ) : Option (Int32) :=
if a0 = (0 : Int32) then (
bd1 (f_X9_size 2 I J) fun r20 =>
some (r20))
else (
if a0 = (1 : Int32) then (
bd1 (f_X4_size 13 I J) fun r23 =>
some (r23))
else (
if a0 = (2 : Int32) then (
bd1 (f_X3_size I J) fun r26 =>
some (r26))
else (
if a0 = (3 : Int32) then (
bd1 (f_X8_size I J) fun r29 =>
some (r29))
else (
if a0 = (4 : Int32) then (
bd1 (f_X0_size I J) fun r32 =>
some (r32))
else (
if a0 = (5 : Int32) then (
bd1 (f_X2_howManyTold 4 I J) fun r35 =>
some (r35))
else (
some ((-1 : Int32))))))))
def f_X10_keep (I : HI) (J : HJ) : Option (Int32 × HI × HJ) :=
bd2 (f_X7_becomeLike 27 1 I J) fun I9 J10 =>
bd1 (f_X2_becomeLike 30 4 I9 J10) fun I12 =>
bd1 (f_X4_becomeLike 39 13 I12 J10) fun I14 =>
nm (put I14 0 6 (1 : Int32)) fun I16 =>
some ((1 : Int32), I16, J10)
def f_X10_again (I : HI) (J : HJ) : Option (Int32 × HI × HJ) :=
if (I 0 6) = 0 then (
some ((-3 : Int32), I, J))
else (
bd2 (f_X7_becomeLike 1 27 I J) fun I8 J9 =>
bd1 (f_X2_becomeLike 4 30 I8 J9) fun I11 =>
bd1 (f_X4_becomeLike 13 39 I11 J9) fun I13 =>
some ((1 : Int32), I13, J9))
def fLB_X11_laws_43 (r_43 : Int32 → HI → HJ → Option (HI)) (x1 : Int32) (I : HI) (J : HJ) : Option (HI) :=
if (4 : Int32) ≤ x1 then (
if vin (11 : Int32) 666 = true then (
nm (put I 99 (11 : Int32).toNatClampNeg (0 : Int32)) fun I7 =>
some (I7)) else none)
else (
if vin x1 4 = true then (
if vin ((438 : Int32) + ((2 : Int32) * x1)) 666 = true then (
nm (put I 99 ((438 : Int32) + ((2 : Int32) * x1)).toNatClampNeg (I 104 x1.toNatClampNeg)) fun I8 =>
if vin x1 4 = true then (
if vin (((438 : Int32) + ((2 : Int32) * x1)) + (1 : Int32)) 666 = true then (
nm (put I8 99 (((438 : Int32) + ((2 : Int32) * x1)) + (1 : Int32)).toNatClampNeg (I8 105 x1.toNatClampNeg)) fun I9 =>
nm (x1 + (1 : Int32)) fun v10 =>
r_43 v10 I9 J) else none) else none) else none) else none)
def fL_X11_laws_43 : Nat → Int32 → HI → HJ → Option (HI)
  | 0 => fun _ _ _ => none
  | f + 1 => fLB_X11_laws_43 (fL_X11_laws_43 f)
def fB_X11_laws_34 (r_2 : Int32 → HI → HJ → Option (HI)) (x1 : Int32) (s0 : Int32) (s1 : Int32) (I : HI) (J : HJ) : Option (HI) :=
if vin s1 666 = true then (
nm (put I 99 s1.toNatClampNeg s0) fun I11 =>
nm (x1 + (1 : Int32)) fun v12 =>
r_2 v12 I11 J) else none
def fLB_X11_laws_2 (r_2 : Int32 → HI → HJ → Option (HI)) (x1 : Int32) (I : HI) (J : HJ) : Option (HI) :=
if (220 : Int32) ≤ x1 then (
fL_X11_laws_43 FU (0 : Int32) I J)
else (
if (12 : Int32) ≤ x1 then (
fB_X11_laws_34 r_2 x1 (0 : Int32) ((446 : Int32) + x1) I J)
else (
if vin x1 12 = true then (
fB_X11_laws_34 r_2 x1 (I 103 x1.toNatClampNeg) ((446 : Int32) + x1) I J) else none))
def fL_X11_laws_2 : Nat → Int32 → HI → HJ → Option (HI)
  | 0 => fun _ _ _ => none
  | f + 1 => fLB_X11_laws_2 (fL_X11_laws_2 f)
def f_X11_laws (I : HI) (J : HJ) : Option (HI) :=
fL_X11_laws_2 FU (0 : Int32) I J
def f_X11_in (a0 : Int64) (a1 : Int64) (a2 : Int64) : Option (Int32) :=
if (lg_cmp a0 a1) < 0 then (
some ((0 : Int32)))
else (
if 0 < (lg_cmp a0 a2) then (
some ((0 : Int32)))
else (
some ((1 : Int32))))
def f_X11_held (a0 : Int32) (a1 : Int32) (a2 : Int32) : Option (Int32) :=
if a1 ≤ a0 then (
if a0 ≤ a2 then (
some (a0))
else (
some (a2)))
else (
some (a1))
def fLB_X11_opens_2 (r_2 : Int32 → HI → HJ → Option (HI × HJ)) (x1 : Int32) (I : HI) (J : HJ) : Option (HI × HJ) :=
if (9 : Int32) ≤ x1 then (
nm (put I 98 11 (0 : Int32)) fun I6 =>
nm (putJ J 98 12 (0 : Int64)) fun J7 =>
nm (putJ J7 98 13 (0 : Int64)) fun J8 =>
some (I6, J8))
else (
if vin x1 666 = true then (
if vin x1 9 = true then (
nm (put I 106 x1.toNatClampNeg (I 99 x1.toNatClampNeg)) fun I9 =>
nm (x1 + (1 : Int32)) fun v10 =>
r_2 v10 I9 J) else none) else none)
def fL_X11_opens_2 : Nat → Int32 → HI → HJ → Option (HI × HJ)
  | 0 => fun _ _ _ => none
  | f + 1 => fLB_X11_opens_2 (fL_X11_opens_2 f)
def f_X11_opens (I : HI) (J : HJ) : Option (HI × HJ) :=
fL_X11_opens_2 FU (0 : Int32) I J
def f_X11_both (a0 : Int32) (a1 : Int32) (a2 : Int32) : Option (Int32) :=
if a0 = (10011 : Int32) then (
some (a1 + a2))
else (
if a0 = (10012 : Int32) then (
some (a1 - a2))
else (
if a0 = (10013 : Int32) then (
some (a1 * a2))
else (
if a0 = (10014 : Int32) then (
if a2 = 0 then (
some ((0 : Int32)))
else (
if a2 = 0 then none else
some (a1 / a2)))
else (
if a0 = (10015 : Int32) then (
if a2 = 0 then (
some ((0 : Int32)))
else (
if a2 = 0 then none else
some (jrem a1 a2)))
else (
if a0 = (10016 : Int32) then (
if a2 ≤ a1 then (
some ((0 : Int32)))
else (
some ((1 : Int32))))
else (
if a0 = (10017 : Int32) then (
if a1 = a2 then (
some ((1 : Int32)))
else (
some ((0 : Int32))))
else (
if a1 ≤ a2 then (
some ((0 : Int32)))
else (
some ((1 : Int32))))))))))
def fB_X11_worth_148 (a0 : Int32) (r_15 : Int32 → Int32 → HI → HJ → Option (Int32 × HI)) (x2 : Int32) (x3 : Int32) (I : HI) (J : HJ) : Option (Int32 × HI) :=
nm (x3 + (1 : Int32)) fun v11 =>
r_15 x2 v11 I J
def fB_X11_worth_82 (a0 : Int32) (r_15 : Int32 → Int32 → HI → HJ → Option (Int32 × HI)) (x2 : Int32) (x3 : Int32) (s0 : Int32) (s1 : Int32) (I : HI) (J : HJ) : Option (Int32 × HI) :=
if vin s1 220 = true then (
nm (put I 109 s1.toNatClampNeg s0) fun I12 =>
nm (x2 + (1 : Int32)) fun v13 =>
fB_X11_worth_148 a0 r_15 v13 x3 I12 J) else none
def fLB_X11_worth_15 (a0 : Int32) (r_15 : Int32 → Int32 → HI → HJ → Option (Int32 × HI)) (x2 : Int32) (x3 : Int32) (I : HI) (J : HJ) : Option (Int32 × HI) :=
if vin (((438 : Int32) + ((2 : Int32) * a0)) + (1 : Int32)) 666 = true then (
if (I 99 (((438 : Int32) + ((2 : Int32) * a0)) + (1 : Int32)).toNatClampNeg) ≤ x3 then (
if vin (0 : Int32) 220 = true then (
some (I 109 (0 : Int32).toNatClampNeg, I)) else none)
else (
if vin ((446 : Int32) + x3) 666 = true then (
nm (I 99 ((446 : Int32) + x3).toNatClampNeg) fun v14 =>
if (10010 : Int32) ≤ v14 then (
if v14 = (10010 : Int32) then (
if vin (x2 - (1 : Int32)) 220 = true then (
if vin (x2 - (1 : Int32)) 220 = true then (
nm (put I 109 (x2 - (1 : Int32)).toNatClampNeg ((0 : Int32) - (I 109 (x2 - (1 : Int32)).toNatClampNeg))) fun I19 =>
fB_X11_worth_148 a0 r_15 x2 x3 I19 J) else none) else none)
else (
nm (x2 + (-1 : Int32)) fun v15 =>
if vin (v15 - (1 : Int32)) 220 = true then (
if vin v15 220 = true then (
bd1 (f_X11_both v14 (I 109 (v15 - (1 : Int32)).toNatClampNeg) (I 109 v15.toNatClampNeg)) fun r16 =>
if vin (v15 - (1 : Int32)) 220 = true then (
nm (put I 109 (v15 - (1 : Int32)).toNatClampNeg r16) fun I18 =>
fB_X11_worth_148 a0 r_15 v15 x3 I18 J) else none) else none) else none))
else (
if (10000 : Int32) ≤ v14 then (
if vin (v14 - (10000 : Int32)) 9 = true then (
fB_X11_worth_82 a0 r_15 x2 x3 (I 106 (v14 - (10000 : Int32)).toNatClampNeg) x2 I J) else none)
else (
fB_X11_worth_82 a0 r_15 x2 x3 v14 x2 I J))) else none)) else none
def fL_X11_worth_15 (a0 : Int32) : Nat → Int32 → Int32 → HI → HJ → Option (Int32 × HI)
  | 0 => fun _ _ _ _ => none
  | f + 1 => fLB_X11_worth_15 a0 (fL_X11_worth_15 a0 f)
def f_X11_worth (a0 : Int32) (I : HI) (J : HJ) : Option (Int32 × HI) :=
if vin ((438 : Int32) + ((2 : Int32) * a0)) 666 = true then (
nm (I 99 ((438 : Int32) + ((2 : Int32) * a0)).toNatClampNeg) fun v20 =>
fL_X11_worth_15 a0 FU (0 : Int32) v20 I J) else none
def fB_X11_drops_67 (x1 : Int32) (I : HI) (J : HJ) : Option (HI × HJ) :=
if vin (0 : Int32) 9 = true then (
nm (putJ J 98 13 ((J 98 13) + (((I 106 (0 : Int32).toNatClampNeg) - x1).toInt64))) fun J15 =>
if vin (0 : Int32) 9 = true then (
nm (put I 106 (0 : Int32).toNatClampNeg x1) fun I16 =>
if vin (1 : Int32) 9 = true then (
if vin (1 : Int32) 9 = true then (
nm (put I16 106 (1 : Int32).toNatClampNeg ((0 : Int32) - ((I16 106 (1 : Int32).toNatClampNeg) / (2 : Int32)))) fun I17 =>
if vin (2 : Int32) 9 = true then (
if vin (2 : Int32) 9 = true then (
nm (put I17 106 (2 : Int32).toNatClampNeg ((0 : Int32) - ((I17 106 (2 : Int32).toNatClampNeg) / (2 : Int32)))) fun I18 =>
if vin (4 : Int32) 9 = true then (
nm (put I18 106 (4 : Int32).toNatClampNeg (0 : Int32)) fun I19 =>
if vin (5 : Int32) 9 = true then (
if vin (5 : Int32) 9 = true then (
nm (put I19 106 (5 : Int32).toNatClampNeg ((I19 106 (5 : Int32).toNatClampNeg) + (1 : Int32))) fun I20 =>
some (I20, J15)) else none) else none) else none) else none) else none) else none) else none) else none) else none
def f_X11_drops (I : HI) (J : HJ) : Option (HI × HJ) :=
bd2 (f_X11_worth (3 : Int32) I J) fun r21 I22 =>
if vin (0 : Int32) 9 = true then (
bd1 (f_X11_held r21 (0 : Int32) (I22 106 (0 : Int32).toNatClampNeg)) fun r24 =>
if (60 : Int32) ≤ (I22 98 11) then (
fB_X11_drops_67 r24 I22 J)
else (
if vin (4 : Int32) 9 = true then (
if vin (I22 98 11) 60 = true then (
nm (put I22 107 (I22 98 11).toNatClampNeg (I22 106 (4 : Int32).toNatClampNeg)) fun I26 =>
if vin (0 : Int32) 9 = true then (
if vin (I26 98 11) 60 = true then (
nm (put I26 108 (I26 98 11).toNatClampNeg ((I26 106 (0 : Int32).toNatClampNeg) - r24)) fun I27 =>
nm (put I27 98 11 ((I27 98 11) + (1 : Int32))) fun I28 =>
fB_X11_drops_67 r24 I28 J) else none) else none) else none) else none)) else none
def fB_X11_ticks_240 (I : HI) (J : HJ) : Option (HI × HJ) :=
bd2 (f_X11_worth (2 : Int32) I J) fun r36 I37 =>
if r36 = 0 then (
some (I37, J))
else (
bd2 (f_X11_drops I37 J) fun I39 J40 =>
some (I39, J40))
def fB_X11_ticks_157 (I : HI) (J : HJ) : Option (HI × HJ) :=
if vin (2 : Int32) 9 = true then (
bd1 (f_X11_held (I 106 (2 : Int32).toNatClampNeg) (-999 : Int32) (999 : Int32)) fun r42 =>
if vin (2 : Int32) 9 = true then (
nm (put I 106 (2 : Int32).toNatClampNeg r42) fun I44 =>
if vin (1 : Int32) 9 = true then (
if vin (2 : Int32) 9 = true then (
if vin (1 : Int32) 9 = true then (
nm (put I44 106 (1 : Int32).toNatClampNeg ((I44 106 (1 : Int32).toNatClampNeg) + (I44 106 (2 : Int32).toNatClampNeg))) fun I45 =>
if vin (1 : Int32) 9 = true then (
bd1 (f_X11_in ((I45 106 (1 : Int32).toNatClampNeg).toInt64) (-999 : Int64) (999 : Int64)) fun r46 =>
if r46 = 0 then (
if vin (1 : Int32) 9 = true then (
bd1 (f_X11_held (I45 106 (1 : Int32).toNatClampNeg) (-999 : Int32) (999 : Int32)) fun r48 =>
if vin (1 : Int32) 9 = true then (
nm (put I45 106 (1 : Int32).toNatClampNeg r48) fun I50 =>
if vin (2 : Int32) 9 = true then (
nm (put I50 106 (2 : Int32).toNatClampNeg (0 : Int32)) fun I51 =>
fB_X11_ticks_240 I51 J) else none) else none) else none)
else (
fB_X11_ticks_240 I45 J)) else none) else none) else none) else none) else none) else none
def f_X11_ticks (I : HI) (J : HJ) : Option (HI × HJ) :=
if vin (3 : Int32) 9 = true then (
if vin (3 : Int32) 9 = true then (
nm (put I 106 (3 : Int32).toNatClampNeg ((I 106 (3 : Int32).toNatClampNeg) + (1 : Int32))) fun I52 =>
if vin (4 : Int32) 9 = true then (
if vin (4 : Int32) 9 = true then (
nm (put I52 106 (4 : Int32).toNatClampNeg ((I52 106 (4 : Int32).toNatClampNeg) + (1 : Int32))) fun I53 =>
bd2 (f_X11_worth (0 : Int32) I53 J) fun r54 I55 =>
bd1 (f_X11_held r54 (0 : Int32) (999 : Int32)) fun r57 =>
nm (putJ J 98 12 ((J 98 12) + (r57.toInt64))) fun J59 =>
if vin (0 : Int32) 9 = true then (
bd1 (f_X11_held ((I55 106 (0 : Int32).toNatClampNeg) + r57) (0 : Int32) (99999 : Int32)) fun r60 =>
if vin (0 : Int32) 9 = true then (
nm (put I55 106 (0 : Int32).toNatClampNeg r60) fun I62 =>
if vin (2 : Int32) 9 = true then (
bd2 (f_X11_worth (1 : Int32) I62 J59) fun r63 I64 =>
bd1 (f_X11_held r63 (-999 : Int32) (999 : Int32)) fun r66 =>
if vin (2 : Int32) 9 = true then (
nm (put I64 106 (2 : Int32).toNatClampNeg ((I62 106 (2 : Int32).toNatClampNeg) - r66)) fun I68 =>
if vin (7 : Int32) 9 = true then (
if (I68 106 (7 : Int32).toNatClampNeg) = 0 then (
fB_X11_ticks_157 I68 J59)
else (
if vin (8 : Int32) 9 = true then (
if vin (8 : Int32) 9 = true then (
nm (put I68 106 (8 : Int32).toNatClampNeg (((I68 106 (8 : Int32).toNatClampNeg) * (1103515245 : Int32)) + (12345 : Int32))) fun I69 =>
if vin (2 : Int32) 9 = true then (
if vin (8 : Int32) 9 = true then (
if vin (7 : Int32) 9 = true then (
if (((2 : Int32) * (I69 106 (7 : Int32).toNatClampNeg)) + (1 : Int32)) = 0 then none else
if vin (7 : Int32) 9 = true then (
if vin (2 : Int32) 9 = true then (
nm (put I69 106 (2 : Int32).toNatClampNeg ((I69 106 (2 : Int32).toNatClampNeg) + ((jrem (jushr (I69 106 (8 : Int32).toNatClampNeg) (16 : Int32)) (((2 : Int32) * (I69 106 (7 : Int32).toNatClampNeg)) + (1 : Int32))) - (I69 106 (7 : Int32).toNatClampNeg)))) fun I70 =>
fB_X11_ticks_157 I70 J59) else none) else none) else none) else none) else none) else none) else none)) else none) else none) else none) else none) else none) else none) else none) else none) else none
def fLB_X11_trial_2 (a0 : Int32) (r_2 : Int32 → HI → HJ → Option (HI × HJ)) (x2 : Int32) (I : HI) (J : HJ) : Option (HI × HJ) :=
if a0 ≤ x2 then (
some (I, J))
else (
bd2 (f_X11_ticks I J) fun I5 J6 =>
nm (x2 + (1 : Int32)) fun v8 =>
r_2 v8 I5 J6)
def fL_X11_trial_2 (a0 : Int32) : Nat → Int32 → HI → HJ → Option (HI × HJ)
  | 0 => fun _ _ _ => none
  | f + 1 => fLB_X11_trial_2 a0 (fL_X11_trial_2 a0 f)
def f_X11_trial (a0 : Int32) (I : HI) (J : HJ) : Option (HI × HJ) :=
fL_X11_trial_2 a0 FU (0 : Int32) I J
def fLB_X11_begin_45 (a0 : Int32) (a1 : Int32) (a2 : Int32) (r_45 : Int32 → HI → HJ → Option (Int32 × HI × HJ)) (x4 : Int32) (I : HI) (J : HJ) : Option (Int32 × HI × HJ) :=
if (6 : Int32) ≤ x4 then (
if vin (0 : Int32) 666 = true then (
nm (put I 99 (0 : Int32).toNatClampNeg a0) fun I16 =>
if vin (1 : Int32) 666 = true then (
nm (put I16 99 (1 : Int32).toNatClampNeg a1) fun I17 =>
if vin (2 : Int32) 666 = true then (
nm (put I17 99 (2 : Int32).toNatClampNeg a2) fun I18 =>
if vin (9 : Int32) 666 = true then (
nm (put I18 99 (9 : Int32).toNatClampNeg (0 : Int32)) fun I19 =>
if vin (0 : Int32) 3 = true then (
nm (putJ J 101 (0 : Int32).toNatClampNeg (0 : Int64)) fun J20 =>
if vin (1 : Int32) 3 = true then (
nm (putJ J20 101 (1 : Int32).toNatClampNeg (0 : Int64)) fun J21 =>
if vin (2 : Int32) 3 = true then (
nm (putJ J21 101 (2 : Int32).toNatClampNeg (a0.toInt64)) fun J22 =>
some ((1 : Int32), I19, J22)) else none) else none) else none) else none) else none) else none) else none)
else (
if vin x4 666 = true then (
nm (put I 99 x4.toNatClampNeg (0 : Int32)) fun I23 =>
nm (x4 + (1 : Int32)) fun v24 =>
r_45 v24 I23 J) else none)
def fL_X11_begin_45 (a0 : Int32) (a1 : Int32) (a2 : Int32) : Nat → Int32 → HI → HJ → Option (Int32 × HI × HJ)
  | 0 => fun _ _ _ => none
  | f + 1 => fLB_X11_begin_45 a0 a1 a2 (fL_X11_begin_45 a0 a1 a2 f)
def f_X11_begin (a0 : Int32) (a1 : Int32) (a2 : Int32) (I : HI) (J : HJ) : Option (Int32 × HI × HJ) :=
bd1 (f_X11_in (a0.toInt64) (0 : Int64) (9999 : Int64)) fun r25 =>
if r25 = 0 then (
some ((-1 : Int32), I, J))
else (
bd1 (f_X11_in (a1.toInt64) (-999 : Int64) (999 : Int64)) fun r27 =>
if r27 = 0 then (
some ((-1 : Int32), I, J))
else (
bd1 (f_X11_in (a2.toInt64) (-999 : Int64) (999 : Int64)) fun r29 =>
if r29 = 0 then (
some ((-1 : Int32), I, J))
else (
fL_X11_begin_45 a0 a1 a2 FU (0 : Int32) I J)))
def f_X11_set (a0 : Int32) (a1 : Int32) (I : HI) (J : HJ) : Option (Int32 × HI) :=
bd1 (f_X11_in (a0.toInt64) (0 : Int64) (1 : Int64)) fun r7 =>
if r7 = 0 then (
some ((-1 : Int32), I))
else (
bd1 (f_X11_in (a1.toInt64) (0 : Int64) (99 : Int64)) fun r9 =>
if r9 = 0 then (
some ((-1 : Int32), I))
else (
if vin ((6 : Int32) + a0) 666 = true then (
nm (I 99 ((6 : Int32) + a0).toNatClampNeg) fun v11 =>
if vin ((6 : Int32) + a0) 666 = true then (
nm (put I 99 ((6 : Int32) + a0).toNatClampNeg a1) fun I12 =>
some (v11, I12)) else none) else none))
def f_X11_seed (a0 : Int32) (I : HI) (J : HJ) : Option (Int32 × HI) :=
if vin (8 : Int32) 666 = true then (
nm (I 99 (8 : Int32).toNatClampNeg) fun v3 =>
if vin (8 : Int32) 666 = true then (
nm (put I 99 (8 : Int32).toNatClampNeg a0) fun I4 =>
some (v3, I4)) else none) else none
def fLB_X11_run_100 (a0 : Int32) (r_100 : Int32 → Int32 → HI → HJ → Option (Int32 × HI × HJ)) (x2 : Int32) (x4 : Int32) (I : HI) (J : HJ) : Option (Int32 × HI × HJ) :=
if (9 : Int32) ≤ x4 then (
if vin (0 : Int32) 3 = true then (
if vin (0 : Int32) 3 = true then (
nm (putJ J 101 (0 : Int32).toNatClampNeg ((J 101 (0 : Int32).toNatClampNeg) + (J 98 12))) fun J18 =>
if vin (1 : Int32) 3 = true then (
if vin (1 : Int32) 3 = true then (
nm (putJ J18 101 (1 : Int32).toNatClampNeg ((J18 101 (1 : Int32).toNatClampNeg) + (J18 98 13))) fun J19 =>
if vin (5 : Int32) 666 = true then (
some ((I 99 (5 : Int32).toNatClampNeg) - x2, I, J19)) else none) else none) else none) else none) else none)
else (
if vin x4 9 = true then (
if vin x4 666 = true then (
nm (put I 99 x4.toNatClampNeg (I 106 x4.toNatClampNeg)) fun I20 =>
nm (x4 + (1 : Int32)) fun v21 =>
r_100 x2 v21 I20 J) else none) else none)
def fL_X11_run_100 (a0 : Int32) : Nat → Int32 → Int32 → HI → HJ → Option (Int32 × HI × HJ)
  | 0 => fun _ _ _ _ => none
  | f + 1 => fLB_X11_run_100 a0 (fL_X11_run_100 a0 f)
def fB_X11_run_89 (a0 : Int32) (r_27 : Int32 → Int32 → HI → HJ → Option (Int32 × HI × HJ)) (x2 : Int32) (x3 : Int32) (I : HI) (J : HJ) : Option (Int32 × HI × HJ) :=
nm (put I 98 11 (0 : Int32)) fun I22 =>
r_27 x2 x3 I22 J
def fLB_X11_run_27 (a0 : Int32) (r_27 : Int32 → Int32 → HI → HJ → Option (Int32 × HI × HJ)) (x2 : Int32) (x3 : Int32) (I : HI) (J : HJ) : Option (Int32 × HI × HJ) :=
if x3 ≤ 0 then (
fL_X11_run_100 a0 FU x2 (0 : Int32) I J)
else (
bd2 (f_X11_ticks I J) fun I23 J24 =>
nm (x3 + (-1 : Int32)) fun v26 =>
if (I23 98 11) ≤ 0 then (
r_27 x2 v26 I23 J24)
else (
if vin (9 : Int32) 666 = true then (
if (60 : Int32) ≤ (I23 99 (9 : Int32).toNatClampNeg) then (
fB_X11_run_89 a0 r_27 x2 v26 I23 J24)
else (
if vin (9 : Int32) 666 = true then (
if vin (0 : Int32) 60 = true then (
if vin ((12 : Int32) + (I23 99 (9 : Int32).toNatClampNeg)) 666 = true then (
nm (put I23 99 ((12 : Int32) + (I23 99 (9 : Int32).toNatClampNeg)).toNatClampNeg (I23 107 (0 : Int32).toNatClampNeg)) fun I27 =>
if vin (9 : Int32) 666 = true then (
if vin (9 : Int32) 666 = true then (
nm (put I27 99 (9 : Int32).toNatClampNeg ((I27 99 (9 : Int32).toNatClampNeg) + (1 : Int32))) fun I28 =>
fB_X11_run_89 a0 r_27 x2 v26 I28 J24) else none) else none) else none) else none) else none)) else none))
def fL_X11_run_27 (a0 : Int32) : Nat → Int32 → Int32 → HI → HJ → Option (Int32 × HI × HJ)
  | 0 => fun _ _ _ _ => none
  | f + 1 => fLB_X11_run_27 a0 (fL_X11_run_27 a0 f)
def f_X11_run (a0 : Int32) (I : HI) (J : HJ) : Option (Int32 × HI × HJ) :=
bd1 (f_X11_in (a0.toInt64) (0 : Int64) (400 : Int64)) fun r29 =>
if r29 = 0 then (
some ((-1 : Int32), I, J))
else (
bd2 (f_X11_opens I J) fun I31 J32 =>
if vin (5 : Int32) 666 = true then (
nm (I31 99 (5 : Int32).toNatClampNeg) fun v34 =>
fL_X11_run_27 a0 FU v34 a0 I31 J32) else none)
def fB_X11_tap_26 (a0 : Int32) (I : HI) (J : HJ) : Option (Int32) :=
if vin a0 666 = true then (
some ((I 99 a0.toNatClampNeg) + (10000 : Int32))) else none
def f_X11_tap (a0 : Int32) (I : HI) (J : HJ) : Option (Int32) :=
bd1 (f_X11_in (a0.toInt64) (0 : Int64) (7 : Int64)) fun r3 =>
if r3 = 0 then (
some ((-1 : Int32)))
else (
if a0 = (1 : Int32) then (
fB_X11_tap_26 a0 I J)
else (
if a0 = (2 : Int32) then (
fB_X11_tap_26 a0 I J)
else (
if vin a0 666 = true then (
some (I 99 a0.toNatClampNeg)) else none)))
def f_X11_water (I : HI) (J : HJ) : Option (Int64) :=
if vin (0 : Int32) 3 = true then (
if vin (1 : Int32) 3 = true then (
if vin (0 : Int32) 666 = true then (
if vin (2 : Int32) 3 = true then (
some ((((J 101 (0 : Int32).toNatClampNeg) - (J 101 (1 : Int32).toNatClampNeg)) - ((I 99 (0 : Int32).toNatClampNeg).toInt64)) + (J 101 (2 : Int32).toNatClampNeg))) else none) else none) else none) else none
def fLB_X11_feed_32 (a0 : Int64) (a1 : Int32) (r_32 : Int32 → HI → HJ → Option (Int32 × HI)) (x4 : Int32) (I : HI) (J : HJ) : Option (Int32 × HI) :=
if a1 ≤ x4 then (
some (I 98 19, I))
else (
if vin (I 98 19) 200 = true then (
nm (put I 110 (I 98 19).toNatClampNeg (((jlshr a0 ((8 : Int32) * x4)) &&& (255 : Int64)).toInt32)) fun I6 =>
nm (put I6 98 19 ((I6 98 19) + (1 : Int32))) fun I7 =>
nm (x4 + (1 : Int32)) fun v8 =>
r_32 v8 I7 J) else none)
def fL_X11_feed_32 (a0 : Int64) (a1 : Int32) : Nat → Int32 → HI → HJ → Option (Int32 × HI)
  | 0 => fun _ _ _ => none
  | f + 1 => fLB_X11_feed_32 a0 a1 (fL_X11_feed_32 a0 a1 f)
def f_X11_feed (a0 : Int64) (a1 : Int32) (I : HI) (J : HJ) : Option (Int32 × HI) :=
bd1 (f_X11_in (a1.toInt64) (1 : Int64) (8 : Int64)) fun r9 =>
if r9 = 0 then (
some ((-1 : Int32), I))
else (
if ((I 98 19) + a1) ≤ (200 : Int32) then (
fL_X11_feed_32 a0 a1 FU (0 : Int32) I J)
else (
some ((-2 : Int32), I)))
def f_X11_byteAt (a0 : Int32) (I : HI) (J : HJ) : Option (Int32) :=
if (I 98 19) ≤ a0 then (
some ((-1 : Int32)))
else (
if vin a0 200 = true then (
some (I 110 a0.toNatClampNeg)) else none)
def f_X11_isLetter (a0 : Int32) : Option (Int32) :=
bd1 (f_X11_in (a0.toInt64) (97 : Int64) (122 : Int64)) fun r3 =>
if zb r3 = true then some (r3) else none
def f_X11_isDigit (a0 : Int32) : Option (Int32) :=
bd1 (f_X11_in (a0.toInt64) (48 : Int64) (57 : Int64)) fun r3 =>
if zb r3 = true then some (r3) else none
def fB_X11_next_122 (r_86 : Int32 → Int32 → HI → HJ → Option (HI)) (x1 : Int32) (x2 : Int32) (I : HI) (J : HJ) : Option (HI) :=
nm (put I 98 21 ((I 98 21) + (1 : Int32))) fun I23 =>
r_86 x1 x2 I23 J
def fB_X11_next_104 (r_86 : Int32 → Int32 → HI → HJ → Option (HI)) (x1 : Int32) (x2 : Int32) (I : HI) (J : HJ) : Option (HI) :=
if x2 = 0 then (
some (I))
else (
bd1 (f_X11_byteAt (I 98 21) I J) fun r24 =>
bd1 (f_X11_isDigit r24) fun r26 =>
if r26 = 0 then (
some (I))
else (
fB_X11_next_122 r_86 x1 x2 I J))
def fLB_X11_next_86 (r_86 : Int32 → Int32 → HI → HJ → Option (HI)) (x1 : Int32) (x2 : Int32) (I : HI) (J : HJ) : Option (HI) :=
if x1 = 0 then (
fB_X11_next_104 r_86 x1 x2 I J)
else (
bd1 (f_X11_byteAt (I 98 21) I J) fun r28 =>
bd1 (f_X11_isLetter r28) fun r30 =>
if r30 = 0 then (
fB_X11_next_104 r_86 x1 x2 I J)
else (
fB_X11_next_122 r_86 x1 x2 I J))
def fL_X11_next_86 : Nat → Int32 → Int32 → HI → HJ → Option (HI)
  | 0 => fun _ _ _ _ => none
  | f + 1 => fLB_X11_next_86 (fL_X11_next_86 f)
def fB_X11_next_83 (x1 : Int32) (x2 : Int32) (s0 : Int32) (I : HI) (J : HJ) : Option (HI) :=
nm (put I 98 21 s0) fun I32 =>
fL_X11_next_86 FU x1 x2 I32 J
def fLB_X11_next_8 (r_8 : HI → HJ → Option (HI)) (I : HI) (J : HJ) : Option (HI) :=
bd1 (f_X11_byteAt (I 98 20) I J) fun r33 =>
if r33 = (32 : Int32) then (
nm (put I 98 20 ((I 98 20) + (1 : Int32))) fun I43 =>
r_8 I43 J)
else (
bd1 (f_X11_byteAt (I 98 20) I J) fun r35 =>
bd1 (f_X11_isLetter r35) fun r37 =>
bd1 (f_X11_byteAt (I 98 20) I J) fun r39 =>
bd1 (f_X11_isDigit r39) fun r41 =>
if (I 98 19) ≤ (I 98 20) then (
fB_X11_next_83 r37 r41 (I 98 20) I J)
else (
fB_X11_next_83 r37 r41 ((I 98 20) + (1 : Int32)) I J))
def fL_X11_next_8 : Nat → HI → HJ → Option (HI)
  | 0 => fun _ _ => none
  | f + 1 => fLB_X11_next_8 (fL_X11_next_8 f)
def f_X11_next (I : HI) (J : HJ) : Option (HI) :=
nm (put I 98 20 (I 98 21)) fun I44 =>
fL_X11_next_8 FU I44 J
def fB_X11_needs_17 (a0 : Int32) (s0 : Int32) (I : HI) (J : HJ) : Option (HI) :=
if zb s0 = true then (
nm (put I 98 25 s0) fun I4 =>
if (I4 98 25) = 0 then (
bd1 (f_X11_next I4 J) fun I5 =>
some (I5))
else (
some (I4))) else none
def fB_X11_needs_12 (a0 : Int32) (I : HI) (J : HJ) : Option (HI) :=
fB_X11_needs_17 a0 (1 : Int32) I J
def f_X11_needs (a0 : Int32) (I : HI) (J : HJ) : Option (HI) :=
if (I 98 25) = 0 then (
if a0 = 0 then (
fB_X11_needs_12 a0 I J)
else (
fB_X11_needs_17 a0 (0 : Int32) I J))
else (
fB_X11_needs_12 a0 I J)
def f_X11_emits (a0 : Int32) (I : HI) (J : HJ) : Option (HI) :=
if (I 98 25) = 0 then (
if vin (I 98 23) 220 = true then (
nm (put I 111 (I 98 23).toNatClampNeg a0) fun I3 =>
nm (put I3 98 23 ((I3 98 23) + (1 : Int32))) fun I4 =>
some (I4)) else none)
else (
some (I))
def fB_X11_isAt_18 (a0 : Int32) (a1 : Int32) (I : HI) (J : HJ) : Option (Int32) :=
some ((1 : Int32))
def f_X11_isAt (a0 : Int32) (a1 : Int32) (I : HI) (J : HJ) : Option (Int32) :=
if a1 = 0 then (
fB_X11_isAt_18 a0 a1 I J)
else (
bd1 (f_X11_byteAt ((I 98 20) + a0) I J) fun r3 =>
if r3 = a1 then (
fB_X11_isAt_18 a0 a1 I J)
else (
some ((0 : Int32))))
def fB_X11_isName_20 (a0 : Int32) (a1 : Int32) (a2 : Int32) (a3 : Int32) (a4 : Int32) (a5 : Int32) (s0 : Int32) (I : HI) (J : HJ) : Option (Int32) :=
if ((I 98 21) - (I 98 20)) = s0 then (
bd1 (f_X11_isAt (0 : Int32) a0 I J) fun r13 =>
if r13 = 0 then (
some ((0 : Int32)))
else (
bd1 (f_X11_isAt (1 : Int32) a1 I J) fun r15 =>
if r15 = 0 then (
some ((0 : Int32)))
else (
bd1 (f_X11_isAt (2 : Int32) a2 I J) fun r17 =>
if r17 = 0 then (
some ((0 : Int32)))
else (
bd1 (f_X11_isAt (3 : Int32) a3 I J) fun r19 =>
if r19 = 0 then (
some ((0 : Int32)))
else (
bd1 (f_X11_isAt (4 : Int32) a4 I J) fun r21 =>
if r21 = 0 then (
some ((0 : Int32)))
else (
bd1 (f_X11_isAt (5 : Int32) a5 I J) fun r23 =>
if r23 = 0 then (
some ((0 : Int32)))
else (
some ((1 : Int32)))))))))
else (
some ((0 : Int32)))
def f_X11_isName (a0 : Int32) (a1 : Int32) (a2 : Int32) (a3 : Int32) (a4 : Int32) (a5 : Int32) (I : HI) (J : HJ) : Option (Int32) :=
if a4 = 0 then (
fB_X11_isName_20 a0 a1 a2 a3 a4 a5 (4 : Int32) I J)
else (
if a5 = 0 then (
fB_X11_isName_20 a0 a1 a2 a3 a4 a5 (5 : Int32) I J)
else (
fB_X11_isName_20 a0 a1 a2 a3 a4 a5 (6 : Int32) I J))
def f_X11_keyHere (I : HI) (J : HJ) : Option (Int32) :=
bd1 (f_X11_isName (102 : Int32) (108 : Int32) (111 : Int32) (119 : Int32) (0 : Int32) (0 : Int32) I J) fun r9 =>
if r9 = 0 then (
bd1 (f_X11_isName (112 : Int32) (117 : Int32) (108 : Int32) (108 : Int32) (0 : Int32) (0 : Int32) I J) fun r11 =>
if r11 = 0 then (
bd1 (f_X11_isName (103 : Int32) (111 : Int32) (101 : Int32) (115 : Int32) (0 : Int32) (0 : Int32) I J) fun r13 =>
if r13 = 0 then (
bd1 (f_X11_isName (108 : Int32) (101 : Int32) (102 : Int32) (116 : Int32) (0 : Int32) (0 : Int32) I J) fun r15 =>
if r15 = 0 then (
some ((-1 : Int32)))
else (
some ((3 : Int32))))
else (
some ((2 : Int32))))
else (
some ((1 : Int32))))
else (
some ((0 : Int32)))
def f_X11_nameHere (I : HI) (J : HJ) : Option (Int32) :=
bd1 (f_X11_isName (119 : Int32) (101 : Int32) (105 : Int32) (103 : Int32) (104 : Int32) (116 : Int32) I J) fun r15 =>
if r15 = 0 then (
bd1 (f_X11_isName (115 : Int32) (119 : Int32) (97 : Int32) (121 : Int32) (0 : Int32) (0 : Int32) I J) fun r17 =>
if r17 = 0 then (
bd1 (f_X11_isName (115 : Int32) (112 : Int32) (101 : Int32) (101 : Int32) (100 : Int32) (0 : Int32) I J) fun r19 =>
if r19 = 0 then (
bd1 (f_X11_isName (116 : Int32) (105 : Int32) (99 : Int32) (107 : Int32) (0 : Int32) (0 : Int32) I J) fun r21 =>
if r21 = 0 then (
bd1 (f_X11_isName (115 : Int32) (105 : Int32) (110 : Int32) (99 : Int32) (101 : Int32) (0 : Int32) I J) fun r23 =>
if r23 = 0 then (
bd1 (f_X11_isName (100 : Int32) (114 : Int32) (111 : Int32) (112 : Int32) (115 : Int32) (0 : Int32) I J) fun r25 =>
if r25 = 0 then (
bd1 (f_X11_isName (107 : Int32) (110 : Int32) (111 : Int32) (98 : Int32) (0 : Int32) (0 : Int32) I J) fun r27 =>
if r27 = 0 then (
some ((-1 : Int32)))
else (
some ((6 : Int32))))
else (
some ((5 : Int32))))
else (
some ((4 : Int32))))
else (
some ((3 : Int32))))
else (
some ((2 : Int32))))
else (
some ((1 : Int32))))
else (
some ((0 : Int32)))
def f_X11_isSign (a0 : Int32) (I : HI) (J : HJ) : Option (Int32) :=
if (I 98 25) = 0 then (
bd1 (f_X11_byteAt (I 98 20) I J) fun r3 =>
if r3 = a0 then (
some ((1 : Int32)))
else (
some ((0 : Int32))))
else (
some ((0 : Int32)))
def fB_X11_number_70 (s0 : Int32) (I : HI) (J : HJ) : Option (HI) :=
bd1 (f_X11_needs s0 I J) fun I8 =>
some (I8)
def fB_X11_number_46 (x1 : Int32) (I : HI) (J : HJ) : Option (HI) :=
bd1 (f_X11_emits x1 I J) fun I10 =>
if (4 : Int32) < ((I10 98 21) - (I10 98 20)) then (
fB_X11_number_70 (0 : Int32) I10 J)
else (
fB_X11_number_70 (1 : Int32) I10 J)
def fLB_X11_number_7 (r_7 : Int32 → Int32 → HI → HJ → Option (HI)) (x1 : Int32) (x2 : Int32) (I : HI) (J : HJ) : Option (HI) :=
if (I 98 21) ≤ x2 then (
fB_X11_number_46 x1 I J)
else (
if ((I 98 20) + (4 : Int32)) ≤ x2 then (
fB_X11_number_46 x1 I J)
else (
if vin x2 200 = true then (
nm ((((10 : Int32) * x1) + (I 110 x2.toNatClampNeg)) - (48 : Int32)) fun v12 =>
nm (x2 + (1 : Int32)) fun v13 =>
r_7 v12 v13 I J) else none))
def fL_X11_number_7 : Nat → Int32 → Int32 → HI → HJ → Option (HI)
  | 0 => fun _ _ _ _ => none
  | f + 1 => fLB_X11_number_7 (fL_X11_number_7 f)
def f_X11_number (I : HI) (J : HJ) : Option (HI) :=
nm (I 98 20) fun v14 =>
fL_X11_number_7 FU (0 : Int32) v14 I J
def fB_X11_one_188 (g_one : HI → HJ → Option (HI)) (g_product : HI → HJ → Option (HI)) (g_sum : HI → HJ → Option (HI)) (g_compared : HI → HJ → Option (HI)) (s0 : Int32) (I : HI) (J : HJ) : Option (HI) :=
bd1 (f_X11_needs s0 I J) fun I35 =>
some (I35)
def fB_X11_one_148 (g_one : HI → HJ → Option (HI)) (g_product : HI → HJ → Option (HI)) (g_sum : HI → HJ → Option (HI)) (g_compared : HI → HJ → Option (HI)) (s0 : Int32) (I : HI) (J : HJ) : Option (HI) :=
bd1 (f_X11_needs s0 I J) fun I37 =>
nm (put I37 98 22 ((I37 98 22) - (1 : Int32))) fun I39 =>
some (I39)
def fB_X11_one_112 (g_one : HI → HJ → Option (HI)) (g_product : HI → HJ → Option (HI)) (g_sum : HI → HJ → Option (HI)) (g_compared : HI → HJ → Option (HI)) (s0 : Int32) (I : HI) (J : HJ) : Option (HI) :=
bd1 (f_X11_needs s0 I J) fun I40 =>
nm (put I40 98 22 ((I40 98 22) + (1 : Int32))) fun I42 =>
bd1 (g_compared I42 J) fun I43 =>
bd1 (f_X11_byteAt (I43 98 20) I43 J) fun r45 =>
if r45 = (41 : Int32) then (
fB_X11_one_148 g_one g_product g_sum g_compared (1 : Int32) I43 J)
else (
fB_X11_one_148 g_one g_product g_sum g_compared (0 : Int32) I43 J)
def fB_X11_one_52 (g_one : HI → HJ → Option (HI)) (g_product : HI → HJ → Option (HI)) (g_sum : HI → HJ → Option (HI)) (g_compared : HI → HJ → Option (HI)) (s0 : Int32) (I : HI) (J : HJ) : Option (HI) :=
bd1 (f_X11_needs s0 I J) fun I47 =>
nm (put I47 98 22 ((I47 98 22) + (1 : Int32))) fun I49 =>
bd1 (g_one I49 J) fun I50 =>
nm (put I50 98 22 ((I50 98 22) - (1 : Int32))) fun I52 =>
bd1 (f_X11_emits (10010 : Int32) I52 J) fun I53 =>
some (I53)
def fb_X11_one (g_one : HI → HJ → Option (HI)) (g_product : HI → HJ → Option (HI)) (g_sum : HI → HJ → Option (HI)) (g_compared : HI → HJ → Option (HI)) (I : HI) (J : HJ) : Option (HI) :=
if (I 98 25) = 0 then (
bd1 (f_X11_byteAt (I 98 20) I J) fun r55 =>
bd1 (f_X11_isDigit r55) fun r57 =>
if r57 = 0 then (
bd1 (f_X11_isSign (45 : Int32) I J) fun r59 =>
if r59 = 0 then (
bd1 (f_X11_isSign (40 : Int32) I J) fun r61 =>
if r61 = 0 then (
bd1 (f_X11_nameHere I J) fun r63 =>
bd1 (f_X11_emits ((10000 : Int32) + r63) I J) fun I65 =>
if r63 < 0 then (
fB_X11_one_188 g_one g_product g_sum g_compared (0 : Int32) I65 J)
else (
fB_X11_one_188 g_one g_product g_sum g_compared (1 : Int32) I65 J))
else (
if (4 : Int32) ≤ (I 98 22) then (
fB_X11_one_112 g_one g_product g_sum g_compared (0 : Int32) I J)
else (
fB_X11_one_112 g_one g_product g_sum g_compared (1 : Int32) I J)))
else (
if (4 : Int32) ≤ (I 98 22) then (
fB_X11_one_52 g_one g_product g_sum g_compared (0 : Int32) I J)
else (
fB_X11_one_52 g_one g_product g_sum g_compared (1 : Int32) I J)))
else (
bd1 (f_X11_number I J) fun I67 =>
some (I67)))
else (
some (I))
def fB_X11_product_77 (g_one : HI → HJ → Option (HI)) (g_product : HI → HJ → Option (HI)) (g_sum : HI → HJ → Option (HI)) (g_compared : HI → HJ → Option (HI)) (r_4 : HI → HJ → Option (HI)) (s0 : Int32) (I : HI) (J : HJ) : Option (HI) :=
bd1 (f_X11_emits s0 I J) fun I17 =>
r_4 I17 J
def fB_X11_product_31 (g_one : HI → HJ → Option (HI)) (g_product : HI → HJ → Option (HI)) (g_sum : HI → HJ → Option (HI)) (g_compared : HI → HJ → Option (HI)) (r_4 : HI → HJ → Option (HI)) (I : HI) (J : HJ) : Option (HI) :=
bd1 (f_X11_byteAt (I 98 20) I J) fun r19 =>
bd1 (f_X11_needs (1 : Int32) I J) fun I21 =>
bd1 (g_one I21 J) fun I23 =>
if r19 = (42 : Int32) then (
fB_X11_product_77 g_one g_product g_sum g_compared r_4 (10013 : Int32) I23 J)
else (
if r19 = (47 : Int32) then (
fB_X11_product_77 g_one g_product g_sum g_compared r_4 (10014 : Int32) I23 J)
else (
fB_X11_product_77 g_one g_product g_sum g_compared r_4 (10015 : Int32) I23 J))
def fLB_X11_product_4 (g_one : HI → HJ → Option (HI)) (g_product : HI → HJ → Option (HI)) (g_sum : HI → HJ → Option (HI)) (g_compared : HI → HJ → Option (HI)) (r_4 : HI → HJ → Option (HI)) (I : HI) (J : HJ) : Option (HI) :=
bd1 (f_X11_isSign (42 : Int32) I J) fun r25 =>
if r25 = 0 then (
bd1 (f_X11_isSign (47 : Int32) I J) fun r27 =>
if r27 = 0 then (
bd1 (f_X11_isSign (37 : Int32) I J) fun r29 =>
if r29 = 0 then (
some (I))
else (
fB_X11_product_31 g_one g_product g_sum g_compared r_4 I J))
else (
fB_X11_product_31 g_one g_product g_sum g_compared r_4 I J))
else (
fB_X11_product_31 g_one g_product g_sum g_compared r_4 I J)
def fL_X11_product_4 (g_one : HI → HJ → Option (HI)) (g_product : HI → HJ → Option (HI)) (g_sum : HI → HJ → Option (HI)) (g_compared : HI → HJ → Option (HI)) : Nat → HI → HJ → Option (HI)
  | 0 => fun _ _ => none
  | f + 1 => fLB_X11_product_4 g_one g_product g_sum g_compared (fL_X11_product_4 g_one g_product g_sum g_compared f)
def fb_X11_product (g_one : HI → HJ → Option (HI)) (g_product : HI → HJ → Option (HI)) (g_sum : HI → HJ → Option (HI)) (g_compared : HI → HJ → Option (HI)) (I : HI) (J : HJ) : Option (HI) :=
bd1 (g_one I J) fun I31 =>
fL_X11_product_4 g_one g_product g_sum g_compared FU I31 J
def fB_X11_sum_56 (g_one : HI → HJ → Option (HI)) (g_product : HI → HJ → Option (HI)) (g_sum : HI → HJ → Option (HI)) (g_compared : HI → HJ → Option (HI)) (r_4 : HI → HJ → Option (HI)) (s0 : Int32) (I : HI) (J : HJ) : Option (HI) :=
bd1 (f_X11_emits s0 I J) fun I15 =>
r_4 I15 J
def fB_X11_sum_22 (g_one : HI → HJ → Option (HI)) (g_product : HI → HJ → Option (HI)) (g_sum : HI → HJ → Option (HI)) (g_compared : HI → HJ → Option (HI)) (r_4 : HI → HJ → Option (HI)) (I : HI) (J : HJ) : Option (HI) :=
bd1 (f_X11_byteAt (I 98 20) I J) fun r17 =>
bd1 (f_X11_needs (1 : Int32) I J) fun I19 =>
bd1 (g_product I19 J) fun I21 =>
if r17 = (43 : Int32) then (
fB_X11_sum_56 g_one g_product g_sum g_compared r_4 (10011 : Int32) I21 J)
else (
fB_X11_sum_56 g_one g_product g_sum g_compared r_4 (10012 : Int32) I21 J)
def fLB_X11_sum_4 (g_one : HI → HJ → Option (HI)) (g_product : HI → HJ → Option (HI)) (g_sum : HI → HJ → Option (HI)) (g_compared : HI → HJ → Option (HI)) (r_4 : HI → HJ → Option (HI)) (I : HI) (J : HJ) : Option (HI) :=
bd1 (f_X11_isSign (43 : Int32) I J) fun r23 =>
if r23 = 0 then (
bd1 (f_X11_isSign (45 : Int32) I J) fun r25 =>
if r25 = 0 then (
some (I))
else (
fB_X11_sum_22 g_one g_product g_sum g_compared r_4 I J))
else (
fB_X11_sum_22 g_one g_product g_sum g_compared r_4 I J)
def fL_X11_sum_4 (g_one : HI → HJ → Option (HI)) (g_product : HI → HJ → Option (HI)) (g_sum : HI → HJ → Option (HI)) (g_compared : HI → HJ → Option (HI)) : Nat → HI → HJ → Option (HI)
  | 0 => fun _ _ => none
  | f + 1 => fLB_X11_sum_4 g_one g_product g_sum g_compared (fL_X11_sum_4 g_one g_product g_sum g_compared f)
def fb_X11_sum (g_one : HI → HJ → Option (HI)) (g_product : HI → HJ → Option (HI)) (g_sum : HI → HJ → Option (HI)) (g_compared : HI → HJ → Option (HI)) (I : HI) (J : HJ) : Option (HI) :=
bd1 (g_product I J) fun I27 =>
fL_X11_sum_4 g_one g_product g_sum g_compared FU I27 J
def fB_X11_compared_77 (g_one : HI → HJ → Option (HI)) (g_product : HI → HJ → Option (HI)) (g_sum : HI → HJ → Option (HI)) (g_compared : HI → HJ → Option (HI)) (s0 : Int32) (I : HI) (J : HJ) : Option (HI) :=
bd1 (f_X11_emits s0 I J) fun I17 =>
some (I17)
def fB_X11_compared_31 (g_one : HI → HJ → Option (HI)) (g_product : HI → HJ → Option (HI)) (g_sum : HI → HJ → Option (HI)) (g_compared : HI → HJ → Option (HI)) (I : HI) (J : HJ) : Option (HI) :=
bd1 (f_X11_byteAt (I 98 20) I J) fun r19 =>
bd1 (f_X11_needs (1 : Int32) I J) fun I21 =>
bd1 (g_sum I21 J) fun I23 =>
if r19 = (60 : Int32) then (
fB_X11_compared_77 g_one g_product g_sum g_compared (10016 : Int32) I23 J)
else (
if r19 = (61 : Int32) then (
fB_X11_compared_77 g_one g_product g_sum g_compared (10017 : Int32) I23 J)
else (
fB_X11_compared_77 g_one g_product g_sum g_compared (10018 : Int32) I23 J))
def fb_X11_compared (g_one : HI → HJ → Option (HI)) (g_product : HI → HJ → Option (HI)) (g_sum : HI → HJ → Option (HI)) (g_compared : HI → HJ → Option (HI)) (I : HI) (J : HJ) : Option (HI) :=
bd1 (g_sum I J) fun I25 =>
bd1 (f_X11_isSign (60 : Int32) I25 J) fun r27 =>
if r27 = 0 then (
bd1 (f_X11_isSign (61 : Int32) I25 J) fun r29 =>
if r29 = 0 then (
bd1 (f_X11_isSign (62 : Int32) I25 J) fun r31 =>
if r31 = 0 then (
some (I25))
else (
fB_X11_compared_31 g_one g_product g_sum g_compared I25 J))
else (
fB_X11_compared_31 g_one g_product g_sum g_compared I25 J))
else (
fB_X11_compared_31 g_one g_product g_sum g_compared I25 J)
def grp_X11_one : Nat → (HI → HJ → Option (HI)) × (HI → HJ → Option (HI)) × (HI → HJ → Option (HI)) × (HI → HJ → Option (HI))
  | 0 => (fun _ _ => none, fun _ _ => none, fun _ _ => none, fun _ _ => none)
  | d + 1 => nm (grp_X11_one d) fun q => ((fb_X11_one (q.1) (q.2.1) (q.2.2.1) (q.2.2.2)), (fb_X11_product (q.1) (q.2.1) (q.2.2.1) (q.2.2.2)), (fb_X11_sum (q.1) (q.2.1) (q.2.2.1) (q.2.2.2)), (fb_X11_compared (q.1) (q.2.1) (q.2.2.1) (q.2.2.2)))
def f_X11_one (d : Nat) : HI → HJ → Option (HI) := (grp_X11_one d).1
def f_X11_product (d : Nat) : HI → HJ → Option (HI) := (grp_X11_one d).2.1
def f_X11_sum (d : Nat) : HI → HJ → Option (HI) := (grp_X11_one d).2.2.1
def f_X11_compared (d : Nat) : HI → HJ → Option (HI) := (grp_X11_one d).2.2.2
def fB_X11_oneLaw_55 (x1 : Int32) (x2 : Int32) (s0 : Int32) (I : HI) (J : HJ) : Option (HI) :=
bd1 (f_X11_needs s0 I J) fun I15 =>
if (I15 98 25) = 0 then (
if vin x1 4 = true then (
nm (put I15 112 x1.toNatClampNeg x2) fun I17 =>
if vin x1 4 = true then (
nm (put I17 113 x1.toNatClampNeg (I17 98 23)) fun I18 =>
nm (put I18 98 24 ((I18 98 24) + (1 : Int32))) fun I19 =>
some (I19)) else none) else none)
else (
some (I15))
def fB_X11_oneLaw_29 (x1 : Int32) (x2 : Int32) (s0 : Int32) (I : HI) (J : HJ) : Option (HI) :=
bd1 (f_X11_needs s0 I J) fun I20 =>
bd1 (f_X11_compared 40 I20 J) fun I22 =>
bd1 (f_X11_byteAt (I22 98 20) I22 J) fun r24 =>
if r24 = (59 : Int32) then (
fB_X11_oneLaw_55 x1 x2 (1 : Int32) I22 J)
else (
fB_X11_oneLaw_55 x1 x2 (0 : Int32) I22 J)
def fB_X11_oneLaw_28 (x1 : Int32) (x2 : Int32) (I : HI) (J : HJ) : Option (HI) :=
fB_X11_oneLaw_29 x1 x2 (0 : Int32) I J
def f_X11_oneLaw (I : HI) (J : HJ) : Option (HI) :=
bd1 (f_X11_keyHere I J) fun r26 =>
nm (I 98 23) fun v28 =>
if r26 < 0 then (
fB_X11_oneLaw_28 r26 v28 I J)
else (
if (8 : Int32) ≤ (I 98 24) then (
fB_X11_oneLaw_28 r26 v28 I J)
else (
fB_X11_oneLaw_29 r26 v28 (1 : Int32) I J))
def fB_X11_read_246 (r_217 : Int32 → HI → HJ → Option (Int32 × HI)) (x1 : Int32) (s0 : Int32) (s1 : Int32) (s2 : Int32) (I : HI) (J : HJ) : Option (Int32 × HI) :=
if vin s2 666 = true then (
nm (put I 99 s2.toNatClampNeg (s1 + s0)) fun I22 =>
nm (x1 + (1 : Int32)) fun v23 =>
r_217 v23 I22 J) else none
def fLB_X11_read_217 (r_217 : Int32 → HI → HJ → Option (Int32 × HI)) (x1 : Int32) (I : HI) (J : HJ) : Option (Int32 × HI) :=
if (4 : Int32) ≤ x1 then (
if vin (11 : Int32) 666 = true then (
some (I 99 (11 : Int32).toNatClampNeg, I)) else none)
else (
if vin (11 : Int32) 666 = true then (
if vin x1 4 = true then (
if (I 112 x1.toNatClampNeg) < (12 : Int32) then (
fB_X11_read_246 r_217 x1 (0 : Int32) (I 99 (11 : Int32).toNatClampNeg) (11 : Int32) I J)
else (
fB_X11_read_246 r_217 x1 (1 : Int32) (I 99 (11 : Int32).toNatClampNeg) (11 : Int32) I J)) else none) else none)
def fL_X11_read_217 : Nat → Int32 → HI → HJ → Option (Int32 × HI)
  | 0 => fun _ _ _ => none
  | f + 1 => fLB_X11_read_217 (fL_X11_read_217 f)
def fLB_X11_read_158 (r_158 : Int32 → HI → HJ → Option (Int32 × HI)) (x1 : Int32) (I : HI) (J : HJ) : Option (Int32 × HI) :=
if (4 : Int32) ≤ x1 then (
if vin (11 : Int32) 666 = true then (
nm (put I 99 (11 : Int32).toNatClampNeg (0 : Int32)) fun I24 =>
fL_X11_read_217 FU (0 : Int32) I24 J) else none)
else (
if vin x1 4 = true then (
if vin ((438 : Int32) + ((2 : Int32) * x1)) 666 = true then (
nm (put I 99 ((438 : Int32) + ((2 : Int32) * x1)).toNatClampNeg (I 112 x1.toNatClampNeg)) fun I25 =>
if vin x1 4 = true then (
if vin (((438 : Int32) + ((2 : Int32) * x1)) + (1 : Int32)) 666 = true then (
nm (put I25 99 (((438 : Int32) + ((2 : Int32) * x1)) + (1 : Int32)).toNatClampNeg (I25 113 x1.toNatClampNeg)) fun I26 =>
nm (x1 + (1 : Int32)) fun v27 =>
r_158 v27 I26 J) else none) else none) else none) else none)
def fL_X11_read_158 : Nat → Int32 → HI → HJ → Option (Int32 × HI)
  | 0 => fun _ _ _ => none
  | f + 1 => fLB_X11_read_158 (fL_X11_read_158 f)
def fB_X11_read_149 (r_115 : Int32 → HI → HJ → Option (Int32 × HI)) (x1 : Int32) (s0 : Int32) (s1 : Int32) (I : HI) (J : HJ) : Option (Int32 × HI) :=
if vin s1 666 = true then (
nm (put I 99 s1.toNatClampNeg s0) fun I28 =>
nm (x1 + (1 : Int32)) fun v29 =>
r_115 v29 I28 J) else none
def fLB_X11_read_115 (r_115 : Int32 → HI → HJ → Option (Int32 × HI)) (x1 : Int32) (I : HI) (J : HJ) : Option (Int32 × HI) :=
if (220 : Int32) ≤ x1 then (
fL_X11_read_158 FU (0 : Int32) I J)
else (
if (I 98 23) ≤ x1 then (
fB_X11_read_149 r_115 x1 (0 : Int32) ((446 : Int32) + x1) I J)
else (
if vin x1 220 = true then (
fB_X11_read_149 r_115 x1 (I 111 x1.toNatClampNeg) ((446 : Int32) + x1) I J) else none))
def fL_X11_read_115 : Nat → Int32 → HI → HJ → Option (Int32 × HI)
  | 0 => fun _ _ _ => none
  | f + 1 => fLB_X11_read_115 (fL_X11_read_115 f)
def fB_X11_read_92 (I : HI) (J : HJ) : Option (Int32 × HI) :=
nm (put I 98 19 (0 : Int32)) fun I30 =>
if (I30 98 25) = 0 then (
fL_X11_read_115 FU (12 : Int32) I30 J)
else (
some ((-100 : Int32) - (I30 98 20), I30))
def fLB_X11_read_67 (r_67 : HI → HJ → Option (Int32 × HI)) (I : HI) (J : HJ) : Option (Int32 × HI) :=
if (I 98 25) = 0 then (
if (I 98 19) ≤ (I 98 20) then (
fB_X11_read_92 I J)
else (
bd1 (f_X11_oneLaw I J) fun I31 =>
r_67 I31 J))
else (
fB_X11_read_92 I J)
def fL_X11_read_67 : Nat → HI → HJ → Option (Int32 × HI)
  | 0 => fun _ _ => none
  | f + 1 => fLB_X11_read_67 (fL_X11_read_67 f)
def fLB_X11_read_28 (r_28 : Int32 → HI → HJ → Option (Int32 × HI)) (x1 : Int32) (I : HI) (J : HJ) : Option (Int32 × HI) :=
if (4 : Int32) ≤ x1 then (
bd1 (f_X11_next I J) fun I33 =>
fL_X11_read_67 FU I33 J)
else (
if vin x1 4 = true then (
if vin x1 4 = true then (
nm (put I 112 x1.toNatClampNeg (I 104 x1.toNatClampNeg)) fun I35 =>
if vin x1 4 = true then (
if vin x1 4 = true then (
nm (put I35 113 x1.toNatClampNeg (I35 105 x1.toNatClampNeg)) fun I36 =>
nm (x1 + (1 : Int32)) fun v37 =>
r_28 v37 I36 J) else none) else none) else none) else none)
def fL_X11_read_28 : Nat → Int32 → HI → HJ → Option (Int32 × HI)
  | 0 => fun _ _ _ => none
  | f + 1 => fLB_X11_read_28 (fL_X11_read_28 f)
def f_X11_read (I : HI) (J : HJ) : Option (Int32 × HI) :=
nm (put I 98 21 (0 : Int32)) fun I38 =>
nm (put I38 98 22 (0 : Int32)) fun I39 =>
nm (put I39 98 23 (12 : Int32)) fun I40 =>
nm (put I40 98 24 (0 : Int32)) fun I41 =>
nm (put I41 98 25 (0 : Int32)) fun I42 =>
fL_X11_read_28 FU (0 : Int32) I42 J
def f_X11_says (a0 : Int32) (I : HI) (J : HJ) : Option (Int32 × HI × HJ) :=
bd1 (f_X11_in (a0.toInt64) (0 : Int64) (3 : Int64)) fun r9 =>
if r9 = 0 then (
some ((0 : Int32), I, J))
else (
bd2 (f_X11_opens I J) fun I11 J12 =>
bd2 (f_X11_worth a0 I11 J12) fun r14 I15 =>
some (r14, I15, J12))
def fLB_X11_looks_13 (r_13 : Int32 → HI → HJ → Option (HI)) (x1 : Int32) (I : HI) (J : HJ) : Option (HI) :=
if (I 98 27) ≤ x1 then (
some (I))
else (
if vin ((12 : Int32) + x1) 666 = true then (
if vin x1 60 = true then (
nm (put I 114 x1.toNatClampNeg (I 99 ((12 : Int32) + x1).toNatClampNeg)) fun I4 =>
nm (x1 + (1 : Int32)) fun v5 =>
r_13 v5 I4 J) else none) else none)
def fL_X11_looks_13 : Nat → Int32 → HI → HJ → Option (HI)
  | 0 => fun _ _ _ => none
  | f + 1 => fLB_X11_looks_13 (fL_X11_looks_13 f)
def f_X11_looks (I : HI) (J : HJ) : Option (HI) :=
if vin (9 : Int32) 666 = true then (
nm (put I 98 27 (I 99 (9 : Int32).toNatClampNeg)) fun I6 =>
fL_X11_looks_13 FU (0 : Int32) I6 J) else none
def fLB_X11_looksAtTrial_10 (r_10 : Int32 → HI → HJ → Option (HI)) (x1 : Int32) (I : HI) (J : HJ) : Option (HI) :=
if (I 98 11) ≤ x1 then (
some (I))
else (
if vin x1 60 = true then (
if vin x1 60 = true then (
nm (put I 114 x1.toNatClampNeg (I 107 x1.toNatClampNeg)) fun I4 =>
nm (x1 + (1 : Int32)) fun v5 =>
r_10 v5 I4 J) else none) else none)
def fL_X11_looksAtTrial_10 : Nat → Int32 → HI → HJ → Option (HI)
  | 0 => fun _ _ _ => none
  | f + 1 => fLB_X11_looksAtTrial_10 (fL_X11_looksAtTrial_10 f)
def f_X11_looksAtTrial (I : HI) (J : HJ) : Option (HI) :=
nm (put I 98 27 (I 98 11)) fun I6 =>
fL_X11_looksAtTrial_10 FU (0 : Int32) I6 J
def fLB_X11_looksAtRecord_18 (a0 : Int32) (r_18 : Int32 → HI → HJ → Option (HI)) (x2 : Int32) (I : HI) (J : HJ) : Option (HI) :=
if (I 98 27) ≤ x2 then (
some (I))
else (
if vin ((((72 : Int32) + ((61 : Int32) * a0)) + (1 : Int32)) + x2) 666 = true then (
if vin x2 60 = true then (
nm (put I 114 x2.toNatClampNeg (I 99 ((((72 : Int32) + ((61 : Int32) * a0)) + (1 : Int32)) + x2).toNatClampNeg)) fun I4 =>
nm (x2 + (1 : Int32)) fun v5 =>
r_18 v5 I4 J) else none) else none)
def fL_X11_looksAtRecord_18 (a0 : Int32) : Nat → Int32 → HI → HJ → Option (HI)
  | 0 => fun _ _ _ => none
  | f + 1 => fLB_X11_looksAtRecord_18 a0 (fL_X11_looksAtRecord_18 a0 f)
def f_X11_looksAtRecord (a0 : Int32) (I : HI) (J : HJ) : Option (HI) :=
if vin ((72 : Int32) + ((61 : Int32) * a0)) 666 = true then (
nm (put I 98 27 (I 99 ((72 : Int32) + ((61 : Int32) * a0)).toNatClampNeg)) fun I6 =>
fL_X11_looksAtRecord_18 a0 FU (0 : Int32) I6 J) else none
def fB_X11_comesBy_45 (a0 : Int32) (r_11 : Int32 → Int32 → HI → HJ → Option (Int32)) (x3 : Int32) (s0 : Int32) (I : HI) (J : HJ) : Option (Int32) :=
nm (x3 + (1 : Int32)) fun v3 =>
r_11 s0 v3 I J
def fB_X11_comesBy_44 (a0 : Int32) (r_11 : Int32 → Int32 → HI → HJ → Option (Int32)) (x3 : Int32) (I : HI) (J : HJ) : Option (Int32) :=
fB_X11_comesBy_45 a0 r_11 x3 (0 : Int32) I J
def fLB_X11_comesBy_11 (a0 : Int32) (r_11 : Int32 → Int32 → HI → HJ → Option (Int32)) (x2 : Int32) (x3 : Int32) (I : HI) (J : HJ) : Option (Int32) :=
if (I 98 27) ≤ x3 then (
if zb x2 = true then some (x2) else none)
else (
if x2 = 0 then (
fB_X11_comesBy_44 a0 r_11 x3 I J)
else (
if vin x3 60 = true then (
if vin (x3 - a0) 60 = true then (
if (I 114 x3.toNatClampNeg) = (I 114 (x3 - a0).toNatClampNeg) then (
fB_X11_comesBy_45 a0 r_11 x3 (1 : Int32) I J)
else (
fB_X11_comesBy_44 a0 r_11 x3 I J)) else none) else none))
def fL_X11_comesBy_11 (a0 : Int32) : Nat → Int32 → Int32 → HI → HJ → Option (Int32)
  | 0 => fun _ _ _ _ => none
  | f + 1 => fLB_X11_comesBy_11 a0 (fL_X11_comesBy_11 a0 f)
def f_X11_comesBy (a0 : Int32) (I : HI) (J : HJ) : Option (Int32) :=
nm (((I 98 27) / (2 : Int32)) + a0) fun v4 =>
fL_X11_comesBy_11 a0 FU (1 : Int32) v4 I J
def fB_X11_periodOf_46 (r_29 : Int32 → Int32 → HI → HJ → Option (Int32)) (x3 : Int32) (s0 : Int32) (I : HI) (J : HJ) : Option (Int32) :=
nm (x3 + (-1 : Int32)) fun v5 =>
r_29 s0 v5 I J
def fLB_X11_periodOf_29 (r_29 : Int32 → Int32 → HI → HJ → Option (Int32)) (x2 : Int32) (x3 : Int32) (I : HI) (J : HJ) : Option (Int32) :=
if x3 ≤ 0 then (
some (x2))
else (
bd1 (f_X11_comesBy x3 I J) fun r6 =>
if r6 = 0 then (
fB_X11_periodOf_46 r_29 x3 x2 I J)
else (
fB_X11_periodOf_46 r_29 x3 x3 I J))
def fL_X11_periodOf_29 : Nat → Int32 → Int32 → HI → HJ → Option (Int32)
  | 0 => fun _ _ _ _ => none
  | f + 1 => fLB_X11_periodOf_29 (fL_X11_periodOf_29 f)
def fB_X11_periodOf_28 (x2 : Int32) (s0 : Int32) (I : HI) (J : HJ) : Option (Int32) :=
fL_X11_periodOf_29 FU x2 s0 I J
def f_X11_periodOf (I : HI) (J : HJ) : Option (Int32) :=
nm (((I 98 27) - ((I 98 27) / (2 : Int32))) / (2 : Int32)) fun v8 =>
if (8 : Int32) ≤ v8 then (
fB_X11_periodOf_28 (0 : Int32) (8 : Int32) I J)
else (
fB_X11_periodOf_28 (0 : Int32) v8 I J)
def f_X11_kindOf (I : HI) (J : HJ) : Option (Int32) :=
bd1 (f_X11_periodOf I J) fun r3 =>
if (I 98 27) = 0 then (
some ((6 : Int32)))
else (
if r3 = (1 : Int32) then (
some ((1 : Int32)))
else (
if r3 = (2 : Int32) then (
some ((2 : Int32)))
else (
if r3 = (3 : Int32) then (
some ((4 : Int32)))
else (
if r3 = (4 : Int32) then (
some ((3 : Int32)))
else (
some ((5 : Int32)))))))
def f_X11_tell (a0 : Int32) (I : HI) (J : HJ) : Option (Int32 × HI) :=
bd1 (f_X11_in (a0.toInt64) (1 : Int64) (9999 : Int64)) fun r5 =>
if r5 = 0 then (
some ((-1 : Int32), I))
else (
if vin (9 : Int32) 666 = true then (
if (I 99 (9 : Int32).toNatClampNeg) = (60 : Int32) then (
some ((-2 : Int32), I))
else (
if vin (9 : Int32) 666 = true then (
if vin ((12 : Int32) + (I 99 (9 : Int32).toNatClampNeg)) 666 = true then (
nm (put I 99 ((12 : Int32) + (I 99 (9 : Int32).toNatClampNeg)).toNatClampNeg a0) fun I7 =>
if vin (9 : Int32) 666 = true then (
if vin (9 : Int32) 666 = true then (
nm (put I7 99 (9 : Int32).toNatClampNeg ((I7 99 (9 : Int32).toNatClampNeg) + (1 : Int32))) fun I8 =>
if vin (9 : Int32) 666 = true then (
some (I8 99 (9 : Int32).toNatClampNeg, I8)) else none) else none) else none) else none) else none)) else none)
def f_X11_clear (I : HI) (J : HJ) : Option (Int32 × HI) :=
if vin (9 : Int32) 666 = true then (
nm (I 99 (9 : Int32).toNatClampNeg) fun v3 =>
if vin (9 : Int32) 666 = true then (
nm (put I 99 (9 : Int32).toNatClampNeg (0 : Int32)) fun I4 =>
some (v3, I4)) else none) else none
def f_X11_time (a0 : Int32) (I : HI) (J : HJ) : Option (Int32) :=
if vin (9 : Int32) 666 = true then (
bd1 (f_X11_in (a0.toInt64) (0 : Int64) (((I 99 (9 : Int32).toNatClampNeg) - (1 : Int32)).toInt64)) fun r3 =>
if r3 = 0 then (
some ((-3 : Int32)))
else (
if vin ((12 : Int32) + a0) 666 = true then (
some (I 99 ((12 : Int32) + a0).toNatClampNeg)) else none)) else none
def f_X11_period (I : HI) (J : HJ) : Option (Int32 × HI) :=
bd1 (f_X11_looks I J) fun I5 =>
bd1 (f_X11_periodOf I5 J) fun r7 =>
some (r7, I5)
def f_X11_kind (I : HI) (J : HJ) : Option (Int32 × HI) :=
bd1 (f_X11_looks I J) fun I5 =>
bd1 (f_X11_kindOf I5 J) fun r7 =>
some (r7, I5)
def f_X11_off (a0 : Int32) (a1 : Int32) : Option (Int32) :=
if a1 ≤ a0 then (
some (a0 - a1))
else (
some (a1 - a0))
def fB_X11_isOrder_95 (a0 : Int32) (r_4 : Int32 → Int32 → HI → HJ → Option (Int32)) (r_17 : Int32 → Int32 → Int32 → HI → HJ → Option (Int32)) (x3 : Int32) (x4 : Int32) (s0 : Int32) (I : HI) (J : HJ) : Option (Int32) :=
nm (x4 + (1 : Int32)) fun v4 =>
r_17 s0 x3 v4 I J
def fB_X11_isOrder_94 (a0 : Int32) (r_4 : Int32 → Int32 → HI → HJ → Option (Int32)) (r_17 : Int32 → Int32 → Int32 → HI → HJ → Option (Int32)) (x3 : Int32) (x4 : Int32) (I : HI) (J : HJ) : Option (Int32) :=
fB_X11_isOrder_95 a0 r_4 r_17 x3 x4 (0 : Int32) I J
def fB_X11_isOrder_90 (a0 : Int32) (r_4 : Int32 → Int32 → HI → HJ → Option (Int32)) (r_17 : Int32 → Int32 → Int32 → HI → HJ → Option (Int32)) (x3 : Int32) (x4 : Int32) (I : HI) (J : HJ) : Option (Int32) :=
fB_X11_isOrder_95 a0 r_4 r_17 x3 x4 (1 : Int32) I J
def fB_X11_isOrder_60 (a0 : Int32) (r_4 : Int32 → Int32 → HI → HJ → Option (Int32)) (r_17 : Int32 → Int32 → Int32 → HI → HJ → Option (Int32)) (x2 : Int32) (x3 : Int32) (x4 : Int32) (x5 : Int32) (I : HI) (J : HJ) : Option (Int32) :=
if x2 = 0 then (
fB_X11_isOrder_94 a0 r_4 r_17 x3 x4 I J)
else (
if x5 < a0 then (
fB_X11_isOrder_90 a0 r_4 r_17 x3 x4 I J)
else (
if vin (x3 + a0) 60 = true then (
if vin (x4 + a0) 60 = true then (
if (I 114 (x3 + a0).toNatClampNeg) = (I 114 (x4 + a0).toNatClampNeg) then (
fB_X11_isOrder_90 a0 r_4 r_17 x3 x4 I J)
else (
fB_X11_isOrder_94 a0 r_4 r_17 x3 x4 I J)) else none) else none))
def fLB_X11_isOrder_26 (a0 : Int32) (r_4 : Int32 → Int32 → HI → HJ → Option (Int32)) (r_17 : Int32 → Int32 → Int32 → HI → HJ → Option (Int32)) (r_26 : Int32 → Int32 → Int32 → Int32 → HI → HJ → Option (Int32)) (x2 : Int32) (x3 : Int32) (x4 : Int32) (x5 : Int32) (I : HI) (J : HJ) : Option (Int32) :=
if a0 ≤ x5 then (
fB_X11_isOrder_60 a0 r_4 r_17 x2 x3 x4 x5 I J)
else (
if vin (x3 + x5) 60 = true then (
if vin (x4 + x5) 60 = true then (
if (I 114 (x3 + x5).toNatClampNeg) = (I 114 (x4 + x5).toNatClampNeg) then (
nm (x5 + (1 : Int32)) fun v5 =>
r_26 x2 x3 x4 v5 I J)
else (
fB_X11_isOrder_60 a0 r_4 r_17 x2 x3 x4 x5 I J)) else none) else none)
def fL_X11_isOrder_26 (a0 : Int32) (r_4 : Int32 → Int32 → HI → HJ → Option (Int32)) (r_17 : Int32 → Int32 → Int32 → HI → HJ → Option (Int32)) : Nat → Int32 → Int32 → Int32 → Int32 → HI → HJ → Option (Int32)
  | 0 => fun _ _ _ _ _ _ => none
  | f + 1 => fLB_X11_isOrder_26 a0 r_4 r_17 (fL_X11_isOrder_26 a0 r_4 r_17 f)
def fLB_X11_isOrder_17 (a0 : Int32) (r_4 : Int32 → Int32 → HI → HJ → Option (Int32)) (r_17 : Int32 → Int32 → Int32 → HI → HJ → Option (Int32)) (x2 : Int32) (x3 : Int32) (x4 : Int32) (I : HI) (J : HJ) : Option (Int32) :=
if x3 ≤ x4 then (
nm (x3 + (1 : Int32)) fun v6 =>
r_4 x2 v6 I J)
else (
fL_X11_isOrder_26 a0 r_4 r_17 FU x2 x3 x4 (0 : Int32) I J)
def fL_X11_isOrder_17 (a0 : Int32) (r_4 : Int32 → Int32 → HI → HJ → Option (Int32)) : Nat → Int32 → Int32 → Int32 → HI → HJ → Option (Int32)
  | 0 => fun _ _ _ _ _ => none
  | f + 1 => fLB_X11_isOrder_17 a0 r_4 (fL_X11_isOrder_17 a0 r_4 f)
def fLB_X11_isOrder_4 (a0 : Int32) (r_4 : Int32 → Int32 → HI → HJ → Option (Int32)) (x2 : Int32) (x3 : Int32) (I : HI) (J : HJ) : Option (Int32) :=
if (I 98 27) ≤ (x3 + a0) then (
if zb x2 = true then some (x2) else none)
else (
fL_X11_isOrder_17 a0 r_4 FU x2 x3 (0 : Int32) I J)
def fL_X11_isOrder_4 (a0 : Int32) : Nat → Int32 → Int32 → HI → HJ → Option (Int32)
  | 0 => fun _ _ _ _ => none
  | f + 1 => fLB_X11_isOrder_4 a0 (fL_X11_isOrder_4 a0 f)
def f_X11_isOrder (a0 : Int32) (I : HI) (J : HJ) : Option (Int32) :=
fL_X11_isOrder_4 a0 FU (1 : Int32) (0 : Int32) I J
def fB_X11_order_25 (r_8 : Int32 → Int32 → HI → HJ → Option (Int32 × HI)) (x2 : Int32) (s0 : Int32) (I : HI) (J : HJ) : Option (Int32 × HI) :=
nm (x2 + (-1 : Int32)) fun v6 =>
r_8 s0 v6 I J
def fLB_X11_order_8 (r_8 : Int32 → Int32 → HI → HJ → Option (Int32 × HI)) (x1 : Int32) (x2 : Int32) (I : HI) (J : HJ) : Option (Int32 × HI) :=
if x2 ≤ 0 then (
some (x1, I))
else (
bd1 (f_X11_isOrder x2 I J) fun r7 =>
if r7 = 0 then (
fB_X11_order_25 r_8 x2 x1 I J)
else (
fB_X11_order_25 r_8 x2 x2 I J))
def fL_X11_order_8 : Nat → Int32 → Int32 → HI → HJ → Option (Int32 × HI)
  | 0 => fun _ _ _ _ => none
  | f + 1 => fLB_X11_order_8 (fL_X11_order_8 f)
def f_X11_order (I : HI) (J : HJ) : Option (Int32 × HI) :=
bd1 (f_X11_looks I J) fun I9 =>
fL_X11_order_8 FU (0 : Int32) (4 : Int32) I9 J
def fB_X11_toldFrom_60 (a0 : Int32) (a1 : Int32) (r_10 : Int32 → Int32 → HI → HJ → Option (Int32)) (r_22 : Int32 → Int32 → Int32 → Int32 → HI → HJ → Option (Int32)) (x3 : Int32) (x4 : Int32) (x6 : Int32) (s0 : Int32) (I : HI) (J : HJ) : Option (Int32) :=
nm (x6 + (1 : Int32)) fun v9 =>
r_22 x3 x4 s0 v9 I J
def fLB_X11_toldFrom_22 (a0 : Int32) (a1 : Int32) (r_10 : Int32 → Int32 → HI → HJ → Option (Int32)) (r_22 : Int32 → Int32 → Int32 → Int32 → HI → HJ → Option (Int32)) (x3 : Int32) (x4 : Int32) (x5 : Int32) (x6 : Int32) (I : HI) (J : HJ) : Option (Int32) :=
if a0 ≤ x6 then (
if vin (x5 + (1 : Int32)) 60 = true then (
nm (I 114 (x5 + (1 : Int32)).toNatClampNeg) fun v10 =>
nm (x4 + (1 : Int32)) fun v11 =>
r_10 v10 v11 I J) else none)
else (
if vin x6 60 = true then (
bd1 (f_X11_off (I 114 x6.toNatClampNeg) x3) fun r12 =>
if vin x5 60 = true then (
bd1 (f_X11_off (I 114 x5.toNatClampNeg) x3) fun r14 =>
if r14 < r12 then (
fB_X11_toldFrom_60 a0 a1 r_10 r_22 x3 x4 x6 x5 I J)
else (
fB_X11_toldFrom_60 a0 a1 r_10 r_22 x3 x4 x6 x6 I J)) else none) else none)
def fL_X11_toldFrom_22 (a0 : Int32) (a1 : Int32) (r_10 : Int32 → Int32 → HI → HJ → Option (Int32)) : Nat → Int32 → Int32 → Int32 → Int32 → HI → HJ → Option (Int32)
  | 0 => fun _ _ _ _ _ _ => none
  | f + 1 => fLB_X11_toldFrom_22 a0 a1 r_10 (fL_X11_toldFrom_22 a0 a1 r_10 f)
def fLB_X11_toldFrom_10 (a0 : Int32) (a1 : Int32) (r_10 : Int32 → Int32 → HI → HJ → Option (Int32)) (x3 : Int32) (x4 : Int32) (I : HI) (J : HJ) : Option (Int32) :=
if a1 ≤ x4 then (
some (x3))
else (
fL_X11_toldFrom_22 a0 a1 r_10 FU x3 x4 (0 : Int32) (1 : Int32) I J)
def fL_X11_toldFrom_10 (a0 : Int32) (a1 : Int32) : Nat → Int32 → Int32 → HI → HJ → Option (Int32)
  | 0 => fun _ _ _ _ => none
  | f + 1 => fLB_X11_toldFrom_10 a0 a1 (fL_X11_toldFrom_10 a0 a1 f)
def f_X11_toldFrom (a0 : Int32) (a1 : Int32) (I : HI) (J : HJ) : Option (Int32) :=
if vin a0 60 = true then (
nm (I 114 a0.toNatClampNeg) fun v16 =>
fL_X11_toldFrom_10 a0 a1 FU v16 (0 : Int32) I J) else none
def fB_X11_hits_75 (a0 : Int32) (a1 : Int32) (r_35 : Int32 → Int32 → HI → HJ → Option (Int32 × HI)) (x4 : Int32) (s0 : Int32) (s1 : Int32) (I : HI) (J : HJ) : Option (Int32 × HI) :=
nm (s1 + s0) fun v13 =>
nm (x4 + (1 : Int32)) fun v14 =>
r_35 v13 v14 I J
def fLB_X11_hits_35 (a0 : Int32) (a1 : Int32) (r_35 : Int32 → Int32 → HI → HJ → Option (Int32 × HI)) (x3 : Int32) (x4 : Int32) (I : HI) (J : HJ) : Option (Int32 × HI) :=
if (I 98 27) ≤ (x4 + a0) then (
some (x3, I))
else (
bd1 (f_X11_toldFrom x4 a0 I J) fun r15 =>
if vin (x4 + a0) 60 = true then (
bd1 (f_X11_off r15 (I 114 (x4 + a0).toNatClampNeg)) fun r17 =>
if a1 < r17 then (
fB_X11_hits_75 a0 a1 r_35 x4 (0 : Int32) x3 I J)
else (
fB_X11_hits_75 a0 a1 r_35 x4 (1 : Int32) x3 I J)) else none)
def fL_X11_hits_35 (a0 : Int32) (a1 : Int32) : Nat → Int32 → Int32 → HI → HJ → Option (Int32 × HI)
  | 0 => fun _ _ _ _ => none
  | f + 1 => fLB_X11_hits_35 a0 a1 (fL_X11_hits_35 a0 a1 f)
def f_X11_hits (a0 : Int32) (a1 : Int32) (I : HI) (J : HJ) : Option (Int32 × HI) :=
bd1 (f_X11_in (a0.toInt64) (1 : Int64) (9 : Int64)) fun r19 =>
if r19 = 0 then (
some ((-1 : Int32), I))
else (
bd1 (f_X11_in (a1.toInt64) (0 : Int64) (9999 : Int64)) fun r21 =>
if r21 = 0 then (
some ((-1 : Int32), I))
else (
bd1 (f_X11_looks I J) fun I23 =>
fL_X11_hits_35 a0 a1 FU (0 : Int32) (1 : Int32) I23 J))
def f_X11_ahead (a0 : Int32) (I : HI) (J : HJ) : Option (Int32 × HI) :=
bd1 (f_X11_in (a0.toInt64) (1 : Int64) (9 : Int64)) fun r7 =>
if r7 = 0 then (
some ((-1 : Int32), I))
else (
bd1 (f_X11_looks I J) fun I9 =>
if (2 : Int32) ≤ (I9 98 27) then (
bd1 (f_X11_toldFrom ((I9 98 27) - (1 : Int32)) a0 I9 J) fun r11 =>
some (r11, I9))
else (
some ((-3 : Int32), I9)))
def fLB_X11_divisor_4 (a0 : Int32) (a1 : Int32) (r_4 : Int32 → Int32 → Option (Int32)) (x2 : Int32) (x3 : Int32) : Option (Int32) :=
if x3 ≤ 0 then (
some (x2))
else (
if x3 = 0 then none else
nm (jrem x2 x3) fun v2 =>
r_4 x3 v2)
def fL_X11_divisor_4 (a0 : Int32) (a1 : Int32) : Nat → Int32 → Int32 → Option (Int32)
  | 0 => fun _ _ => none
  | f + 1 => fLB_X11_divisor_4 a0 a1 (fL_X11_divisor_4 a0 a1 f)
def f_X11_divisor (a0 : Int32) (a1 : Int32) : Option (Int32) :=
fL_X11_divisor_4 a0 a1 FU a0 a1
def fB_X11_rule_116 (a0 : Int32) (a1 : Int32) (r_36 : Int32 → Int32 → Int32 → HI → HJ → Option (Int32 × HI)) (r_50 : Int32 → Int32 → Int32 → Int32 → HI → HJ → Option (Int32 × HI)) (x3 : Int32) (x4 : Int32) (x5 : Int32) (x6 : Int32) (I : HI) (J : HJ) : Option (Int32 × HI) :=
nm (x6 + (1 : Int32)) fun v17 =>
r_50 x3 x4 x5 v17 I J
def fB_X11_rule_113 (a0 : Int32) (a1 : Int32) (r_36 : Int32 → Int32 → Int32 → HI → HJ → Option (Int32 × HI)) (r_50 : Int32 → Int32 → Int32 → Int32 → HI → HJ → Option (Int32 × HI)) (x3 : Int32) (x5 : Int32) (x6 : Int32) (s0 : Int32) (s1 : Int32) (I : HI) (J : HJ) : Option (Int32 × HI) :=
nm (s1 + s0) fun v18 =>
fB_X11_rule_116 a0 a1 r_36 r_50 x3 v18 x5 x6 I J
def fLB_X11_rule_50 (a0 : Int32) (a1 : Int32) (r_36 : Int32 → Int32 → Int32 → HI → HJ → Option (Int32 × HI)) (r_50 : Int32 → Int32 → Int32 → Int32 → HI → HJ → Option (Int32 × HI)) (x3 : Int32) (x4 : Int32) (x5 : Int32) (x6 : Int32) (I : HI) (J : HJ) : Option (Int32 × HI) :=
if x5 ≤ x6 then (
nm (x5 + (1 : Int32)) fun v19 =>
r_36 x3 x4 v19 I J)
else (
if vin x6 60 = true then (
if vin x5 60 = true then (
bd1 (f_X11_off (I 114 x6.toNatClampNeg) (I 114 x5.toNatClampNeg)) fun r20 =>
if a0 < r20 then (
fB_X11_rule_116 a0 a1 r_36 r_50 x3 x4 x5 x6 I J)
else (
nm (x3 + (1 : Int32)) fun v22 =>
if vin (x6 + (1 : Int32)) 60 = true then (
if vin (x5 + (1 : Int32)) 60 = true then (
bd1 (f_X11_off (I 114 (x6 + (1 : Int32)).toNatClampNeg) (I 114 (x5 + (1 : Int32)).toNatClampNeg)) fun r23 =>
if a0 < r23 then (
fB_X11_rule_113 a0 a1 r_36 r_50 v22 x5 x6 (0 : Int32) x4 I J)
else (
fB_X11_rule_113 a0 a1 r_36 r_50 v22 x5 x6 (1 : Int32) x4 I J)) else none) else none)) else none) else none)
def fL_X11_rule_50 (a0 : Int32) (a1 : Int32) (r_36 : Int32 → Int32 → Int32 → HI → HJ → Option (Int32 × HI)) : Nat → Int32 → Int32 → Int32 → Int32 → HI → HJ → Option (Int32 × HI)
  | 0 => fun _ _ _ _ _ _ => none
  | f + 1 => fLB_X11_rule_50 a0 a1 r_36 (fL_X11_rule_50 a0 a1 r_36 f)
def fLB_X11_rule_36 (a0 : Int32) (a1 : Int32) (r_36 : Int32 → Int32 → Int32 → HI → HJ → Option (Int32 × HI)) (x3 : Int32) (x4 : Int32) (x5 : Int32) (I : HI) (J : HJ) : Option (Int32 × HI) :=
if (I 98 27) ≤ (x5 + (1 : Int32)) then (
if x3 = 0 then (
some ((-3 : Int32), I))
else (
bd1 (f_X11_divisor x4 x3) fun r25 =>
if a1 = 0 then (
if r25 = 0 then none else
some (x4 / r25, I))
else (
if r25 = 0 then none else
some (x3 / r25, I))))
else (
fL_X11_rule_50 a0 a1 r_36 FU x3 x4 x5 (0 : Int32) I J)
def fL_X11_rule_36 (a0 : Int32) (a1 : Int32) : Nat → Int32 → Int32 → Int32 → HI → HJ → Option (Int32 × HI)
  | 0 => fun _ _ _ _ _ => none
  | f + 1 => fLB_X11_rule_36 a0 a1 (fL_X11_rule_36 a0 a1 f)
def f_X11_rule (a0 : Int32) (a1 : Int32) (I : HI) (J : HJ) : Option (Int32 × HI) :=
bd1 (f_X11_in (a0.toInt64) (0 : Int64) (9999 : Int64)) fun r27 =>
if r27 = 0 then (
some ((-1 : Int32), I))
else (
bd1 (f_X11_in (a1.toInt64) (0 : Int64) (1 : Int64)) fun r29 =>
if r29 = 0 then (
some ((-1 : Int32), I))
else (
bd1 (f_X11_looks I J) fun I31 =>
fL_X11_rule_36 a0 a1 FU (0 : Int32) (0 : Int32) (1 : Int32) I31 J))
def f_X11_drift (a0 : Int32) (I : HI) (J : HJ) : Option (Int32 × HI) :=
bd1 (f_X11_looks I J) fun I5 =>
if (I5 98 27) < (2 : Int32) then (
some ((-3 : Int32), I5))
else (
bd1 (f_X11_in (a0.toInt64) (0 : Int64) (((I5 98 27) - (1 : Int32)).toInt64)) fun r7 =>
if r7 = 0 then (
some ((-3 : Int32), I5))
else (
if vin a0 60 = true then (
if vin (0 : Int32) 60 = true then (
if vin ((I5 98 27) - (1 : Int32)) 60 = true then (
if vin (0 : Int32) 60 = true then (
if ((I5 98 27) - (1 : Int32)) = 0 then none else
some ((((I5 114 a0.toNatClampNeg) - (I5 114 (0 : Int32).toNatClampNeg)) - ((((I5 114 ((I5 98 27) - (1 : Int32)).toNatClampNeg) - (I5 114 (0 : Int32).toNatClampNeg)) * a0) / ((I5 98 27) - (1 : Int32)))) + (20000 : Int32), I5)) else none) else none) else none) else none))
def fB_X11_span_102 (a0 : Int32) (r_48 : Int32 → Int32 → Int32 → Int32 → HI → HJ → Option (Int32 × HI)) (x2 : Int32) (x4 : Int32) (x5 : Int32) (s0 : Int32) (I : HI) (J : HJ) : Option (Int32 × HI) :=
if vin x5 60 = true then (
nm (x4 + (I 114 x5.toNatClampNeg)) fun v9 =>
nm (x5 + (1 : Int32)) fun v10 =>
r_48 x2 s0 v9 v10 I J) else none
def fB_X11_span_79 (a0 : Int32) (r_48 : Int32 → Int32 → Int32 → Int32 → HI → HJ → Option (Int32 × HI)) (x3 : Int32) (x4 : Int32) (x5 : Int32) (s0 : Int32) (I : HI) (J : HJ) : Option (Int32 × HI) :=
if vin x5 60 = true then (
if (I 114 x5.toNatClampNeg) ≤ x3 then (
fB_X11_span_102 a0 r_48 s0 x4 x5 x3 I J)
else (
if vin x5 60 = true then (
fB_X11_span_102 a0 r_48 s0 x4 x5 (I 114 x5.toNatClampNeg) I J) else none)) else none
def fLB_X11_span_48 (a0 : Int32) (r_48 : Int32 → Int32 → Int32 → Int32 → HI → HJ → Option (Int32 × HI)) (x2 : Int32) (x3 : Int32) (x4 : Int32) (x5 : Int32) (I : HI) (J : HJ) : Option (Int32 × HI) :=
if (I 98 27) ≤ x5 then (
if a0 = 0 then (
some (x2, I))
else (
if a0 = (1 : Int32) then (
some (x3, I))
else (
some (x4, I))))
else (
if vin x5 60 = true then (
if x2 ≤ (I 114 x5.toNatClampNeg) then (
fB_X11_span_79 a0 r_48 x3 x4 x5 x2 I J)
else (
if vin x5 60 = true then (
fB_X11_span_79 a0 r_48 x3 x4 x5 (I 114 x5.toNatClampNeg) I J) else none)) else none)
def fL_X11_span_48 (a0 : Int32) : Nat → Int32 → Int32 → Int32 → Int32 → HI → HJ → Option (Int32 × HI)
  | 0 => fun _ _ _ _ _ _ => none
  | f + 1 => fLB_X11_span_48 a0 (fL_X11_span_48 a0 f)
def f_X11_span (a0 : Int32) (I : HI) (J : HJ) : Option (Int32 × HI) :=
bd1 (f_X11_in (a0.toInt64) (0 : Int64) (2 : Int64)) fun r11 =>
if r11 = 0 then (
some ((-1 : Int32), I))
else (
bd1 (f_X11_looks I J) fun I13 =>
if (I13 98 27) = 0 then (
some ((-3 : Int32), I13))
else (
if vin (0 : Int32) 60 = true then (
nm (I13 114 (0 : Int32).toNatClampNeg) fun v15 =>
if vin (0 : Int32) 60 = true then (
nm (I13 114 (0 : Int32).toNatClampNeg) fun v16 =>
fL_X11_span_48 a0 FU v15 v16 (0 : Int32) (0 : Int32) I13 J) else none) else none))
def f_X11_gridOf (a0 : Int32) (I : HI) (J : HJ) : Option (Int32 × HI × HJ) :=
bd2 (f_X11_opens I J) fun I12 J13 =>
if vin (6 : Int32) 9 = true then (
nm (put I12 106 (6 : Int32).toNatClampNeg a0) fun I15 =>
bd2 (f_X11_trial (400 : Int32) I15 J13) fun I16 J17 =>
bd1 (f_X11_looksAtTrial I16 J17) fun I19 =>
bd1 (f_X11_periodOf I19 J17) fun r21 =>
some (r21, I19, J17)) else none
def f_X11_grid (a0 : Int32) (I : HI) (J : HJ) : Option (Int32 × HI × HJ) :=
bd1 (f_X11_in (a0.toInt64) (0 : Int64) (99 : Int64)) fun r7 =>
if r7 = 0 then (
some ((-1 : Int32), I, J))
else (
bd3 (f_X11_gridOf a0 I J) fun r9 I10 J11 =>
some (r9, I10, J11))
def f_X11_isSpan (a0 : Int32) (a1 : Int32) : Option (Int32) :=
bd1 (f_X11_in (a0.toInt64) (0 : Int64) (99 : Int64)) fun r5 =>
if r5 = 0 then (
some ((0 : Int32)))
else (
bd1 (f_X11_in (a1.toInt64) (a0.toInt64) (99 : Int64)) fun r7 =>
if r7 = 0 then (
some ((0 : Int32)))
else (
if (20 : Int32) < (a1 - a0) then (
some ((0 : Int32)))
else (
some ((1 : Int32)))))
def fB_X11_doubling_50 (a0 : Int32) (a1 : Int32) (r_21 : Int32 → Int32 → HI → HJ → Option (Int32 × HI × HJ)) (x4 : Int32) (x5 : Int32) (I : HI) (J : HJ) : Option (Int32 × HI × HJ) :=
nm (x4 + (1 : Int32)) fun v13 =>
r_21 x5 v13 I J
def fLB_X11_doubling_21 (a0 : Int32) (a1 : Int32) (r_21 : Int32 → Int32 → HI → HJ → Option (Int32 × HI × HJ)) (x3 : Int32) (x4 : Int32) (I : HI) (J : HJ) : Option (Int32 × HI × HJ) :=
if a1 < x4 then (
some ((-3 : Int32), I, J))
else (
bd3 (f_X11_gridOf x4 I J) fun r14 I15 J16 =>
if x3 ≤ 0 then (
fB_X11_doubling_50 a0 a1 r_21 x4 r14 I15 J16)
else (
if r14 = ((2 : Int32) * x3) then (
some (x4, I15, J16))
else (
fB_X11_doubling_50 a0 a1 r_21 x4 r14 I15 J16)))
def fL_X11_doubling_21 (a0 : Int32) (a1 : Int32) : Nat → Int32 → Int32 → HI → HJ → Option (Int32 × HI × HJ)
  | 0 => fun _ _ _ _ => none
  | f + 1 => fLB_X11_doubling_21 a0 a1 (fL_X11_doubling_21 a0 a1 f)
def f_X11_doubling (a0 : Int32) (a1 : Int32) (I : HI) (J : HJ) : Option (Int32 × HI × HJ) :=
bd1 (f_X11_isSpan a0 a1) fun r18 =>
if r18 = 0 then (
some ((-1 : Int32), I, J))
else (
bd3 (f_X11_gridOf a0 I J) fun r20 I21 J22 =>
nm (a0 + (1 : Int32)) fun v24 =>
fL_X11_doubling_21 a0 a1 FU r20 v24 I21 J22)
def fB_X11_windows_37 (a0 : Int32) (a1 : Int32) (r_15 : Int32 → Int32 → HI → HJ → Option (Int32 × HI × HJ)) (x4 : Int32) (s0 : Int32) (s1 : Int32) (I : HI) (J : HJ) : Option (Int32 × HI × HJ) :=
nm (s1 + s0) fun v9 =>
nm (x4 + (1 : Int32)) fun v10 =>
r_15 v9 v10 I J
def fLB_X11_windows_15 (a0 : Int32) (a1 : Int32) (r_15 : Int32 → Int32 → HI → HJ → Option (Int32 × HI × HJ)) (x3 : Int32) (x4 : Int32) (I : HI) (J : HJ) : Option (Int32 × HI × HJ) :=
if a1 < x4 then (
some (x3, I, J))
else (
bd3 (f_X11_gridOf x4 I J) fun r11 I12 J13 =>
if r11 = (3 : Int32) then (
fB_X11_windows_37 a0 a1 r_15 x4 (1 : Int32) x3 I12 J13)
else (
fB_X11_windows_37 a0 a1 r_15 x4 (0 : Int32) x3 I12 J13))
def fL_X11_windows_15 (a0 : Int32) (a1 : Int32) : Nat → Int32 → Int32 → HI → HJ → Option (Int32 × HI × HJ)
  | 0 => fun _ _ _ _ => none
  | f + 1 => fLB_X11_windows_15 a0 a1 (fL_X11_windows_15 a0 a1 f)
def f_X11_windows (a0 : Int32) (a1 : Int32) (I : HI) (J : HJ) : Option (Int32 × HI × HJ) :=
bd1 (f_X11_isSpan a0 a1) fun r15 =>
if r15 = 0 then (
some ((-1 : Int32), I, J))
else (
fL_X11_windows_15 a0 a1 FU (0 : Int32) a0 I J)
def f_X11_isEvenBy (a0 : Int32) (a1 : Int32) (I : HI) (J : HJ) : Option (Int32 × HI × HJ) :=
bd2 (f_X11_opens I J) fun I12 J13 =>
if vin (2 : Int32) 9 = true then (
if vin (2 : Int32) 9 = true then (
nm (put I12 106 (2 : Int32).toNatClampNeg ((I12 106 (2 : Int32).toNatClampNeg) + a0)) fun I15 =>
bd2 (f_X11_trial a1 I15 J13) fun I16 J17 =>
bd1 (f_X11_looksAtTrial I16 J17) fun I19 =>
bd1 (f_X11_kindOf I19 J17) fun r21 =>
if r21 = (1 : Int32) then (
some ((1 : Int32), I19, J17))
else (
some ((0 : Int32), I19, J17))) else none) else none
def fB_X11_touch_56 (a0 : Int32) (r_16 : Int32 → HI → HJ → Option (Int32 × HI × HJ)) (x2 : Int32) (I : HI) (J : HJ) : Option (Int32 × HI × HJ) :=
nm (x2 + (1 : Int32)) fun v12 =>
r_16 v12 I J
def fLB_X11_touch_16 (a0 : Int32) (r_16 : Int32 → HI → HJ → Option (Int32 × HI × HJ)) (x2 : Int32) (I : HI) (J : HJ) : Option (Int32 × HI × HJ) :=
if (30 : Int32) < x2 then (
some ((-3 : Int32), I, J))
else (
bd3 (f_X11_isEvenBy x2 a0 I J) fun r13 I14 J15 =>
if r13 = 0 then (
if x2 ≤ 0 then (
fB_X11_touch_56 a0 r_16 x2 I14 J15)
else (
bd3 (f_X11_isEvenBy ((0 : Int32) - x2) a0 I14 J15) fun r17 I18 J19 =>
if r17 = 0 then (
fB_X11_touch_56 a0 r_16 x2 I18 J19)
else (
some ((100 : Int32) - x2, I18, J19))))
else (
some ((100 : Int32) + x2, I14, J15)))
def fL_X11_touch_16 (a0 : Int32) : Nat → Int32 → HI → HJ → Option (Int32 × HI × HJ)
  | 0 => fun _ _ _ => none
  | f + 1 => fLB_X11_touch_16 a0 (fL_X11_touch_16 a0 f)
def f_X11_touch (a0 : Int32) (I : HI) (J : HJ) : Option (Int32 × HI × HJ) :=
bd1 (f_X11_in (a0.toInt64) (1 : Int64) (400 : Int64)) fun r21 =>
if r21 = 0 then (
some ((-1 : Int32), I, J))
else (
fL_X11_touch_16 a0 FU (0 : Int32) I J)
def fB_X11_lost_68 (a0 : Int32) (r_52 : Int32 → HI → HJ → Option (Int32 × HI × HJ)) (x2 : Int32) (I : HI) (J : HJ) : Option (Int32 × HI × HJ) :=
if (I 98 27) ≤ x2 then (
some (x2, I, J))
else (
if (I 98 11) ≤ x2 then (
some (x2, I, J))
else (
if vin x2 60 = true then (
if vin x2 60 = true then (
if (I 114 x2.toNatClampNeg) = (I 107 x2.toNatClampNeg) then (
nm (x2 + (1 : Int32)) fun v19 =>
r_52 v19 I J)
else (
some (x2, I, J))) else none) else none))
def fLB_X11_lost_52 (a0 : Int32) (r_52 : Int32 → HI → HJ → Option (Int32 × HI × HJ)) (x2 : Int32) (I : HI) (J : HJ) : Option (Int32 × HI × HJ) :=
if x2 < (I 98 27) then (
fB_X11_lost_68 a0 r_52 x2 I J)
else (
if (I 98 11) ≤ x2 then (
some ((-3 : Int32), I, J))
else (
fB_X11_lost_68 a0 r_52 x2 I J))
def fL_X11_lost_52 (a0 : Int32) : Nat → Int32 → HI → HJ → Option (Int32 × HI × HJ)
  | 0 => fun _ _ _ => none
  | f + 1 => fLB_X11_lost_52 a0 (fL_X11_lost_52 a0 f)
def f_X11_lost (a0 : Int32) (I : HI) (J : HJ) : Option (Int32 × HI × HJ) :=
bd1 (f_X11_in (a0.toInt64) (0 : Int64) (999 : Int64)) fun r20 =>
if r20 = 0 then (
some ((-1 : Int32), I, J))
else (
bd2 (f_X11_opens I J) fun I22 J23 =>
bd2 (f_X11_trial (400 : Int32) I22 J23) fun I25 J26 =>
bd1 (f_X11_looksAtTrial I25 J26) fun I28 =>
bd2 (f_X11_opens I28 J26) fun I30 J31 =>
if vin (0 : Int32) 9 = true then (
if vin (0 : Int32) 9 = true then (
nm (put I30 106 (0 : Int32).toNatClampNeg ((I30 106 (0 : Int32).toNatClampNeg) + a0)) fun I33 =>
bd2 (f_X11_trial (400 : Int32) I33 J31) fun I34 J35 =>
fL_X11_lost_52 a0 FU (0 : Int32) I34 J35) else none) else none)
def fLB_X11_prove_47 (a0 : Int32) (r_47 : Int32 → HI → HJ → Option (Int32 × HI × HJ)) (x2 : Int32) (I : HI) (J : HJ) : Option (Int32 × HI × HJ) :=
if (I 98 29) ≤ x2 then (
some (I 98 29, I, J))
else (
if vin x2 60 = true then (
if vin ((2 : Int32) * x2) 24 = true then (
nm (put I 115 ((2 : Int32) * x2).toNatClampNeg (I 107 x2.toNatClampNeg)) fun I13 =>
if vin x2 60 = true then (
if vin (((2 : Int32) * x2) + (1 : Int32)) 24 = true then (
nm (put I13 115 (((2 : Int32) * x2) + (1 : Int32)).toNatClampNeg (I13 108 x2.toNatClampNeg)) fun I14 =>
nm (x2 + (1 : Int32)) fun v15 =>
r_47 v15 I14 J) else none) else none) else none) else none)
def fL_X11_prove_47 (a0 : Int32) : Nat → Int32 → HI → HJ → Option (Int32 × HI × HJ)
  | 0 => fun _ _ _ => none
  | f + 1 => fLB_X11_prove_47 a0 (fL_X11_prove_47 a0 f)
def fB_X11_prove_42 (a0 : Int32) (s0 : Int32) (I : HI) (J : HJ) : Option (Int32 × HI × HJ) :=
nm (put I 98 29 s0) fun I16 =>
fL_X11_prove_47 a0 FU (0 : Int32) I16 J
def f_X11_prove (a0 : Int32) (I : HI) (J : HJ) : Option (Int32 × HI × HJ) :=
bd1 (f_X11_in (a0.toInt64) (1 : Int64) (12 : Int64)) fun r17 =>
if r17 = 0 then (
some ((-1 : Int32), I, J))
else (
bd2 (f_X11_opens I J) fun I19 J20 =>
bd2 (f_X11_trial (400 : Int32) I19 J20) fun I22 J23 =>
if a0 ≤ (I22 98 11) then (
fB_X11_prove_42 a0 a0 I22 J23)
else (
fB_X11_prove_42 a0 (I22 98 11) I22 J23))
def f_X11_row (a0 : Int32) (a1 : Int32) (I : HI) (J : HJ) : Option (Int32) :=
bd1 (f_X11_in (a0.toInt64) (0 : Int64) (((I 98 29) - (1 : Int32)).toInt64)) fun r5 =>
if r5 = 0 then (
some ((-9 : Int32)))
else (
bd1 (f_X11_in (a1.toInt64) (0 : Int64) (1 : Int64)) fun r7 =>
if r7 = 0 then (
some ((-9 : Int32)))
else (
if vin (((2 : Int32) * a0) + a1) 24 = true then (
some (I 115 (((2 : Int32) * a0) + a1).toNatClampNeg)) else none))
def f_X11_alterRow (a0 : Int32) (a1 : Int32) (a2 : Int32) (I : HI) (J : HJ) : Option (Int32 × HI) :=
bd1 (f_X11_in (a0.toInt64) (0 : Int64) (((I 98 29) - (1 : Int32)).toInt64)) fun r7 =>
if r7 = 0 then (
some ((-9 : Int32), I))
else (
bd1 (f_X11_in (a1.toInt64) (0 : Int64) (1 : Int64)) fun r9 =>
if r9 = 0 then (
some ((-9 : Int32), I))
else (
if vin (((2 : Int32) * a0) + a1) 24 = true then (
nm (I 115 (((2 : Int32) * a0) + a1).toNatClampNeg) fun v11 =>
if vin (((2 : Int32) * a0) + a1) 24 = true then (
nm (put I 115 (((2 : Int32) * a0) + a1).toNatClampNeg a2) fun I12 =>
some (v11, I12)) else none) else none))
def fLB_X11_judge_13 (r_13 : Int32 → HI → HJ → Option (Int32 × HI × HJ)) (x1 : Int32) (I : HI) (J : HJ) : Option (Int32 × HI × HJ) :=
if (I 98 29) ≤ x1 then (
some ((0 : Int32), I, J))
else (
if (I 98 11) ≤ x1 then (
some (x1 + (1 : Int32), I, J))
else (
if vin ((2 : Int32) * x1) 24 = true then (
if vin x1 60 = true then (
if (I 115 ((2 : Int32) * x1).toNatClampNeg) = (I 107 x1.toNatClampNeg) then (
if vin (((2 : Int32) * x1) + (1 : Int32)) 24 = true then (
if vin x1 60 = true then (
if (I 115 (((2 : Int32) * x1) + (1 : Int32)).toNatClampNeg) = (I 108 x1.toNatClampNeg) then (
nm (x1 + (1 : Int32)) fun v8 =>
r_13 v8 I J)
else (
some (x1 + (1 : Int32), I, J))) else none) else none)
else (
some (x1 + (1 : Int32), I, J))) else none) else none))
def fL_X11_judge_13 : Nat → Int32 → HI → HJ → Option (Int32 × HI × HJ)
  | 0 => fun _ _ _ => none
  | f + 1 => fLB_X11_judge_13 (fL_X11_judge_13 f)
def f_X11_judge (I : HI) (J : HJ) : Option (Int32 × HI × HJ) :=
bd2 (f_X11_opens I J) fun I9 J10 =>
bd2 (f_X11_trial (400 : Int32) I9 J10) fun I12 J13 =>
fL_X11_judge_13 FU (0 : Int32) I12 J13
def f_X11_isRecord (a0 : Int32) (I : HI) (J : HJ) : Option (Int32) :=
if vin (10 : Int32) 666 = true then (
bd1 (f_X11_in (a0.toInt64) (0 : Int64) (((I 99 (10 : Int32).toNatClampNeg) - (1 : Int32)).toInt64)) fun r3 =>
if zb r3 = true then some (r3) else none) else none
def fB_X11_record_83 (r_44 : Int32 → Int32 → HI → HJ → Option (Int32 × HI)) (x1 : Int32) (x2 : Int32) (s0 : Int32) (s1 : Int32) (I : HI) (J : HJ) : Option (Int32 × HI) :=
if vin s1 666 = true then (
nm (put I 99 s1.toNatClampNeg s0) fun I6 =>
nm (x2 + (1 : Int32)) fun v7 =>
r_44 x1 v7 I6 J) else none
def fLB_X11_record_44 (r_44 : Int32 → Int32 → HI → HJ → Option (Int32 × HI)) (x1 : Int32) (x2 : Int32) (I : HI) (J : HJ) : Option (Int32 × HI) :=
if (60 : Int32) ≤ x2 then (
if vin (10 : Int32) 666 = true then (
if vin (10 : Int32) 666 = true then (
nm (put I 99 (10 : Int32).toNatClampNeg ((I 99 (10 : Int32).toNatClampNeg) + (1 : Int32))) fun I8 =>
if vin (10 : Int32) 666 = true then (
some ((I8 99 (10 : Int32).toNatClampNeg) - (1 : Int32), I8)) else none) else none) else none)
else (
if vin (9 : Int32) 666 = true then (
if (I 99 (9 : Int32).toNatClampNeg) ≤ x2 then (
fB_X11_record_83 r_44 x1 x2 (0 : Int32) ((x1 + (1 : Int32)) + x2) I J)
else (
if vin ((12 : Int32) + x2) 666 = true then (
fB_X11_record_83 r_44 x1 x2 (I 99 ((12 : Int32) + x2).toNatClampNeg) ((x1 + (1 : Int32)) + x2) I J) else none)) else none)
def fL_X11_record_44 : Nat → Int32 → Int32 → HI → HJ → Option (Int32 × HI)
  | 0 => fun _ _ _ _ => none
  | f + 1 => fLB_X11_record_44 (fL_X11_record_44 f)
def f_X11_record (I : HI) (J : HJ) : Option (Int32 × HI) :=
if vin (10 : Int32) 666 = true then (
if (I 99 (10 : Int32).toNatClampNeg) = (6 : Int32) then (
some ((-2 : Int32), I))
else (
if vin (10 : Int32) 666 = true then (
nm ((72 : Int32) + ((61 : Int32) * (I 99 (10 : Int32).toNatClampNeg))) fun v9 =>
if vin (9 : Int32) 666 = true then (
if vin v9 666 = true then (
nm (put I 99 v9.toNatClampNeg (I 99 (9 : Int32).toNatClampNeg)) fun I10 =>
fL_X11_record_44 FU v9 (0 : Int32) I10 J) else none) else none) else none)) else none
def f_X11_recorded (a0 : Int32) (a1 : Int32) (I : HI) (J : HJ) : Option (Int32 × HI) :=
bd1 (f_X11_isRecord a0 I J) fun r11 =>
if r11 = 0 then (
some ((-1 : Int32), I))
else (
if vin ((72 : Int32) + ((61 : Int32) * a0)) 666 = true then (
bd1 (f_X11_in (a1.toInt64) (0 : Int64) (((2 : Int32) + (I 99 ((72 : Int32) + ((61 : Int32) * a0)).toNatClampNeg)).toInt64)) fun r13 =>
if r13 = 0 then (
some ((-1 : Int32), I))
else (
bd1 (f_X11_looksAtRecord a0 I J) fun I15 =>
if a1 = 0 then (
bd1 (f_X11_kindOf I15 J) fun r19 =>
some (r19, I15))
else (
if a1 = (1 : Int32) then (
some (I15 98 27, I15))
else (
if a1 = (2 : Int32) then (
bd1 (f_X11_periodOf I15 J) fun r17 =>
some (r17, I15))
else (
if vin (a1 - (3 : Int32)) 60 = true then (
some (I15 114 (a1 - (3 : Int32)).toNatClampNeg, I15)) else none))))) else none)
def fB_X11_alike_100 (a0 : Int32) (a1 : Int32) (r_23 : Int32 → Int32 → HI → HJ → Option (Int32)) (x4 : Int32) (s0 : Int32) (s1 : Int32) (I : HI) (J : HJ) : Option (Int32) :=
nm (s1 + s0) fun v7 =>
nm (x4 + (1 : Int32)) fun v8 =>
r_23 v7 v8 I J
def fLB_X11_alike_23 (a0 : Int32) (a1 : Int32) (r_23 : Int32 → Int32 → HI → HJ → Option (Int32)) (x3 : Int32) (x4 : Int32) (I : HI) (J : HJ) : Option (Int32) :=
if vin ((72 : Int32) + ((61 : Int32) * a0)) 666 = true then (
if (I 99 ((72 : Int32) + ((61 : Int32) * a0)).toNatClampNeg) ≤ x4 then (
some (x3))
else (
if vin ((72 : Int32) + ((61 : Int32) * a1)) 666 = true then (
if (I 99 ((72 : Int32) + ((61 : Int32) * a1)).toNatClampNeg) ≤ x4 then (
some (x3))
else (
if vin ((((72 : Int32) + ((61 : Int32) * a0)) + (1 : Int32)) + x4) 666 = true then (
if vin ((((72 : Int32) + ((61 : Int32) * a1)) + (1 : Int32)) + x4) 666 = true then (
if (I 99 ((((72 : Int32) + ((61 : Int32) * a0)) + (1 : Int32)) + x4).toNatClampNeg) = (I 99 ((((72 : Int32) + ((61 : Int32) * a1)) + (1 : Int32)) + x4).toNatClampNeg) then (
fB_X11_alike_100 a0 a1 r_23 x4 (1 : Int32) x3 I J)
else (
fB_X11_alike_100 a0 a1 r_23 x4 (0 : Int32) x3 I J)) else none) else none)) else none)) else none
def fL_X11_alike_23 (a0 : Int32) (a1 : Int32) : Nat → Int32 → Int32 → HI → HJ → Option (Int32)
  | 0 => fun _ _ _ _ => none
  | f + 1 => fLB_X11_alike_23 a0 a1 (fL_X11_alike_23 a0 a1 f)
def f_X11_alike (a0 : Int32) (a1 : Int32) (I : HI) (J : HJ) : Option (Int32) :=
bd1 (f_X11_isRecord a0 I J) fun r9 =>
if r9 = 0 then (
some ((-1 : Int32)))
else (
bd1 (f_X11_isRecord a1 I J) fun r11 =>
if r11 = 0 then (
some ((-1 : Int32)))
else (
fL_X11_alike_23 a0 a1 FU (0 : Int32) (0 : Int32) I J))
def f_X11_isOne (a0 : Int32) : Option (Int32) :=
bd1 (f_X11_in (a0.toInt64) (0 : Int64) (3 : Int64)) fun r3 =>
if zb r3 = true then some (r3) else none
def fLB_X11_sheet_69 (a0 : Int32) (a1 : Int32) (a2 : Int32) (r_69 : Int32 → HI → HJ → Option (Int32 × HI)) (x4 : Int32) (I : HI) (J : HJ) : Option (Int32 × HI) :=
if (40 : Int32) ≤ x4 then (
some ((1 : Int32), I))
else (
if vin (((40 : Int32) * a0) + x4) 160 = true then (
nm (put I 118 (((40 : Int32) * a0) + x4).toNatClampNeg (0 : Int32)) fun I9 =>
nm (x4 + (1 : Int32)) fun v10 =>
r_69 v10 I9 J) else none)
def fL_X11_sheet_69 (a0 : Int32) (a1 : Int32) (a2 : Int32) : Nat → Int32 → HI → HJ → Option (Int32 × HI)
  | 0 => fun _ _ _ => none
  | f + 1 => fLB_X11_sheet_69 a0 a1 a2 (fL_X11_sheet_69 a0 a1 a2 f)
def fB_X11_sheet_65 (a0 : Int32) (a1 : Int32) (a2 : Int32) (s0 : Int32) (s1 : Int32) (I : HI) (J : HJ) : Option (Int32 × HI) :=
if vin s1 4 = true then (
nm (put I 117 s1.toNatClampNeg s0) fun I11 =>
fL_X11_sheet_69 a0 a1 a2 FU (0 : Int32) I11 J) else none
def fB_X11_sheet_44 (a0 : Int32) (a1 : Int32) (a2 : Int32) (I : HI) (J : HJ) : Option (Int32 × HI) :=
if vin a0 4 = true then (
nm (put I 116 a0.toNatClampNeg a1) fun I12 =>
if 0 ≤ a1 then (
fB_X11_sheet_65 a0 a1 a2 a2 a0 I12 J)
else (
fB_X11_sheet_65 a0 a1 a2 (0 : Int32) a0 I12 J)) else none
def fB_X11_sheet_33 (a0 : Int32) (a1 : Int32) (a2 : Int32) (I : HI) (J : HJ) : Option (Int32 × HI) :=
if a1 < 0 then (
fB_X11_sheet_44 a0 a1 a2 I J)
else (
if 0 ≤ a2 then (
fB_X11_sheet_44 a0 a1 a2 I J)
else (
some ((-14 : Int32), I)))
def f_X11_sheet (a0 : Int32) (a1 : Int32) (a2 : Int32) (I : HI) (J : HJ) : Option (Int32 × HI) :=
bd1 (f_X11_isOne a0) fun r13 =>
if r13 = 0 then (
some ((-1 : Int32), I))
else (
bd1 (f_X11_in (a1.toInt64) (-1 : Int64) (4 : Int64)) fun r15 =>
if r15 = 0 then (
some ((-1 : Int32), I))
else (
if a1 < 0 then (
fB_X11_sheet_33 a0 a1 a2 I J)
else (
if a2 ≤ (40 : Int32) then (
fB_X11_sheet_33 a0 a1 a2 I J)
else (
some ((-1 : Int32), I)))))
def f_X11_narrowed (a0 : Int32) (a1 : Int32) : Option (Int32) :=
if a0 = 0 then (
some (a1.toInt8.toInt32))
else (
if a0 = (1 : Int32) then (
some (a1.toInt16.toInt32))
else (
if a0 = (4 : Int32) then (
if a1 = 0 then (
some ((0 : Int32)))
else (
some ((1 : Int32))))
else (
some (a1))))
def f_X11_put (a0 : Int32) (a1 : Int32) (a2 : Int32) (I : HI) (J : HJ) : Option (Int32 × HI) :=
bd1 (f_X11_isOne a0) fun r8 =>
if r8 = 0 then (
some ((-1 : Int32), I))
else (
if vin a0 4 = true then (
if 0 ≤ (I 116 a0.toNatClampNeg) then (
if vin a0 4 = true then (
bd1 (f_X11_in (a1.toInt64) (0 : Int64) (((I 117 a0.toNatClampNeg) - (1 : Int32)).toInt64)) fun r10 =>
if r10 = 0 then (
some ((-12 : Int32), I))
else (
if vin a0 4 = true then (
bd1 (f_X11_narrowed (I 116 a0.toNatClampNeg) a2) fun r12 =>
if vin (((40 : Int32) * a0) + a1) 160 = true then (
nm (put I 118 (((40 : Int32) * a0) + a1).toNatClampNeg r12) fun I14 =>
some ((1 : Int32), I14)) else none) else none)) else none)
else (
some ((-11 : Int32), I))) else none)
def f_X11_taking (a0 : Int32) (a1 : Int32) (I : HI) (J : HJ) : Option (Int32) :=
if vin a0 4 = true then (
if 0 ≤ (I 116 a0.toNatClampNeg) then (
if vin a0 4 = true then (
if (I 116 a0.toNatClampNeg) = a1 then (
some ((0 : Int32)))
else (
some ((-13 : Int32)))) else none)
else (
some ((-11 : Int32)))) else none
def f_X11_item (a0 : Int32) (a1 : Int32) (a2 : Int32) (I : HI) (J : HJ) : Option (Int32) :=
bd1 (f_X11_isOne a0) fun r9 =>
if r9 = 0 then (
some ((-1 : Int32)))
else (
bd1 (f_X11_in (a1.toInt64) (0 : Int64) (4 : Int64)) fun r11 =>
if r11 = 0 then (
some ((-1 : Int32)))
else (
bd1 (f_X11_taking a0 a1 I J) fun r13 =>
if r13 = 0 then (
if vin a0 4 = true then (
bd1 (f_X11_in (a2.toInt64) (0 : Int64) (((I 117 a0.toNatClampNeg) - (1 : Int32)).toInt64)) fun r15 =>
if r15 = 0 then (
some ((-12 : Int32)))
else (
if vin (((40 : Int32) * a0) + a2) 160 = true then (
some (I 118 (((40 : Int32) * a0) + a2).toNatClampNeg)) else none)) else none)
else (
some (r13))))
def fB_X11_times_105 (a0 : Int32) (a1 : Int32) (a2 : Int32) (r_43 : Int32 → Int32 → HI → HJ → Option (Int32 × HI)) (x6 : Int32) (s0 : Int32) (s1 : Int32) (I : HI) (J : HJ) : Option (Int32 × HI) :=
nm (s1 + s0) fun v15 =>
nm (x6 + (1 : Int32)) fun v16 =>
r_43 v15 v16 I J
def fLB_X11_times_43 (a0 : Int32) (a1 : Int32) (a2 : Int32) (r_43 : Int32 → Int32 → HI → HJ → Option (Int32 × HI)) (x5 : Int32) (x6 : Int32) (I : HI) (J : HJ) : Option (Int32 × HI) :=
if a2 ≤ x6 then (
some (x5, I))
else (
nm ((a1.toInt64) + (x6.toInt64)) fun v17 =>
if vin a0 4 = true then (
bd1 (f_X11_in v17 (0 : Int64) (((I 117 a0.toNatClampNeg) - (1 : Int32)).toInt64)) fun r18 =>
if r18 = 0 then (
some ((-12 : Int32), I))
else (
if vin (((40 : Int32) * a0) + (v17.toInt32)) 160 = true then (
bd2 (f_X11_tell (I 118 (((40 : Int32) * a0) + (v17.toInt32)).toNatClampNeg) I J) fun r20 I21 =>
if r20 ≤ 0 then (
fB_X11_times_105 a0 a1 a2 r_43 x6 (0 : Int32) x5 I21 J)
else (
fB_X11_times_105 a0 a1 a2 r_43 x6 (1 : Int32) x5 I21 J)) else none)) else none)
def fL_X11_times_43 (a0 : Int32) (a1 : Int32) (a2 : Int32) : Nat → Int32 → Int32 → HI → HJ → Option (Int32 × HI)
  | 0 => fun _ _ _ _ => none
  | f + 1 => fLB_X11_times_43 a0 a1 a2 (fL_X11_times_43 a0 a1 a2 f)
def f_X11_times (a0 : Int32) (a1 : Int32) (a2 : Int32) (I : HI) (J : HJ) : Option (Int32 × HI) :=
bd1 (f_X11_isOne a0) fun r23 =>
if r23 = 0 then (
some ((-1 : Int32), I))
else (
bd1 (f_X11_in (a2.toInt64) (0 : Int64) (40 : Int64)) fun r25 =>
if r25 = 0 then (
some ((-1 : Int32), I))
else (
bd1 (f_X11_taking a0 (1 : Int32) I J) fun r27 =>
if r27 = 0 then (
fL_X11_times_43 a0 a1 a2 FU (0 : Int32) (0 : Int32) I J)
else (
some (r27, I))))
def fB_X11_shelf_145 (a0 : Int32) (a1 : Int32) (a2 : Int32) (s0 : Int32) (s1 : Int32) (I : HI) (J : HJ) : Option (Int32 × HI) :=
if vin s1 4 = true then (
nm (put I 121 s1.toNatClampNeg s0) fun I14 =>
some ((1 : Int32), I14)) else none
def fB_X11_shelf_124 (a0 : Int32) (a1 : Int32) (a2 : Int32) (x4 : Int32) (s0 : Int32) (s1 : Int32) (I : HI) (J : HJ) : Option (Int32 × HI) :=
if vin s1 4 = true then (
nm (put I 120 s1.toNatClampNeg s0) fun I15 =>
if x4 = 0 then (
fB_X11_shelf_145 a0 a1 a2 (0 : Int32) a0 I15 J)
else (
if vin a2 4 = true then (
fB_X11_shelf_145 a0 a1 a2 (I15 117 a2.toNatClampNeg) a0 I15 J) else none)) else none
def fB_X11_shelf_103 (a0 : Int32) (a1 : Int32) (a2 : Int32) (x4 : Int32) (s0 : Int32) (s1 : Int32) (I : HI) (J : HJ) : Option (Int32 × HI) :=
if vin s1 4 = true then (
nm (put I 119 s1.toNatClampNeg s0) fun I16 =>
if x4 = 0 then (
fB_X11_shelf_124 a0 a1 a2 x4 a2 a0 I16 J)
else (
if vin a2 4 = true then (
fB_X11_shelf_124 a0 a1 a2 x4 (I16 116 a2.toNatClampNeg) a0 I16 J) else none)) else none
def fB_X11_shelf_102 (a0 : Int32) (a1 : Int32) (a2 : Int32) (x4 : Int32) (s0 : Int32) (I : HI) (J : HJ) : Option (Int32 × HI) :=
fB_X11_shelf_103 a0 a1 a2 x4 a1 s0 I J
def fB_X11_shelf_81 (a0 : Int32) (a1 : Int32) (a2 : Int32) (s0 : Int32) (I : HI) (J : HJ) : Option (Int32 × HI) :=
if a1 = (2 : Int32) then (
if s0 = 0 then (
fB_X11_shelf_103 a0 a1 a2 s0 (3 : Int32) a0 I J)
else (
fB_X11_shelf_102 a0 a1 a2 s0 a0 I J))
else (
fB_X11_shelf_102 a0 a1 a2 s0 a0 I J)
def fB_X11_shelf_80 (a0 : Int32) (a1 : Int32) (a2 : Int32) (I : HI) (J : HJ) : Option (Int32 × HI) :=
fB_X11_shelf_81 a0 a1 a2 (0 : Int32) I J
def fB_X11_shelf_62 (a0 : Int32) (a1 : Int32) (a2 : Int32) (I : HI) (J : HJ) : Option (Int32 × HI) :=
if a1 = (2 : Int32) then (
if vin a2 4 = true then (
if (I 116 a2.toNatClampNeg) < 0 then (
fB_X11_shelf_80 a0 a1 a2 I J)
else (
fB_X11_shelf_81 a0 a1 a2 (1 : Int32) I J)) else none)
else (
fB_X11_shelf_80 a0 a1 a2 I J)
def fB_X11_shelf_48 (a0 : Int32) (a1 : Int32) (a2 : Int32) (I : HI) (J : HJ) : Option (Int32 × HI) :=
if a1 = (2 : Int32) then (
bd1 (f_X11_isOne a2) fun r17 =>
if r17 = 0 then (
some ((-1 : Int32), I))
else (
fB_X11_shelf_62 a0 a1 a2 I J))
else (
fB_X11_shelf_62 a0 a1 a2 I J)
def fB_X11_shelf_31 (a0 : Int32) (a1 : Int32) (a2 : Int32) (I : HI) (J : HJ) : Option (Int32 × HI) :=
if a1 = (1 : Int32) then (
bd1 (f_X11_in (a2.toInt64) (0 : Int64) (3 : Int64)) fun r19 =>
if r19 = 0 then (
some ((-1 : Int32), I))
else (
fB_X11_shelf_48 a0 a1 a2 I J))
else (
fB_X11_shelf_48 a0 a1 a2 I J)
def f_X11_shelf (a0 : Int32) (a1 : Int32) (a2 : Int32) (I : HI) (J : HJ) : Option (Int32 × HI) :=
bd1 (f_X11_isOne a0) fun r21 =>
if r21 = 0 then (
some ((-1 : Int32), I))
else (
bd1 (f_X11_in (a1.toInt64) (0 : Int64) (3 : Int64)) fun r23 =>
if r23 = 0 then (
some ((-1 : Int32), I))
else (
if a1 = 0 then (
bd1 (f_X11_isRecord a2 I J) fun r25 =>
if r25 = 0 then (
some ((-1 : Int32), I))
else (
fB_X11_shelf_31 a0 a1 a2 I J))
else (
fB_X11_shelf_31 a0 a1 a2 I J)))
def fB_X11_takes_58 (a0 : Int32) (x2 : Int32) (I : HI) (J : HJ) : Option (HI × HJ) :=
if vin a0 4 = true then (
if (I 119 a0.toNatClampNeg) = (1 : Int32) then (
nm (put I 98 36 (7 : Int32)) fun I18 =>
bd3 (f_X11_says x2 I18 J) fun r19 I20 J21 =>
nm (put I20 98 38 r19) fun I23 =>
some (I23, J21))
else (
some (I, J))) else none
def f_X11_takes (a0 : Int32) (I : HI) (J : HJ) : Option (HI × HJ) :=
if vin a0 4 = true then (
nm (I 120 a0.toNatClampNeg) fun v24 =>
nm (put I 98 36 (-1 : Int32)) fun I25 =>
nm (put I25 98 37 v24) fun I26 =>
if vin a0 4 = true then (
if (I26 119 a0.toNatClampNeg) = 0 then (
bd1 (f_X11_isRecord v24 I26 J) fun r27 =>
if r27 = 0 then (
fB_X11_takes_58 a0 v24 I26 J)
else (
bd1 (f_X11_looksAtRecord v24 I26 J) fun I29 =>
bd1 (f_X11_kindOf I29 J) fun r31 =>
nm (put I29 98 36 r31) fun I33 =>
nm (put I33 98 38 (I33 98 27)) fun I34 =>
some (I34, J)))
else (
fB_X11_takes_58 a0 v24 I26 J)) else none) else none
def fB_X11_isUnder_36 (a0 : Int32) (a1 : Int32) : Option (Int32) :=
some ((1 : Int32))
def fB_X11_isUnder_25 (a0 : Int32) (a1 : Int32) : Option (Int32) :=
if a1 = (5 : Int32) then (
if a0 = (6 : Int32) then (
fB_X11_isUnder_36 a0 a1 )
else (
some ((0 : Int32))))
else (
some ((0 : Int32)))
def fB_X11_isUnder_15 (a0 : Int32) (a1 : Int32) : Option (Int32) :=
if a1 = (2 : Int32) then (
if a0 = (3 : Int32) then (
fB_X11_isUnder_36 a0 a1 )
else (
fB_X11_isUnder_25 a0 a1 ))
else (
fB_X11_isUnder_25 a0 a1 )
def f_X11_isUnder (a0 : Int32) (a1 : Int32) : Option (Int32) :=
if a0 = a1 then (
fB_X11_isUnder_36 a0 a1 )
else (
if a1 = 0 then (
if a0 < (7 : Int32) then (
fB_X11_isUnder_36 a0 a1 )
else (
fB_X11_isUnder_15 a0 a1 ))
else (
fB_X11_isUnder_15 a0 a1 ))
def fB_X11_taken_70 (a0 : Int32) (a1 : Int32) (x3 : Int32) (I : HI) (J : HJ) : Option (Int32 × HI × HJ) :=
if a1 < (10 : Int32) then (
if x3 = 0 then (
bd1 (f_X11_isUnder (I 98 36) a1) fun r12 =>
if r12 = 0 then (
some ((-13 : Int32), I, J))
else (
some (I 98 37, I, J)))
else (
some ((-13 : Int32), I, J)))
else (
if x3 = 0 then (
some ((-13 : Int32), I, J))
else (
if vin a0 4 = true then (
if (I 120 a0.toNatClampNeg) = (a1 - (10 : Int32)) then (
if vin a0 4 = true then (
some (I 121 a0.toNatClampNeg, I, J)) else none)
else (
some ((-13 : Int32), I, J))) else none))
def fB_X11_taken_55 (a0 : Int32) (a1 : Int32) (s0 : Int32) (I : HI) (J : HJ) : Option (Int32 × HI × HJ) :=
if s0 = 0 then (
if 0 ≤ (I 98 36) then (
fB_X11_taken_70 a0 a1 s0 I J)
else (
some ((-11 : Int32), I, J)))
else (
fB_X11_taken_70 a0 a1 s0 I J)
def fB_X11_taken_35 (a0 : Int32) (a1 : Int32) (I : HI) (J : HJ) : Option (Int32 × HI × HJ) :=
bd2 (f_X11_takes a0 I J) fun I14 J15 =>
if vin a0 4 = true then (
if (I14 119 a0.toNatClampNeg) = (2 : Int32) then (
fB_X11_taken_55 a0 a1 (1 : Int32) I14 J15)
else (
fB_X11_taken_55 a0 a1 (0 : Int32) I14 J15)) else none
def f_X11_taken (a0 : Int32) (a1 : Int32) (I : HI) (J : HJ) : Option (Int32 × HI × HJ) :=
bd1 (f_X11_isOne a0) fun r17 =>
if r17 = 0 then (
some ((-1 : Int32), I, J))
else (
bd1 (f_X11_in (a1.toInt64) (0 : Int64) (7 : Int64)) fun r19 =>
if r19 = 0 then (
bd1 (f_X11_in (a1.toInt64) (10 : Int64) (14 : Int64)) fun r21 =>
if r21 = 0 then (
some ((-1 : Int32), I, J))
else (
fB_X11_taken_35 a0 a1 I J))
else (
fB_X11_taken_35 a0 a1 I J))
def f_X11_ran (a0 : Int32) (I : HI) (J : HJ) : Option (HI) :=
if (30 : Int32) ≤ (I 98 40) then (
some (I))
else (
if vin (I 98 40) 30 = true then (
nm (put I 122 (I 98 40).toNatClampNeg a0) fun I3 =>
nm (put I3 98 40 ((I3 98 40) + (1 : Int32))) fun I4 =>
some (I4)) else none)
def f_X11_anyGrows (a0 : Int32) (I : HI) (J : HJ) : Option (Int32 × HI) :=
bd1 (f_X11_ran (10 : Int32) I J) fun I3 =>
some (a0 + (I3 98 38), I3)
def f_X11_twosGrows (a0 : Int32) (I : HI) (J : HJ) : Option (Int32 × HI) :=
bd1 (f_X11_ran (30 : Int32) I J) fun I6 =>
bd2 (f_X11_anyGrows a0 I6 J) fun r8 I9 =>
some (r8 * (5 : Int32), I9)
def f_X11_grows (a0 : Int32) (I : HI) (J : HJ) : Option (Int32 × HI) :=
nm (I 98 36) fun v24 =>
if v24 = (2 : Int32) then (
bd2 (f_X11_twosGrows a0 I J) fun r26 I27 =>
some (r26, I27))
else (
if v24 = (3 : Int32) then (
bd1 (f_X11_ran (40 : Int32) I J) fun I30 =>
bd2 (f_X11_twosGrows a0 I30 J) fun r32 I33 =>
some (r32 ^^^ (I33 98 38), I33))
else (
if v24 = (6 : Int32) then (
bd1 (f_X11_ran (70 : Int32) I J) fun I36 =>
bd2 (f_X11_anyGrows a0 I36 J) fun r38 I39 =>
some (r38 - (6 : Int32), I39))
else (
if v24 = (7 : Int32) then (
bd1 (f_X11_ran (80 : Int32) I J) fun I42 =>
some ((I42 98 38) - a0, I42))
else (
bd2 (f_X11_anyGrows a0 I J) fun r44 I45 =>
some (r44, I45)))))
def f_X11_anySwings (a0 : Int32) (I : HI) (J : HJ) : Option (Int32 × HI) :=
bd1 (f_X11_ran (11 : Int32) I J) fun I6 =>
bd2 (f_X11_grows a0 I6 J) fun r8 I9 =>
some (r8 * (2 : Int32), I9)
def f_X11_swings (a0 : Int32) (I : HI) (J : HJ) : Option (Int32 × HI) :=
nm (I 98 36) fun v23 =>
if v23 = (1 : Int32) then (
bd1 (f_X11_ran (20 : Int32) I J) fun I25 =>
bd2 (f_X11_anySwings a0 I25 J) fun r27 I28 =>
some (r27 - (3 : Int32), I28))
else (
if v23 = (4 : Int32) then (
bd1 (f_X11_ran (50 : Int32) I J) fun I31 =>
bd2 (f_X11_anySwings a0 I31 J) fun r33 I34 =>
some ((0 : Int32) - r33, I34))
else (
if v23 = (7 : Int32) then (
bd1 (f_X11_ran (81 : Int32) I J) fun I37 =>
bd2 (f_X11_grows a0 I37 J) fun r39 I40 =>
some (r39 * (I40 98 37), I40))
else (
bd2 (f_X11_anySwings a0 I J) fun r42 I43 =>
some (r42, I43))))
def fB_X11_anyParts_23 (a0 : Int32) (s0 : Int32) (I : HI) (J : HJ) : Option (Int32 × HI) :=
if zb s0 = true then (
nm (put I 98 41 s0) fun I4 =>
if (I4 98 41) = 0 then (
if ((I4 98 38) - (I4 98 37)) = 0 then none else
some (a0 / ((I4 98 38) - (I4 98 37)), I4))
else (
some ((0 : Int32), I4))) else none
def f_X11_anyParts (a0 : Int32) (I : HI) (J : HJ) : Option (Int32 × HI) :=
bd1 (f_X11_ran (12 : Int32) I J) fun I5 =>
if (I5 98 38) = (I5 98 37) then (
fB_X11_anyParts_23 a0 (1 : Int32) I5 J)
else (
fB_X11_anyParts_23 a0 (0 : Int32) I5 J)
def f_X11_mudParts (a0 : Int32) (I : HI) (J : HJ) : Option (Int32 × HI) :=
bd1 (f_X11_ran (61 : Int32) I J) fun I6 =>
bd2 (f_X11_anyParts (a0 - (1 : Int32)) I6 J) fun r8 I9 =>
some (r8, I9)
def f_X11_parts (a0 : Int32) (I : HI) (J : HJ) : Option (Int32 × HI) :=
nm (I 98 36) fun v24 =>
if v24 = (3 : Int32) then (
bd1 (f_X11_ran (41 : Int32) I J) fun I26 =>
bd2 (f_X11_anyParts (a0 + (1 : Int32)) I26 J) fun r28 I29 =>
some (r28, I29))
else (
if v24 = (5 : Int32) then (
bd2 (f_X11_mudParts a0 I J) fun r32 I33 =>
some (r32, I33))
else (
if v24 = (6 : Int32) then (
bd1 (f_X11_ran (71 : Int32) I J) fun I36 =>
bd2 (f_X11_mudParts a0 I36 J) fun r38 I39 =>
some (r38 ^^^ (1 : Int32), I39))
else (
if v24 = (7 : Int32) then (
bd1 (f_X11_ran (82 : Int32) I J) fun I42 =>
some (a0 &&& (I42 98 38), I42))
else (
bd2 (f_X11_anyParts a0 I J) fun r44 I45 =>
some (r44, I45)))))
def f_X11_anyTells (a0 : Int32) (I : HI) (J : HJ) : Option (Int32 × HI) :=
bd1 (f_X11_ran (13 : Int32) I J) fun I6 =>
bd2 (f_X11_swings a0 I6 J) fun r8 I9 =>
some (r8 ^^^ (I9 98 37), I9)
def f_X11_tells (a0 : Int32) (I : HI) (J : HJ) : Option (Int32 × HI) :=
nm (I 98 36) fun v44 =>
if v44 = (2 : Int32) then (
bd1 (f_X11_ran (31 : Int32) I J) fun I46 =>
bd2 (f_X11_anyTells a0 I46 J) fun r48 I49 =>
bd2 (f_X11_parts (I49 98 37) I49 J) fun r51 I52 =>
some (r48 + r51, I52))
else (
if v44 = (3 : Int32) then (
bd1 (f_X11_ran (31 : Int32) I J) fun I55 =>
bd2 (f_X11_anyTells a0 I55 J) fun r57 I58 =>
bd2 (f_X11_parts (I58 98 37) I58 J) fun r60 I61 =>
some (r57 + r60, I61))
else (
if v44 = (5 : Int32) then (
bd1 (f_X11_ran (60 : Int32) I J) fun I64 =>
bd2 (f_X11_anyTells a0 I64 J) fun r66 I67 =>
some (r66 * (2 : Int32), I67))
else (
if v44 = (6 : Int32) then (
bd1 (f_X11_ran (60 : Int32) I J) fun I70 =>
bd2 (f_X11_anyTells a0 I70 J) fun r72 I73 =>
some (r72 * (2 : Int32), I73))
else (
if v44 = (7 : Int32) then (
bd1 (f_X11_ran (83 : Int32) I J) fun I76 =>
bd2 (f_X11_swings a0 I76 J) fun r78 I79 =>
bd2 (f_X11_parts (I79 98 37) I79 J) fun r81 I82 =>
some (r78 - r81, I82))
else (
bd2 (f_X11_anyTells a0 I J) fun r84 I85 =>
some (r84, I85))))))
def fB_X11_act_88 (a0 : Int32) (a1 : Int32) (a2 : Int32) (s0 : Int32) (I : HI) (J : HJ) : Option (Int32 × HI × HJ) :=
if (I 98 41) = 0 then (
some (s0, I, J))
else (
some ((-15 : Int32), I, J))
def f_X11_act (a0 : Int32) (a1 : Int32) (a2 : Int32) (I : HI) (J : HJ) : Option (Int32 × HI × HJ) :=
nm (put I 98 40 (0 : Int32)) fun I22 =>
bd1 (f_X11_isOne a0) fun r23 =>
if r23 = 0 then (
some ((0 : Int32), I22, J))
else (
bd1 (f_X11_in (a1.toInt64) (0 : Int64) (3 : Int64)) fun r25 =>
if r25 = 0 then (
some ((0 : Int32), I22, J))
else (
bd2 (f_X11_takes a0 I22 J) fun I27 J28 =>
if 0 ≤ (I27 98 36) then (
nm (put I27 98 41 (0 : Int32)) fun I30 =>
if a1 = 0 then (
bd2 (f_X11_grows a2 I30 J28) fun r40 I41 =>
fB_X11_act_88 a0 a1 a2 r40 I41 J28)
else (
if a1 = (1 : Int32) then (
bd2 (f_X11_swings a2 I30 J28) fun r37 I38 =>
fB_X11_act_88 a0 a1 a2 r37 I38 J28)
else (
if a1 = (2 : Int32) then (
bd2 (f_X11_parts a2 I30 J28) fun r34 I35 =>
fB_X11_act_88 a0 a1 a2 r34 I35 J28)
else (
bd2 (f_X11_tells a2 I30 J28) fun r31 I32 =>
fB_X11_act_88 a0 a1 a2 r31 I32 J28))))
else (
some ((0 : Int32), I27, J28))))
def f_X11_trace (a0 : Int32) (I : HI) (J : HJ) : Option (Int32) :=
bd1 (f_X11_in (a0.toInt64) (0 : Int64) (((I 98 40) - (1 : Int32)).toInt64)) fun r3 =>
if r3 = 0 then (
some ((-3 : Int32)))
else (
if vin a0 30 = true then (
some (I 122 a0.toNatClampNeg)) else none)
def f_X11_many (a0 : Int32) (I : HI) (J : HJ) : Option (Int32) :=
if a0 = (0 : Int32) then (
if vin (9 : Int32) 666 = true then (
some (I 99 (9 : Int32).toNatClampNeg)) else none)
else (
if a0 = (1 : Int32) then (
if vin (10 : Int32) 666 = true then (
some (I 99 (10 : Int32).toNatClampNeg)) else none)
else (
if a0 = (2 : Int32) then (
some (I 98 29))
else (
if a0 = (3 : Int32) then (
some (I 98 19))
else (
if a0 = (4 : Int32) then (
some (I 98 40))
else (
if a0 = (5 : Int32) then (
if vin (11 : Int32) 666 = true then (
some (I 99 (11 : Int32).toNatClampNeg)) else none)
else (
some ((-1 : Int32))))))))
def fLB_X11_keep_29 (r_29 : Int32 → HI → HJ → Option (Int32 × HI × HJ)) (x1 : Int32) (I : HI) (J : HJ) : Option (Int32 × HI × HJ) :=
if (3 : Int32) ≤ x1 then (
nm (put I 98 4 (1 : Int32)) fun I6 =>
some ((1 : Int32), I6, J))
else (
if vin x1 3 = true then (
if vin x1 3 = true then (
nm (putJ J 102 x1.toNatClampNeg (J 101 x1.toNatClampNeg)) fun J7 =>
nm (x1 + (1 : Int32)) fun v8 =>
r_29 v8 I J7) else none) else none)
def fL_X11_keep_29 : Nat → Int32 → HI → HJ → Option (Int32 × HI × HJ)
  | 0 => fun _ _ _ => none
  | f + 1 => fLB_X11_keep_29 (fL_X11_keep_29 f)
def fLB_X11_keep_2 (r_2 : Int32 → HI → HJ → Option (Int32 × HI × HJ)) (x1 : Int32) (I : HI) (J : HJ) : Option (Int32 × HI × HJ) :=
if (666 : Int32) ≤ x1 then (
fL_X11_keep_29 FU (0 : Int32) I J)
else (
if vin x1 666 = true then (
if vin x1 666 = true then (
nm (put I 100 x1.toNatClampNeg (I 99 x1.toNatClampNeg)) fun I9 =>
nm (x1 + (1 : Int32)) fun v10 =>
r_2 v10 I9 J) else none) else none)
def fL_X11_keep_2 : Nat → Int32 → HI → HJ → Option (Int32 × HI × HJ)
  | 0 => fun _ _ _ => none
  | f + 1 => fLB_X11_keep_2 (fL_X11_keep_2 f)
def f_X11_keep (I : HI) (J : HJ) : Option (Int32 × HI × HJ) :=
fL_X11_keep_2 FU (0 : Int32) I J
def fLB_X11_again_39 (r_39 : Int32 → HI → HJ → Option (Int32 × HI × HJ)) (x1 : Int32) (I : HI) (J : HJ) : Option (Int32 × HI × HJ) :=
if (3 : Int32) ≤ x1 then (
some ((1 : Int32), I, J))
else (
if vin x1 3 = true then (
if vin x1 3 = true then (
nm (putJ J 101 x1.toNatClampNeg (J 102 x1.toNatClampNeg)) fun J5 =>
nm (x1 + (1 : Int32)) fun v6 =>
r_39 v6 I J5) else none) else none)
def fL_X11_again_39 : Nat → Int32 → HI → HJ → Option (Int32 × HI × HJ)
  | 0 => fun _ _ _ => none
  | f + 1 => fLB_X11_again_39 (fL_X11_again_39 f)
def fLB_X11_again_12 (r_12 : Int32 → HI → HJ → Option (Int32 × HI × HJ)) (x1 : Int32) (I : HI) (J : HJ) : Option (Int32 × HI × HJ) :=
if (666 : Int32) ≤ x1 then (
fL_X11_again_39 FU (0 : Int32) I J)
else (
if vin x1 666 = true then (
if vin x1 666 = true then (
nm (put I 99 x1.toNatClampNeg (I 100 x1.toNatClampNeg)) fun I7 =>
nm (x1 + (1 : Int32)) fun v8 =>
r_12 v8 I7 J) else none) else none)
def fL_X11_again_12 : Nat → Int32 → HI → HJ → Option (Int32 × HI × HJ)
  | 0 => fun _ _ _ => none
  | f + 1 => fLB_X11_again_12 (fL_X11_again_12 f)
def f_X11_again (I : HI) (J : HJ) : Option (Int32 × HI × HJ) :=
if (I 98 4) = 0 then (
some ((-3 : Int32), I, J))
else (
fL_X11_again_12 FU (0 : Int32) I J)

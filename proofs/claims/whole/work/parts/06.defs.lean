/-! what each method does, read off its bytecode by program (wip/whole/gen/gen.py) -/
def fX0_add (C : Xm) (a1 : Int32) (K : Int32 → Xm → Prop) : Prop :=
  if (C 1 1) < (61 : Int32) then
  (inb (C 1 1) 61 ∧
  bd (wr C 2 (Int32.toNatClampNeg (C 1 1)) a1) fun C3 =>
  bd (wr C3 1 1 ((C3 1 1) + (1 : Int32))) fun C4 =>
  K (C4 1 1) C4)
  else
  (K (-1004 : Int32) C)
def fX7_append (C : Xm) (a1 : Int32) (K : Int32 → Xm → Prop) : Prop :=
  jn (α := Prop) (K (-1002 : Int32) C) fun j1 =>
  if a1 < (32 : Int32) then
  (j1)
  else
  (if a1 ≤ (126 : Int32) then
  (fX0_add C a1 fun r4 C5 =>
  K r4 C5)
  else
  (j1))
def fX7_clearBuffer (C : Xm) (K : Int32 → Xm → Prop) : Prop :=
  bd ((C 1 1)) fun x1 =>
  bd (wr C 1 1 (0 : Int32)) fun C2 =>
  K x1 C2
def fX2_clear_L2  (E : Int32 → Xm → Prop) (K : Xm → Prop) : Nat → Int32 → Xm → Prop
  | 0, _, _ => False
  | n + 1, v1, C =>
  if (8 : Int32) ≤ v1 then
  (E v1 C)
  else
  (inb v1 8 ∧
  bd (flR C (5 + Int32.toNatClampNeg v1) 8 (0 : Int32)) fun C3 =>
  inb v1 8 ∧
  bd (flR C3 (14 + Int32.toNatClampNeg v1) 8 (0 : Int32)) fun C5 =>
  bd (v1 + (1 : Int32)) fun x6 =>
  fX2_clear_L2 E K n x6 C5)
def fX2_clear (C : Xm) (K : Xm → Prop) : Prop :=
  jn (α := Int32 → Xm → Prop) (fun (x8 : Int32) (C9 : Xm) =>
  K C9) fun j7 =>
  fX2_clear_L2  j7 K 200 (0 : Int32) C
def fX0_acceptsNodeCount (C : Xm) (a1 : Int32) (K : Int32 → Xm → Prop) : Prop :=
  jn (α := Prop) (K (0 : Int32) C) fun j1 =>
  if a1 < (2 : Int32) then
  (j1)
  else
  (if a1 ≤ (8 : Int32) then
  (bd (wr C 1 3 a1) fun C4 =>
  bd (wr C4 1 5 (1 : Int32)) fun C5 =>
  K (1 : Int32) C5)
  else
  (j1))
def fX0_acceptsLinkMark (C : Xm) (a1 : Int32) (K : Int32 → Xm → Prop) : Prop :=
  jn (α := Prop) (K (0 : Int32) C) fun j1 =>
  if a1 = (59 : Int32) then
  (if (C 1 4) < (12 : Int32) then
  (bd (wr C 1 4 ((C 1 4) + (1 : Int32))) fun C4 =>
  bd (wr C4 1 5 (2 : Int32)) fun C5 =>
  K (1 : Int32) C5)
  else
  (j1))
  else
  (j1)
def fX0_acceptsFirstNode (C : Xm) (a1 : Int32) (K : Int32 → Xm → Prop) : Prop :=
  jn (α := Prop) (K (0 : Int32) C) fun j1 =>
  if a1 < 0 then
  (j1)
  else
  (if a1 < (C 1 3) then
  (bd (wr C 1 6 a1) fun C4 =>
  bd (wr C4 1 5 (3 : Int32)) fun C5 =>
  K (1 : Int32) C5)
  else
  (j1))
def fX2_join (C : Xm) (a1 : Int32) (a2 : Int32) (K : Int32 → Prop) : Prop :=
  inb a1 8 ∧
  inb a2 8 ∧
  jn (α := Int32 → Prop) (fun (x5 : Int32) =>
  bl x5 ∧
  K x5) fun j3 =>
  if (C (5 + Int32.toNatClampNeg a1) (Int32.toNatClampNeg a2)) = 0 then
  (j3 (0 : Int32))
  else
  (j3 (1 : Int32))
def fX0_acceptsSecondNode (C : Xm) (a1 : Int32) (K : Int32 → Xm → Prop) : Prop :=
  jn (α := Prop) (K (0 : Int32) C) fun j1 =>
  if a1 ≤ (C 1 6) then
  (j1)
  else
  (if (C 1 3) ≤ a1 then
  (j1)
  else
  (fX2_join C (C 1 6) a1 fun r4 =>
  if r4 = 0 then
  (bd (wr C 1 7 a1) fun C6 =>
  bd (wr C6 1 5 (4 : Int32)) fun C7 =>
  K (1 : Int32) C7)
  else
  (j1)))
def fX2_setStrength (C : Xm) (a1 : Int32) (a2 : Int32) (a3 : Int32) (K : Xm → Prop) : Prop :=
  inb a1 8 ∧
  inb a2 8 ∧
  bd (wr C (5 + Int32.toNatClampNeg a1) (Int32.toNatClampNeg a2) a3) fun C3 =>
  inb a2 8 ∧
  inb a1 8 ∧
  bd (wr C3 (5 + Int32.toNatClampNeg a2) (Int32.toNatClampNeg a1) a3) fun C6 =>
  K C6
def fX0_acceptsStrength (C : Xm) (a1 : Int32) (K : Int32 → Xm → Prop) : Prop :=
  jn (α := Prop) (K (0 : Int32) C) fun j1 =>
  if a1 < (1 : Int32) then
  (j1)
  else
  (if a1 ≤ (9 : Int32) then
  (fX2_setStrength C (C 1 6) (C 1 7) a1 fun C4 =>
  bd (wr C4 1 5 (5 : Int32)) fun C5 =>
  K (1 : Int32) C5)
  else
  (j1))
def fX2_setLossPeriod (C : Xm) (a1 : Int32) (a2 : Int32) (a3 : Int32) (K : Xm → Prop) : Prop :=
  inb a1 8 ∧
  inb a2 8 ∧
  bd (wr C (14 + Int32.toNatClampNeg a1) (Int32.toNatClampNeg a2) a3) fun C3 =>
  inb a2 8 ∧
  inb a1 8 ∧
  bd (wr C3 (14 + Int32.toNatClampNeg a2) (Int32.toNatClampNeg a1) a3) fun C6 =>
  K C6
def fX0_acceptsLossPeriod (C : Xm) (a1 : Int32) (K : Int32 → Xm → Prop) : Prop :=
  jn (α := Prop) (K (0 : Int32) C) fun j1 =>
  if a1 < (2 : Int32) then
  (j1)
  else
  (if a1 ≤ (9 : Int32) then
  (fX2_setLossPeriod C (C 1 6) (C 1 7) a1 fun C4 =>
  bd (wr C4 1 5 (1 : Int32)) fun C5 =>
  K (1 : Int32) C5)
  else
  (j1))
def fX0_accepts (C : Xm) (a1 : Int32) (K : Int32 → Xm → Prop) : Prop :=
  if (C 1 5) = 0 then
  (fX0_acceptsNodeCount C (a1 - (48 : Int32)) fun r6 C7 =>
  bl r6 ∧
  K r6 C7)
  else
  if (C 1 5) = 1 then
  (fX0_acceptsLinkMark C a1 fun r9 C10 =>
  bl r9 ∧
  K r9 C10)
  else
  if (C 1 5) = 2 then
  (fX0_acceptsFirstNode C (a1 - (48 : Int32)) fun r12 C13 =>
  bl r12 ∧
  K r12 C13)
  else
  if (C 1 5) = 3 then
  (fX0_acceptsSecondNode C (a1 - (48 : Int32)) fun r15 C16 =>
  bl r15 ∧
  K r15 C16)
  else
  if (C 1 5) = 4 then
  (fX0_acceptsStrength C (a1 - (48 : Int32)) fun r18 C19 =>
  bl r18 ∧
  K r18 C19)
  else
  fX0_acceptsLossPeriod C (a1 - (48 : Int32)) fun r21 C22 =>
  jn (α := Int32 → Xm → Prop) (fun (x30 : Int32) (C31 : Xm) =>
  bl x30 ∧
  K x30 C31) fun j24 =>
  jn (α := Xm → Prop) (fun (C29 : Xm) =>
  j24 (1 : Int32) C29) fun j23 =>
  if r21 = 0 then
  (fX0_acceptsLinkMark C22 a1 fun r26 C27 =>
  if r26 = 0 then
  (j24 (0 : Int32) C27)
  else
  (j23 C27))
  else
  (j23 C22)
def fX0_findError_L19  (E : Int32 → Xm → Prop) (K : Int32 → Xm → Prop) : Nat → Int32 → Xm → Prop
  | 0, _, _ => False
  | n + 1, v1, C =>
  if (C 1 1) ≤ v1 then
  (E v1 C)
  else
  (inb v1 61 ∧
  fX0_accepts C (C 2 (Int32.toNatClampNeg v1)) fun r6 C7 =>
  if r6 = 0 then
  (K v1 C7)
  else
  (bd (v1 + (1 : Int32)) fun x9 =>
  fX0_findError_L19 E K n x9 C7))
def fX0_findError (C : Xm) (K : Int32 → Xm → Prop) : Prop :=
  fX2_clear C fun C1 =>
  bd (wr C1 1 4 (0 : Int32)) fun C2 =>
  bd (wr C2 1 5 (0 : Int32)) fun C3 =>
  jn (α := Int32 → Xm → Prop) (fun (x11 : Int32) (C12 : Xm) =>
  K (C12 1 1) C12) fun j10 =>
  fX0_findError_L19  j10 K 200 (0 : Int32) C3
def fX7_errorPosition (C : Xm) (K : Int32 → Xm → Prop) : Prop :=
  fX0_findError C fun r1 C2 =>
  K r1 C2
def fX0_isComplete (C : Xm) (K : Int32 → Xm → Prop) : Prop :=
  fX0_findError C fun r1 C2 =>
  jn (α := Int32 → Prop) (fun (x9 : Int32) =>
  bl x9 ∧
  K x9 C2) fun j4 =>
  jn (α := Prop) (j4 (0 : Int32)) fun j3 =>
  if r1 = (C2 1 1) then
  (jn (α := Prop) (j4 (1 : Int32)) fun j6 =>
  if (C2 1 5) = (1 : Int32) then
  (j6)
  else
  (if (C2 1 5) = (5 : Int32) then
  (j6)
  else
  (j3)))
  else
  (j3)
def fX2_copyFrom_L2  (E : Int32 → Xm → Prop) (K : Xm → Prop) : Nat → Int32 → Xm → Prop
  | 0, _, _ => False
  | n + 1, v2, C =>
  if (8 : Int32) ≤ v2 then
  (E v2 C)
  else
  (inb v2 8 ∧
  inb v2 8 ∧
  bd (wrR C (25 + Int32.toNatClampNeg v2) (va_cpy (C (5 + Int32.toNatClampNeg v2)) (C (25 + Int32.toNatClampNeg v2)) (Int32.toNatClampNeg 0) (Int32.toNatClampNeg 0) (Int32.toNatClampNeg 8))) fun C4 =>
  inb v2 8 ∧
  inb v2 8 ∧
  bd (wrR C4 (34 + Int32.toNatClampNeg v2) (va_cpy (C4 (14 + Int32.toNatClampNeg v2)) (C4 (34 + Int32.toNatClampNeg v2)) (Int32.toNatClampNeg 0) (Int32.toNatClampNeg 0) (Int32.toNatClampNeg 8))) fun C7 =>
  bd (v2 + (1 : Int32)) fun x8 =>
  fX2_copyFrom_L2 E K n x8 C7)
def fX2_copyFrom (C : Xm) (K : Xm → Prop) : Prop :=
  jn (α := Int32 → Xm → Prop) (fun (x10 : Int32) (C11 : Xm) =>
  K C11) fun j9 =>
  fX2_copyFrom_L2  j9 K 200 (0 : Int32) C
def fX3_startAnew_L15 (p1 : Int32) (E : Int32 → Xm → Prop) (K : Xm → Prop) : Nat → Int32 → Xm → Prop
  | 0, _, _ => False
  | n + 1, v3, C =>
  if (8 : Int32) ≤ v3 then
  (E v3 C)
  else
  (inb v3 8 ∧
  bd (wr C 42 (Int32.toNatClampNeg v3) (1 : Int32)) fun C5 =>
  inb v3 8 ∧
  bd (wr C5 43 (Int32.toNatClampNeg v3) (0 : Int32)) fun C7 =>
  inb v3 8 ∧
  bd (wr C7 44 (Int32.toNatClampNeg v3) (0 : Int32)) fun C9 =>
  bd (v3 + (1 : Int32)) fun x10 =>
  fX3_startAnew_L15 p1 E K n x10 C9)
def fX3_startAnew (C : Xm) (a1 : Int32) (K : Xm → Prop) : Prop :=
  fX2_copyFrom C fun C1 =>
  bd (wr C1 22 1 a1) fun C2 =>
  jn (α := Int32 → Xm → Prop) (fun (x12 : Int32) (C13 : Xm) =>
  K C13) fun j11 =>
  fX3_startAnew_L15 a1 j11 K 200 (0 : Int32) C2
def fX1_forget (C : Xm) (K : Xm → Prop) : Prop :=
  bd (flR C 48 8 (-1 : Int32)) fun C1 =>
  bd (flR C1 49 8 (-1 : Int32)) fun C2 =>
  bd (wr C2 46 3 (0 : Int32)) fun C3 =>
  K C3
def fX7_loadNetwork (C : Xm) (K : Int32 → Xm → Prop) : Prop :=
  fX0_isComplete C fun r1 C2 =>
  if r1 = 0 then
  (K (-1003 : Int32) C2)
  else
  (fX3_startAnew C2 (C2 1 3) fun C4 =>
  bd (wr C4 1 1 (0 : Int32)) fun C5 =>
  fX1_forget C5 fun C6 =>
  bd (wr C6 50 1 (0 : Int32)) fun C7 =>
  bd (wr C7 64 1 (0 : Int32)) fun C8 =>
  bd (wr C8 0 7 (0 : Int32)) fun C9 =>
  bd (wr C9 0 8 (0 : Int32)) fun C10 =>
  K (C10 22 1) C10)
def fX7_setTransmissionLimit (C : Xm) (a1 : Int32) (K : Int32 → Xm → Prop) : Prop :=
  jn (α := Prop) (K (-1002 : Int32) C) fun j1 =>
  if a1 < (1 : Int32) then
  (j1)
  else
  (if a1 ≤ (4 : Int32) then
  (bd ((C 46 4)) fun x4 =>
  bd (wr C 46 4 a1) fun C5 =>
  K x4 C5)
  else
  (j1))
def fX7_setCaptureMargin (C : Xm) (a1 : Int32) (K : Int32 → Xm → Prop) : Prop :=
  jn (α := Prop) (K (-1002 : Int32) C) fun j1 =>
  if a1 < (1 : Int32) then
  (j1)
  else
  (if a1 ≤ (9 : Int32) then
  (bd ((C 46 5)) fun x4 =>
  bd (wr C 46 5 a1) fun C5 =>
  K x4 C5)
  else
  (j1))
def fX7_setSlotLimit (C : Xm) (a1 : Int32) (K : Int32 → Xm → Prop) : Prop :=
  jn (α := Prop) (K (-1002 : Int32) C) fun j1 =>
  if a1 < 0 then
  (j1)
  else
  (if a1 ≤ (6 : Int32) then
  (bd ((C 0 5)) fun x4 =>
  bd (wr C 0 5 a1) fun C5 =>
  K x4 C5)
  else
  (j1))
def fX7_setTakeoverLimit (C : Xm) (a1 : Int32) (K : Int32 → Xm → Prop) : Prop :=
  jn (α := Prop) (K (-1002 : Int32) C) fun j1 =>
  if a1 < (1 : Int32) then
  (j1)
  else
  (if a1 ≤ (9 : Int32) then
  (bd ((C 0 6)) fun x4 =>
  bd (wr C 0 6 a1) fun C5 =>
  K x4 C5)
  else
  (j1))
def fX3_has (C : Xm) (a1 : Int32) (K : Int32 → Prop) : Prop :=
  jn (α := Int32 → Prop) (fun (x5 : Int32) =>
  bl x5 ∧
  K x5) fun j2 =>
  jn (α := Prop) (j2 (0 : Int32)) fun j1 =>
  if a1 < 0 then
  (j1)
  else
  (if (C 22 1) ≤ a1 then
  (j1)
  else
  (j2 (1 : Int32)))
def fX7_setAlive (C : Xm) (a1 : Int32) (a2 : Int32) (K : Int32 → Xm → Prop) : Prop :=
  fX3_has C a1 fun r1 =>
  if r1 = 0 then
  (K (-1001 : Int32) C)
  else
  (inb a1 8 ∧
  bd ((C 42 (Int32.toNatClampNeg a1))) fun x4 =>
  jn (α := Xm → Prop) (fun (C12 : Xm) =>
  jn (α := Int32 → Prop) (fun (x15 : Int32) =>
  K x15 C12) fun j13 =>
  if x4 = 0 then
  (j13 (0 : Int32))
  else
  (j13 (1 : Int32))) fun j5 =>
  if x4 = a2 then
  (j5 C)
  else
  (inb a1 8 ∧
  bl a2 ∧
  bd (wr C 42 (Int32.toNatClampNeg a1) a2) fun C9 =>
  inb a1 8 ∧
  bd (wr C9 43 (Int32.toNatClampNeg a1) (0 : Int32)) fun C11 =>
  j5 C11))
def fX3_areAlive_L2 (C : Xm) (p1 : Int32) (E : Int32 → Prop) (K : Int32 → Prop) : Nat → Int32 → Prop
  | 0, _ => False
  | n + 1, v2 =>
  if (C 22 1) ≤ v2 then
  (E v2)
  else
  (jn (α := Prop) (bd (v2 + (1 : Int32)) fun x6 =>
  fX3_areAlive_L2 C p1 E K n x6) fun j2 =>
  if ((p1 >>> (v2 &&& 31)) &&& (1 : Int32)) = (1 : Int32) then
  (inb v2 8 ∧
  if (C 42 (Int32.toNatClampNeg v2)) = 0 then
  (K (0 : Int32))
  else
  (j2))
  else
  (j2))
def fX3_areAlive (C : Xm) (a1 : Int32) (K : Int32 → Prop) : Prop :=
  jn (α := Int32 → Prop) (fun (x8 : Int32) =>
  K (1 : Int32)) fun j7 =>
  fX3_areAlive_L2 C a1 j7 K 200 (0 : Int32)
def fX1_hold (C : Xm) (a2 : Int32) (a3 : Int32) (a4 : Int32) (K : Xm → Prop) : Prop :=
  inb a2 8 ∧
  bd (wr C 48 (Int32.toNatClampNeg a2) a3) fun C2 =>
  inb a2 8 ∧
  bd (wr C2 49 (Int32.toNatClampNeg a2) a4) fun C4 =>
  inb a2 8 ∧
  inb a2 8 ∧
  bd (wr C4 44 (Int32.toNatClampNeg a2) ((C4 44 (Int32.toNatClampNeg a2)) + (C4 46 4))) fun C7 =>
  bd (wr C7 46 3 (if (C7 46 3) < ((a4 + ((2 : Int32) * (C7 46 4))) - (1 : Int32)) then ((a4 + ((2 : Int32) * (C7 46 4))) - (1 : Int32)) else (C7 46 3))) fun C8 =>
  K C8
def fX1_transmits (C : Xm) (a1 : Int32) (a2 : Int32) (K : Int32 → Prop) : Prop :=
  inb a1 8 ∧
  if (C 48 (Int32.toNatClampNeg a1)) = (-1 : Int32) then
  (K (0 : Int32))
  else
  (inb a1 8 ∧
  bd ((a2 - (C 49 (Int32.toNatClampNeg a1)))) fun x4 =>
  jn (α := Int32 → Prop) (fun (x10 : Int32) =>
  bl x10 ∧
  K x10) fun j6 =>
  jn (α := Prop) (j6 (0 : Int32)) fun j5 =>
  if x4 < 0 then
  (j5)
  else
  (if (irm x4 (2 : Int32)) = 0 then
  (if (C 46 4) ≤ (x4 / (2 : Int32)) then
  (j5)
  else
  (j6 (1 : Int32)))
  else
  (j5)))
def fX2_signal (C : Xm) (a1 : Int32) (a2 : Int32) (a3 : Int32) (K : Int32 → Prop) : Prop :=
  inb a1 8 ∧
  inb a2 8 ∧
  bd ((C (34 + Int32.toNatClampNeg a1) (Int32.toNatClampNeg a2))) fun x3 =>
  jn (α := Prop) (inb a1 8 ∧
  inb a2 8 ∧
  K (C (25 + Int32.toNatClampNeg a1) (Int32.toNatClampNeg a2))) fun j4 =>
  if x3 ≤ 0 then
  (j4)
  else
  (¬ x3 = 0 ∧
  if (irm (a3 + (1 : Int32)) x3) = 0 then
  (K (0 : Int32))
  else
  (j4))
def fX1_measureLevels_L11 (p2 : Int32) (p3 : Int32) (E : Int32 → Xm → Prop) (K : Xm → Prop) : Nat → Int32 → Xm → Prop
  | 0, _, _ => False
  | n + 1, v4, C =>
  if (8 : Int32) ≤ v4 then
  (E v4 C)
  else
  (fX1_transmits C v4 p3 fun r3 =>
  jn (α := Xm → Prop) (fun (C12 : Xm) =>
  bd (v4 + (1 : Int32)) fun x13 =>
  fX1_measureLevels_L11 p2 p3 E K n x13 C12) fun j4 =>
  if r3 = 0 then
  (j4 C)
  else
  (inb v4 8 ∧
  bd ((C 48 (Int32.toNatClampNeg v4))) fun x7 =>
  inb x7 8 ∧
  fX2_signal C v4 p2 p3 fun r9 =>
  inb x7 8 ∧
  bd (wr C 47 (Int32.toNatClampNeg x7) (if (C 47 (Int32.toNatClampNeg x7)) < r9 then r9 else (C 47 (Int32.toNatClampNeg x7)))) fun C11 =>
  j4 C11))
def fX1_measureLevels (C : Xm) (a2 : Int32) (a3 : Int32) (K : Xm → Prop) : Prop :=
  bd (flR C 47 8 (0 : Int32)) fun C1 =>
  jn (α := Int32 → Xm → Prop) (fun (x15 : Int32) (C16 : Xm) =>
  K C16) fun j14 =>
  fX1_measureLevels_L11 a2 a3 j14 K 200 (0 : Int32) C1
def fX1_capturedPacket_L9 (C : Xm) (E : Int32 → Int32 → Int32 → Int32 → Prop) (K : Int32 → Prop) : Nat → Int32 → Int32 → Int32 → Int32 → Prop
  | 0, _, _, _, _ => False
  | n + 1, v1, v2, v3, v4 =>
  if (8 : Int32) ≤ v4 then
  (E v1 v2 v3 v4)
  else
  (inb v4 8 ∧
  jn (α := Int32 → Int32 → Int32 → Prop) (fun (x11 : Int32) (x12 : Int32) (x13 : Int32) =>
  bd (v4 + (1 : Int32)) fun x14 =>
  fX1_capturedPacket_L9 C E K n x11 x12 x13 x14) fun j3 =>
  if (C 47 (Int32.toNatClampNeg v4)) ≤ v2 then
  (inb v4 8 ∧
  if (C 47 (Int32.toNatClampNeg v4)) ≤ v3 then
  (j3 v1 v2 v3)
  else
  (inb v4 8 ∧
  bd ((C 47 (Int32.toNatClampNeg v4))) fun x8 =>
  j3 v1 v2 x8))
  else
  (inb v4 8 ∧
  bd ((C 47 (Int32.toNatClampNeg v4))) fun x10 =>
  j3 v4 x10 v2))
def fX1_capturedPacket (C : Xm) (K : Int32 → Prop) : Prop :=
  jn (α := Int32 → Int32 → Int32 → Int32 → Prop) (fun (x16 : Int32) (x17 : Int32) (x18 : Int32) (x19 : Int32) =>
  jn (α := Int32 → Prop) (fun (x22 : Int32) =>
  jn (α := Int32 → Prop) (fun (x27 : Int32) =>
  K x27) fun j24 =>
  jn (α := Prop) (j24 x16) fun j23 =>
  if x22 = 0 then
  (if (x17 - x18) < (C 46 5) then
  (j24 (-1 : Int32))
  else
  (j23))
  else
  (j23)) fun j20 =>
  if x18 = 0 then
  (j20 (1 : Int32))
  else
  (j20 (0 : Int32))) fun j15 =>
  fX1_capturedPacket_L9 C j15 K 200 (-1 : Int32) (0 : Int32) (0 : Int32) (0 : Int32)
def fX1_runSlot_L2 (p2 : Int32) (E : Int32 → Xm → Prop) (K : Xm → Prop) : Nat → Int32 → Xm → Prop
  | 0, _, _ => False
  | n + 1, v3, C =>
  if (C 22 1) ≤ v3 then
  (E v3 C)
  else
  (inb v3 8 ∧
  jn (α := Xm → Prop) (fun (C11 : Xm) =>
  bd (v3 + (1 : Int32)) fun x12 =>
  fX1_runSlot_L2 p2 E K n x12 C11) fun j3 =>
  if (C 42 (Int32.toNatClampNeg v3)) = 0 then
  (j3 C)
  else
  (inb v3 8 ∧
  if (C 48 (Int32.toNatClampNeg v3)) = (-1 : Int32) then
  (fX1_measureLevels C v3 p2 fun C7 =>
  fX1_capturedPacket C7 fun r8 =>
  if r8 = (-1 : Int32) then
  (j3 C7)
  else
  (fX1_hold C7 v3 r8 (p2 + (1 : Int32)) fun C10 =>
  j3 C10))
  else
  (j3 C)))
def fX1_runSlot (C : Xm) (a2 : Int32) (K : Xm → Prop) : Prop :=
  jn (α := Int32 → Xm → Prop) (fun (x14 : Int32) (C15 : Xm) =>
  K C15) fun j13 =>
  fX1_runSlot_L2 a2 j13 K 200 (0 : Int32) C
def fX1_run_L6 (p2 : Int32) (E : Int32 → Xm → Prop) (K : Xm → Prop) : Nat → Int32 → Xm → Prop
  | 0, _, _ => False
  | n + 1, v3, C =>
  if (C 22 1) ≤ v3 then
  (E v3 C)
  else
  (jn (α := Xm → Prop) (fun (C6 : Xm) =>
  bd (v3 + (1 : Int32)) fun x7 =>
  fX1_run_L6 p2 E K n x7 C6) fun j3 =>
  if ((p2 >>> (v3 &&& 31)) &&& (1 : Int32)) = (1 : Int32) then
  (fX1_hold C v3 v3 (0 : Int32) fun C5 =>
  j3 C5)
  else
  (j3 C))
def fX1_run_L39 (p2 : Int32) (E : Int32 → Xm → Prop) (K : Xm → Prop) : Nat → Int32 → Xm → Prop
  | 0, _, _ => False
  | n + 1, v3, C =>
  if (64 : Int32) ≤ v3 then
  (E v3 C)
  else
  (if (C 46 3) ≤ v3 then
  (E v3 C)
  else
  (fX1_runSlot C v3 fun C13 =>
  bd (v3 + (1 : Int32)) fun x14 =>
  fX1_run_L39 p2 E K n x14 C13))
def fX1_run (C : Xm) (a2 : Int32) (K : Xm → Prop) : Prop :=
  fX1_forget C fun C1 =>
  jn (α := Int32 → Xm → Prop) (fun (x9 : Int32) (C10 : Xm) =>
  jn (α := Int32 → Xm → Prop) (fun (x16 : Int32) (C17 : Xm) =>
  K C17) fun j15 =>
  fX1_run_L39 a2 j15 K 200 (0 : Int32) C10) fun j8 =>
  fX1_run_L6 a2 j8 K 200 (0 : Int32) C1
def fX1_countHolders_L4 (C : Xm) (E : Int32 → Int32 → Prop) (K : Int32 → Prop) : Nat → Int32 → Int32 → Prop
  | 0, _, _ => False
  | n + 1, v1, v2 =>
  if (8 : Int32) ≤ v2 then
  (E v1 v2)
  else
  (inb v2 8 ∧
  jn (α := Int32 → Prop) (fun (x6 : Int32) =>
  bd (v2 + (1 : Int32)) fun x7 =>
  fX1_countHolders_L4 C E K n x6 x7) fun j3 =>
  if (C 48 (Int32.toNatClampNeg v2)) = (-1 : Int32) then
  (j3 v1)
  else
  (bd (v1 + (1 : Int32)) fun x5 =>
  j3 x5))
def fX1_countHolders (C : Xm) (K : Int32 → Prop) : Prop :=
  jn (α := Int32 → Int32 → Prop) (fun (x9 : Int32) (x10 : Int32) =>
  K x9) fun j8 =>
  fX1_countHolders_L4 C j8 K 200 (0 : Int32) (0 : Int32)
def fX7_flood (C : Xm) (a1 : Int32) (K : Int32 → Xm → Prop) : Prop :=
  jn (α := Prop) (K (-1002 : Int32) C) fun j1 =>
  if a1 ≤ 0 then
  (j1)
  else
  (if (a1 >>> ((C 22 1) &&& 31)) = 0 then
  (fX3_areAlive C a1 fun r4 =>
  if r4 = 0 then
  (K (-1003 : Int32) C)
  else
  (fX1_run C a1 fun C6 =>
  fX1_countHolders C6 fun r7 =>
  K r7 C6))
  else
  (j1))
def fX7_packetAt (C : Xm) (a1 : Int32) (K : Int32 → Prop) : Prop :=
  fX3_has C a1 fun r1 =>
  jn (α := Int32 → Prop) (fun (x5 : Int32) =>
  K x5) fun j2 =>
  if r1 = 0 then
  (j2 (-1001 : Int32))
  else
  (inb a1 8 ∧
  j2 (C 48 (Int32.toNatClampNeg a1)))
def fX7_hopCount (C : Xm) (a1 : Int32) (K : Int32 → Prop) : Prop :=
  fX3_has C a1 fun r1 =>
  jn (α := Int32 → Prop) (fun (x5 : Int32) =>
  K x5) fun j2 =>
  if r1 = 0 then
  (j2 (-1001 : Int32))
  else
  (inb a1 8 ∧
  j2 (C 49 (Int32.toNatClampNeg a1)))
def fX7_floodLength (C : Xm) (K : Int32 → Prop) : Prop :=
  K (C 46 3)
def fX5_startAnew (C : Xm) (kx : Int32) (a1 : Int32) (a2 : Int32) (a3 : Int32) (K : Xm → Prop) : Prop :=
  bd (wr C (52 + 2 * Int32.toNatClampNeg kx) 1 a1) fun C1 =>
  bd (wr C1 (52 + 2 * Int32.toNatClampNeg kx) 2 a2) fun C2 =>
  bd (wr C2 (52 + 2 * Int32.toNatClampNeg kx) 3 a3) fun C3 =>
  bd (wr C3 (52 + 2 * Int32.toNatClampNeg kx) 4 (0 : Int32)) fun C4 =>
  bd (wr C4 (52 + 2 * Int32.toNatClampNeg kx) 5 (0 : Int32)) fun C5 =>
  bd (wr C5 (52 + 2 * Int32.toNatClampNeg kx) 6 (0 : Int32)) fun C6 =>
  K C6
def fX6_add (C : Xm) (a1 : Int32) (a2 : Int32) (a3 : Int32) (K : Int32 → Xm → Prop) : Prop :=
  if (C 50 1) < (6 : Int32) then
  (inb (C 50 1) 6 ∧
  Int32.toNatClampNeg (C 51 (Int32.toNatClampNeg (C 50 1))) < 6 ∧
  fX5_startAnew C (C 51 (Int32.toNatClampNeg (C 50 1))) a1 a2 a3 fun C4 =>
  bd (wr C4 50 1 ((C4 50 1) + (1 : Int32))) fun C5 =>
  K ((C5 50 1) - (1 : Int32)) C5)
  else
  (K (-1004 : Int32) C)
def fX7_addStream (C : Xm) (a1 : Int32) (a2 : Int32) (a3 : Int32) (K : Int32 → Xm → Prop) : Prop :=
  fX3_has C a1 fun r1 =>
  if r1 = 0 then
  (K (-1001 : Int32) C)
  else
  (jn (α := Prop) (K (-1002 : Int32) C) fun j3 =>
  if a2 < (1 : Int32) then
  (j3)
  else
  (if (9 : Int32) < a2 then
  (j3)
  else
  (if a3 < 0 then
  (j3)
  else
  (if a3 ≤ (99 : Int32) then
  (fX6_add C a1 a2 a3 fun r8 C9 =>
  K r8 C9)
  else
  (j3)))))
def fX6_has (C : Xm) (a1 : Int32) (K : Int32 → Prop) : Prop :=
  jn (α := Int32 → Prop) (fun (x5 : Int32) =>
  bl x5 ∧
  K x5) fun j2 =>
  jn (α := Prop) (j2 (0 : Int32)) fun j1 =>
  if a1 < 0 then
  (j1)
  else
  (if (C 50 1) ≤ a1 then
  (j1)
  else
  (j2 (1 : Int32)))
def fX6_remove_L11 (p1 : Int32) (E : Int32 → Xm → Prop) (K : Xm → Prop) : Nat → Int32 → Xm → Prop
  | 0, _, _ => False
  | n + 1, v3, C =>
  if (C 50 1) ≤ v3 then
  (E v3 C)
  else
  (inb v3 6 ∧
  Int32.toNatClampNeg (C 51 (Int32.toNatClampNeg v3)) < 6 ∧
  inb (v3 - (1 : Int32)) 6 ∧
  bd (wr C 51 (Int32.toNatClampNeg (v3 - (1 : Int32))) (C 51 (Int32.toNatClampNeg v3))) fun C8 =>
  bd (v3 + (1 : Int32)) fun x9 =>
  fX6_remove_L11 p1 E K n x9 C8)
def fX6_remove (C : Xm) (a1 : Int32) (K : Xm → Prop) : Prop :=
  inb a1 6 ∧
  Int32.toNatClampNeg (C 51 (Int32.toNatClampNeg a1)) < 6 ∧
  bd ((a1 + (1 : Int32))) fun x3 =>
  jn (α := Int32 → Xm → Prop) (fun (x11 : Int32) (C12 : Xm) =>
  bd (wr C12 50 1 ((C12 50 1) - (1 : Int32))) fun C13 =>
  inb (C13 50 1) 6 ∧
  bd (wr C13 51 (Int32.toNatClampNeg (C13 50 1)) (C 51 (Int32.toNatClampNeg a1))) fun C15 =>
  K C15) fun j10 =>
  fX6_remove_L11 a1 j10 K 200 x3 C
def fX7_removeStream (C : Xm) (a1 : Int32) (K : Int32 → Xm → Prop) : Prop :=
  fX6_has C a1 fun r1 =>
  if r1 = 0 then
  (K (-1001 : Int32) C)
  else
  (fX6_remove C a1 fun C3 =>
  bd (wr C3 64 1 (0 : Int32)) fun C4 =>
  K (C4 50 1) C4)
def fX7_waitingPackets (C : Xm) (a1 : Int32) (K : Int32 → Prop) : Prop :=
  fX6_has C a1 fun r1 =>
  jn (α := Int32 → Prop) (fun (x6 : Int32) =>
  K x6) fun j2 =>
  if r1 = 0 then
  (j2 (-1001 : Int32))
  else
  (inb a1 6 ∧
  Int32.toNatClampNeg (C 51 (Int32.toNatClampNeg a1)) < 6 ∧
  j2 (C (52 + 2 * Int32.toNatClampNeg (C 51 (Int32.toNatClampNeg a1))) 4))
def fX7_deliveredPackets (C : Xm) (a1 : Int32) (K : Int32 → Prop) : Prop :=
  fX6_has C a1 fun r1 =>
  jn (α := Int32 → Prop) (fun (x6 : Int32) =>
  K x6) fun j2 =>
  if r1 = 0 then
  (j2 (-1001 : Int32))
  else
  (inb a1 6 ∧
  Int32.toNatClampNeg (C 51 (Int32.toNatClampNeg a1)) < 6 ∧
  j2 (C (52 + 2 * Int32.toNatClampNeg (C 51 (Int32.toNatClampNeg a1))) 5))
def fX7_lostPackets (C : Xm) (a1 : Int32) (K : Int32 → Prop) : Prop :=
  fX6_has C a1 fun r1 =>
  jn (α := Int32 → Prop) (fun (x6 : Int32) =>
  K x6) fun j2 =>
  if r1 = 0 then
  (j2 (-1001 : Int32))
  else
  (inb a1 6 ∧
  Int32.toNatClampNeg (C 51 (Int32.toNatClampNeg a1)) < 6 ∧
  j2 (C (52 + 2 * Int32.toNatClampNeg (C 51 (Int32.toNatClampNeg a1))) 6))
def fX5_generate (C : Xm) (kx : Int32) (a1 : Int32) (K : Xm → Prop) : Prop :=
  jn (α := Prop) (K C) fun j1 =>
  if a1 < (C (52 + 2 * Int32.toNatClampNeg kx) 3) then
  (j1)
  else
  (if (C (52 + 2 * Int32.toNatClampNeg kx) 2) < (1 : Int32) then
  (j1)
  else
  (¬ (C (52 + 2 * Int32.toNatClampNeg kx) 2) = 0 ∧
  if (irm (a1 - (C (52 + 2 * Int32.toNatClampNeg kx) 3)) (C (52 + 2 * Int32.toNatClampNeg kx) 2)) = 0 then
  (if (C (52 + 2 * Int32.toNatClampNeg kx) 4) < (4 : Int32) then
  (inb (C (52 + 2 * Int32.toNatClampNeg kx) 4) 4 ∧
  bd (wr C (53 + 2 * Int32.toNatClampNeg kx) (Int32.toNatClampNeg (C (52 + 2 * Int32.toNatClampNeg kx) 4)) a1) fun C8 =>
  bd (wr C8 (52 + 2 * Int32.toNatClampNeg kx) 4 ((C8 (52 + 2 * Int32.toNatClampNeg kx) 4) + (1 : Int32))) fun C9 =>
  K C9)
  else
  (bd (wr C (52 + 2 * Int32.toNatClampNeg kx) 6 ((C (52 + 2 * Int32.toNatClampNeg kx) 6) + (1 : Int32))) fun C10 =>
  K C10))
  else
  (j1)))
def fX6_generate_L2 (p1 : Int32) (E : Int32 → Xm → Prop) (K : Xm → Prop) : Nat → Int32 → Xm → Prop
  | 0, _, _ => False
  | n + 1, v2, C =>
  if (C 50 1) ≤ v2 then
  (E v2 C)
  else
  (inb v2 6 ∧
  Int32.toNatClampNeg (C 51 (Int32.toNatClampNeg v2)) < 6 ∧
  fX5_generate C (C 51 (Int32.toNatClampNeg v2)) p1 fun C4 =>
  bd (v2 + (1 : Int32)) fun x5 =>
  fX6_generate_L2 p1 E K n x5 C4)
def fX6_generate (C : Xm) (a1 : Int32) (K : Xm → Prop) : Prop :=
  jn (α := Int32 → Xm → Prop) (fun (x7 : Int32) (C8 : Xm) =>
  K C8) fun j6 =>
  fX6_generate_L2 a1 j6 K 200 (0 : Int32) C
def fX5_oldestRound (C : Xm) (kx : Int32) (K : Int32 → Prop) : Prop :=
  inb (0 : Int32) 4 ∧
  K (C (53 + 2 * Int32.toNatClampNeg kx) (Int32.toNatClampNeg (0 : Int32)))
def fX4_insert_L16 (p2 : Int32) (p3 : Int32) (E : Int32 → Xm → Prop) (K : Xm → Prop) : Nat → Int32 → Xm → Prop
  | 0, _, _ => False
  | n + 1, v4, C =>
  if v4 ≤ 0 then
  (E v4 C)
  else
  (inb (v4 - (1 : Int32)) 6 ∧
  inb (C 65 (Int32.toNatClampNeg (v4 - (1 : Int32)))) 6 ∧
  Int32.toNatClampNeg (C 51 (Int32.toNatClampNeg (C 65 (Int32.toNatClampNeg (v4 - (1 : Int32)))))) < 6 ∧
  fX5_oldestRound C (C 51 (Int32.toNatClampNeg (C 65 (Int32.toNatClampNeg (v4 - (1 : Int32)))))) fun r9 =>
  if r9 ≤ p3 then
  (E v4 C)
  else
  (inb (v4 - (1 : Int32)) 6 ∧
  inb v4 6 ∧
  bd (wr C 65 (Int32.toNatClampNeg v4) (C 65 (Int32.toNatClampNeg (v4 - (1 : Int32))))) fun C13 =>
  bd (v4 + (-1 : Int32)) fun x14 =>
  fX4_insert_L16 p2 p3 E K n x14 C13))
def fX4_insert (C : Xm) (a2 : Int32) (K : Xm → Prop) : Prop :=
  inb a2 6 ∧
  Int32.toNatClampNeg (C 51 (Int32.toNatClampNeg a2)) < 6 ∧
  fX5_oldestRound C (C 51 (Int32.toNatClampNeg a2)) fun r3 =>
  bd ((C 64 1)) fun x4 =>
  jn (α := Int32 → Xm → Prop) (fun (x16 : Int32) (C17 : Xm) =>
  inb x16 6 ∧
  bd (wr C17 65 (Int32.toNatClampNeg x16) a2) fun C19 =>
  bd (wr C19 64 1 ((C19 64 1) + (1 : Int32))) fun C20 =>
  K C20) fun j15 =>
  fX4_insert_L16 a2 r3 j15 K 200 x4 C
def fX4_build_L7 (p2 : Int32) (E : Int32 → Xm → Prop) (K : Xm → Prop) : Nat → Int32 → Xm → Prop
  | 0, _, _ => False
  | n + 1, v3, C =>
  if (C 50 1) ≤ v3 then
  (E v3 C)
  else
  (inb v3 6 ∧
  Int32.toNatClampNeg (C 51 (Int32.toNatClampNeg v3)) < 6 ∧
  jn (α := Xm → Prop) (fun (C8 : Xm) =>
  bd (v3 + (1 : Int32)) fun x9 =>
  fX4_build_L7 p2 E K n x9 C8) fun j5 =>
  if (C (52 + 2 * Int32.toNatClampNeg (C 51 (Int32.toNatClampNeg v3))) 4) ≤ 0 then
  (j5 C)
  else
  (fX4_insert C v3 fun C7 =>
  j5 C7))
def fX4_build (C : Xm) (a2 : Int32) (K : Xm → Prop) : Prop :=
  bd (wr C 64 1 (0 : Int32)) fun C1 =>
  jn (α := Int32 → Xm → Prop) (fun (x11 : Int32) (C12 : Xm) =>
  bd (wr C12 64 1 (if a2 < (C12 64 1) then a2 else (C12 64 1))) fun C13 =>
  K C13) fun j10 =>
  fX4_build_L7 a2 j10 K 200 (0 : Int32) C1
def fX3_noteSchedule_L2  (E : Int32 → Xm → Prop) (K : Xm → Prop) : Nat → Int32 → Xm → Prop
  | 0, _, _ => False
  | n + 1, v2, C =>
  if (C 22 1) ≤ v2 then
  (E v2 C)
  else
  (inb v2 8 ∧
  jn (α := Int32 → Prop) (fun (x5 : Int32) =>
  inb v2 8 ∧
  bl x5 ∧
  bd (wr C 45 (Int32.toNatClampNeg v2) x5) fun C8 =>
  inb v2 8 ∧
  jn (α := Xm → Prop) (fun (C19 : Xm) =>
  bd (v2 + (1 : Int32)) fun x20 =>
  fX3_noteSchedule_L2 E K n x20 C19) fun j10 =>
  if (C8 45 (Int32.toNatClampNeg v2)) = 0 then
  (inb v2 8 ∧
  if (C8 42 (Int32.toNatClampNeg v2)) = 0 then
  (j10 C8)
  else
  (inb v2 8 ∧
  inb v2 8 ∧
  bd (wr C8 43 (Int32.toNatClampNeg v2) ((C8 43 (Int32.toNatClampNeg v2)) + (1 : Int32))) fun C16 =>
  j10 C16))
  else
  (inb v2 8 ∧
  bd (wr C8 43 (Int32.toNatClampNeg v2) (0 : Int32)) fun C18 =>
  j10 C18)) fun j3 =>
  if (C 48 (Int32.toNatClampNeg v2)) = (-1 : Int32) then
  (j3 (0 : Int32))
  else
  (j3 (1 : Int32)))
def fX3_noteSchedule (C : Xm) (K : Xm → Prop) : Prop :=
  jn (α := Int32 → Xm → Prop) (fun (x22 : Int32) (C23 : Xm) =>
  K C23) fun j21 =>
  fX3_noteSchedule_L2  j21 K 200 (0 : Int32) C
def fX5_removeOldest_L2 (kx : Int32) (E : Int32 → Xm → Prop) (K : Xm → Prop) : Nat → Int32 → Xm → Prop
  | 0, _, _ => False
  | n + 1, v1, C =>
  if (C (52 + 2 * Int32.toNatClampNeg kx) 4) ≤ v1 then
  (E v1 C)
  else
  (inb v1 4 ∧
  inb (v1 - (1 : Int32)) 4 ∧
  bd (wr C (53 + 2 * Int32.toNatClampNeg kx) (Int32.toNatClampNeg (v1 - (1 : Int32))) (C (53 + 2 * Int32.toNatClampNeg kx) (Int32.toNatClampNeg v1))) fun C4 =>
  bd (v1 + (1 : Int32)) fun x5 =>
  fX5_removeOldest_L2 kx E K n x5 C4)
def fX5_removeOldest (C : Xm) (kx : Int32) (K : Xm → Prop) : Prop :=
  jn (α := Int32 → Xm → Prop) (fun (x7 : Int32) (C8 : Xm) =>
  jn (α := Xm → Prop) (fun (C12 : Xm) =>
  K C12) fun j9 =>
  if (C8 (52 + 2 * Int32.toNatClampNeg kx) 4) ≤ 0 then
  (j9 C8)
  else
  (bd (wr C8 (52 + 2 * Int32.toNatClampNeg kx) 4 ((C8 (52 + 2 * Int32.toNatClampNeg kx) 4) - (1 : Int32))) fun C11 =>
  j9 C11)) fun j6 =>
  fX5_removeOldest_L2 kx j6 K 200 (1 : Int32) C
def fX7_serveSchedule_L4  (E : Int32 → Int32 → Xm → Prop) (K : Int32 → Xm → Prop) : Nat → Int32 → Int32 → Xm → Prop
  | 0, _, _, _ => False
  | n + 1, v1, v2, C =>
  if (C 64 1) ≤ v2 then
  (E v1 v2 C)
  else
  (inb v2 6 ∧
  inb (C 65 (Int32.toNatClampNeg v2)) 6 ∧
  Int32.toNatClampNeg (C 51 (Int32.toNatClampNeg (C 65 (Int32.toNatClampNeg v2)))) < 6 ∧
  fX5_removeOldest C (C 51 (Int32.toNatClampNeg (C 65 (Int32.toNatClampNeg v2)))) fun C5 =>
  inb (C5 (52 + 2 * Int32.toNatClampNeg (C 51 (Int32.toNatClampNeg (C 65 (Int32.toNatClampNeg v2))))) 1) 8 ∧
  bd ((C5 45 (Int32.toNatClampNeg (C5 (52 + 2 * Int32.toNatClampNeg (C 51 (Int32.toNatClampNeg (C 65 (Int32.toNatClampNeg v2))))) 1)))) fun x7 =>
  jn (α := Xm → Prop) (fun (C11 : Xm) =>
  jn (α := Int32 → Xm → Prop) (fun (x20 : Int32) (C21 : Xm) =>
  bd (v2 + (1 : Int32)) fun x22 =>
  fX7_serveSchedule_L4 E K n x20 x22 C21) fun j13 =>
  jn (α := Prop) (bd (wr C11 (52 + 2 * Int32.toNatClampNeg (C 51 (Int32.toNatClampNeg (C 65 (Int32.toNatClampNeg v2))))) 6 ((C11 (52 + 2 * Int32.toNatClampNeg (C 51 (Int32.toNatClampNeg (C 65 (Int32.toNatClampNeg v2))))) 6) + (1 : Int32))) fun C19 =>
  j13 v1 C19) fun j12 =>
  if x7 = 0 then
  (j12)
  else
  (inb (C11 0 7) 8 ∧
  if (C11 48 (Int32.toNatClampNeg (C11 0 7))) = (-1 : Int32) then
  (j12)
  else
  (bd (wr C11 (52 + 2 * Int32.toNatClampNeg (C 51 (Int32.toNatClampNeg (C 65 (Int32.toNatClampNeg v2))))) 5 ((C11 (52 + 2 * Int32.toNatClampNeg (C 51 (Int32.toNatClampNeg (C 65 (Int32.toNatClampNeg v2))))) 5) + (1 : Int32))) fun C17 =>
  bd (v1 + (1 : Int32)) fun x18 =>
  j13 x18 C17))) fun j8 =>
  if x7 = 0 then
  (j8 C5)
  else
  (fX1_run C5 ((1 : Int32) <<< ((C5 (52 + 2 * Int32.toNatClampNeg (C 51 (Int32.toNatClampNeg (C 65 (Int32.toNatClampNeg v2))))) 1) &&& 31)) fun C10 =>
  j8 C10))
def fX7_serveSchedule (C : Xm) (K : Int32 → Xm → Prop) : Prop :=
  jn (α := Int32 → Int32 → Xm → Prop) (fun (x24 : Int32) (x25 : Int32) (C26 : Xm) =>
  K x24 C26) fun j23 =>
  fX7_serveSchedule_L4  j23 K 200 (0 : Int32) (0 : Int32) C
def fX3_noteNoSchedule_L2  (E : Int32 → Xm → Prop) (K : Xm → Prop) : Nat → Int32 → Xm → Prop
  | 0, _, _ => False
  | n + 1, v1, C =>
  if (C 22 1) ≤ v1 then
  (E v1 C)
  else
  (inb v1 8 ∧
  jn (α := Xm → Prop) (fun (C8 : Xm) =>
  bd (v1 + (1 : Int32)) fun x9 =>
  fX3_noteNoSchedule_L2 E K n x9 C8) fun j3 =>
  if (C 42 (Int32.toNatClampNeg v1)) = 0 then
  (j3 C)
  else
  (inb v1 8 ∧
  inb v1 8 ∧
  bd (wr C 43 (Int32.toNatClampNeg v1) ((C 43 (Int32.toNatClampNeg v1)) + (1 : Int32))) fun C7 =>
  j3 C7))
def fX3_noteNoSchedule (C : Xm) (K : Xm → Prop) : Prop :=
  jn (α := Int32 → Xm → Prop) (fun (x11 : Int32) (C12 : Xm) =>
  K C12) fun j10 =>
  fX3_noteNoSchedule_L2  j10 K 200 (0 : Int32) C
def fX7_takeOver_L2  (E : Int32 → Xm → Prop) (K : Xm → Prop) : Nat → Int32 → Xm → Prop
  | 0, _, _ => False
  | n + 1, v1, C =>
  if (C 22 1) ≤ v1 then
  (E v1 C)
  else
  (inb v1 8 ∧
  jn (α := Prop) (bd (v1 + (1 : Int32)) fun x10 =>
  fX7_takeOver_L2 E K n x10 C) fun j3 =>
  if (C 42 (Int32.toNatClampNeg v1)) = 0 then
  (j3)
  else
  (inb v1 8 ∧
  if (C 43 (Int32.toNatClampNeg v1)) < (C 0 6) then
  (j3)
  else
  (bd (wr C 0 7 v1) fun C7 =>
  inb v1 8 ∧
  bd (wr C7 43 (Int32.toNatClampNeg v1) (0 : Int32)) fun C9 =>
  K C9)))
def fX7_takeOver (C : Xm) (K : Xm → Prop) : Prop :=
  jn (α := Int32 → Xm → Prop) (fun (x12 : Int32) (C13 : Xm) =>
  K C13) fun j11 =>
  fX7_takeOver_L2  j11 K 200 (0 : Int32) C
def fX7_runOneRound (C : Xm) (K : Int32 → Xm → Prop) : Prop :=
  fX6_generate C (C 0 8) fun C1 =>
  inb (C1 0 7) 8 ∧
  jn (α := Int32 → Xm → Prop) (fun (x13 : Int32) (C14 : Xm) =>
  bd (wr C14 0 8 ((C14 0 8) + (1 : Int32))) fun C15 =>
  K x13 C15) fun j3 =>
  if (C1 42 (Int32.toNatClampNeg (C1 0 7))) = 0 then
  (bd (wr C1 64 1 (0 : Int32)) fun C5 =>
  fX3_noteNoSchedule C5 fun C6 =>
  fX7_takeOver C6 fun C7 =>
  j3 (0 : Int32) C7)
  else
  (fX4_build C1 (C1 0 5) fun C8 =>
  fX1_run C8 ((1 : Int32) <<< ((C8 0 7) &&& 31)) fun C9 =>
  fX3_noteSchedule C9 fun C10 =>
  fX7_serveSchedule C10 fun r11 C12 =>
  j3 r11 C12)
def fX7_runRounds_L53 (p1 : Int32) (E : Int32 → Int32 → Xm → Prop) (K : Int32 → Xm → Prop) : Nat → Int32 → Int32 → Xm → Prop
  | 0, _, _, _ => False
  | n + 1, v2, v3, C =>
  if p1 ≤ v3 then
  (E v2 v3 C)
  else
  (fX7_runOneRound C fun r8 C9 =>
  bd ((v2 + r8)) fun x10 =>
  bd (v3 + (1 : Int32)) fun x11 =>
  fX7_runRounds_L53 p1 E K n x10 x11 C9)
def fX7_runRounds (C : Xm) (a1 : Int32) (K : Int32 → Xm → Prop) : Prop :=
  jn (α := Prop) (K (-1002 : Int32) C) fun j1 =>
  if a1 < (1 : Int32) then
  (j1)
  else
  (if a1 ≤ (20 : Int32) then
  (fX3_has C (C 0 7) fun r4 =>
  if r4 = 0 then
  (K (-1003 : Int32) C)
  else
  (if ((C 0 8) + a1) ≤ (9999 : Int32) then
  (jn (α := Int32 → Int32 → Xm → Prop) (fun (x13 : Int32) (x14 : Int32) (C15 : Xm) =>
  K x13 C15) fun j12 =>
  fX7_runRounds_L53 a1 j12 K 200 (0 : Int32) (0 : Int32) C)
  else
  (K (-1004 : Int32) C)))
  else
  (j1))
def fX7_scheduledStream (C : Xm) (a1 : Int32) (K : Int32 → Prop) : Prop :=
  jn (α := Int32 → Prop) (fun (x6 : Int32) =>
  K x6) fun j2 =>
  jn (α := Prop) (j2 (-1 : Int32)) fun j1 =>
  if a1 < 0 then
  (j1)
  else
  (if (C 64 1) ≤ a1 then
  (j1)
  else
  (inb a1 6 ∧
  j2 (C 65 (Int32.toNatClampNeg a1))))
def fX4_hasRepeatedSource_L4 (C : Xm) (E : Int32 → Int32 → Prop) (K : Int32 → Prop) : Nat → Int32 → Int32 → Prop
  | 0, _, _ => False
  | n + 1, v2, v3 =>
  if (C 64 1) ≤ v3 then
  (E v2 v3)
  else
  (inb v3 6 ∧
  inb (C 65 (Int32.toNatClampNeg v3)) 6 ∧
  Int32.toNatClampNeg (C 51 (Int32.toNatClampNeg (C 65 (Int32.toNatClampNeg v3)))) < 6 ∧
  bd (((1 : Int32) <<< ((C (52 + 2 * Int32.toNatClampNeg (C 51 (Int32.toNatClampNeg (C 65 (Int32.toNatClampNeg v3))))) 1) &&& 31))) fun x5 =>
  if (v2 &&& x5) = 0 then
  (bd ((v2 ||| x5)) fun x7 =>
  bd (v3 + (1 : Int32)) fun x8 =>
  fX4_hasRepeatedSource_L4 C E K n x7 x8)
  else
  (K (1 : Int32)))
def fX4_hasRepeatedSource (C : Xm) (K : Int32 → Prop) : Prop :=
  jn (α := Int32 → Int32 → Prop) (fun (x10 : Int32) (x11 : Int32) =>
  K (0 : Int32)) fun j9 =>
  fX4_hasRepeatedSource_L4 C j9 K 200 (0 : Int32) (0 : Int32)
def fX4_encodedSize (C : Xm) (K : Int32 → Prop) : Prop :=
  bd (((3 : Int32) * (C 64 1))) fun x1 =>
  fX4_hasRepeatedSource C fun r2 =>
  jn (α := Int32 → Prop) (fun (x5 : Int32) =>
  K ((8 : Int32) + x5)) fun j3 =>
  if r2 = 0 then
  (j3 (if (8 : Int32) < x1 then (8 : Int32) else x1))
  else
  (j3 x1)
def fX7_scheduleBits (C : Xm) (K : Int32 → Prop) : Prop :=
  fX4_encodedSize C fun r1 =>
  K r1
def fX7_host (C : Xm) (K : Int32 → Prop) : Prop :=
  K (C 0 7)
def fX7_missedSchedules (C : Xm) (a1 : Int32) (K : Int32 → Prop) : Prop :=
  fX3_has C a1 fun r1 =>
  jn (α := Int32 → Prop) (fun (x5 : Int32) =>
  K x5) fun j2 =>
  if r1 = 0 then
  (j2 (-1001 : Int32))
  else
  (inb a1 8 ∧
  j2 (C 43 (Int32.toNatClampNeg a1)))
def fX7_transmissions (C : Xm) (a1 : Int32) (K : Int32 → Prop) : Prop :=
  fX3_has C a1 fun r1 =>
  jn (α := Int32 → Prop) (fun (x5 : Int32) =>
  K x5) fun j2 =>
  if r1 = 0 then
  (j2 (-1001 : Int32))
  else
  (inb a1 8 ∧
  j2 (C 44 (Int32.toNatClampNeg a1)))
def fX7_roundNumber (C : Xm) (K : Int32 → Prop) : Prop :=
  K (C 0 8)
def fX7_digestNodes_L5 (C : Xm) (p1 : Int64) (E : Int64 → Int32 → Prop) (K : Int64 → Prop) : Nat → Int64 → Int32 → Prop
  | 0, _, _ => False
  | n + 1, v3, v5 =>
  if (C 22 1) ≤ v5 then
  (E v3 v5)
  else
  (inb v5 8 ∧
  bd ((((31 : Int64) * v3) + (Int32.toInt64 (C 48 (Int32.toNatClampNeg v5))))) fun x3 =>
  inb v5 8 ∧
  bd ((((31 : Int64) * x3) + (Int32.toInt64 (C 49 (Int32.toNatClampNeg v5))))) fun x5 =>
  inb v5 8 ∧
  bd ((((31 : Int64) * x5) + (Int32.toInt64 (C 43 (Int32.toNatClampNeg v5))))) fun x7 =>
  inb v5 8 ∧
  bd ((((31 : Int64) * x7) + (Int32.toInt64 (C 44 (Int32.toNatClampNeg v5))))) fun x9 =>
  inb v5 8 ∧
  jn (α := Int32 → Prop) (fun (x13 : Int32) =>
  bd ((((31 : Int64) * x9) + (Int32.toInt64 x13))) fun x14 =>
  bd (v5 + (1 : Int32)) fun x15 =>
  fX7_digestNodes_L5 C p1 E K n x14 x15) fun j11 =>
  if (C 42 (Int32.toNatClampNeg v5)) = 0 then
  (j11 (0 : Int32))
  else
  (j11 (1 : Int32)))
def fX7_digestNodes (C : Xm) (a1 : Int64) (K : Int64 → Prop) : Prop :=
  jn (α := Int64 → Int32 → Prop) (fun (x17 : Int64) (x18 : Int32) =>
  K x17) fun j16 =>
  fX7_digestNodes_L5 C a1 j16 K 200 a1 (0 : Int32)
def fX7_digestStreams_L5 (C : Xm) (p1 : Int64) (E : Int64 → Int32 → Prop) (K : Int64 → Prop) : Nat → Int64 → Int32 → Prop
  | 0, _, _ => False
  | n + 1, v3, v5 =>
  if (C 50 1) ≤ v5 then
  (E v3 v5)
  else
  (inb v5 6 ∧
  Int32.toNatClampNeg (C 51 (Int32.toNatClampNeg v5)) < 6 ∧
  bd ((((31 : Int64) * v3) + (Int32.toInt64 (C (52 + 2 * Int32.toNatClampNeg (C 51 (Int32.toNatClampNeg v5))) 4)))) fun x4 =>
  bd ((((31 : Int64) * x4) + (Int32.toInt64 (C (52 + 2 * Int32.toNatClampNeg (C 51 (Int32.toNatClampNeg v5))) 5)))) fun x5 =>
  bd ((((31 : Int64) * x5) + (Int32.toInt64 (C (52 + 2 * Int32.toNatClampNeg (C 51 (Int32.toNatClampNeg v5))) 6)))) fun x6 =>
  bd (v5 + (1 : Int32)) fun x7 =>
  fX7_digestStreams_L5 C p1 E K n x6 x7)
def fX7_digestStreams (C : Xm) (a1 : Int64) (K : Int64 → Prop) : Prop :=
  jn (α := Int64 → Int32 → Prop) (fun (x9 : Int64) (x10 : Int32) =>
  K x9) fun j8 =>
  fX7_digestStreams_L5 C a1 j8 K 200 a1 (0 : Int32)
def fX7_digest_L31 (C : Xm) (E : Int64 → Int32 → Prop) (K : Int64 → Prop) : Nat → Int64 → Int32 → Prop
  | 0, _, _ => False
  | n + 1, v1, v3 =>
  if (C 64 1) ≤ v3 then
  (E v1 v3)
  else
  (inb v3 6 ∧
  bd ((((31 : Int64) * v1) + (Int32.toInt64 (C 65 (Int32.toNatClampNeg v3))))) fun x6 =>
  bd (v3 + (1 : Int32)) fun x7 =>
  fX7_digest_L31 C E K n x6 x7)
def fX7_digest_L110 (C : Xm) (E : Int64 → Int32 → Prop) (K : Int64 → Prop) : Nat → Int64 → Int32 → Prop
  | 0, _, _ => False
  | n + 1, v1, v3 =>
  if (C 1 1) ≤ v3 then
  (E v1 v3)
  else
  (inb v3 61 ∧
  bd ((((31 : Int64) * v1) + (Int32.toInt64 (C 2 (Int32.toNatClampNeg v3))))) fun x17 =>
  bd (v3 + (1 : Int32)) fun x18 =>
  fX7_digest_L110 C E K n x17 x18)
def fX7_digest (C : Xm) (K : Int64 → Prop) : Prop :=
  fX7_digestNodes C (1753 : Int64) fun r1 =>
  bd ((((31 : Int64) * r1) + (Int32.toInt64 (C 46 3)))) fun x2 =>
  fX7_digestStreams C x2 fun r3 =>
  jn (α := Int64 → Int32 → Prop) (fun (x9 : Int64) (x10 : Int32) =>
  fX4_encodedSize C fun r11 =>
  bd ((((31 : Int64) * x9) + (Int32.toInt64 r11))) fun x12 =>
  bd ((((31 : Int64) * x12) + (Int32.toInt64 (C 0 7)))) fun x13 =>
  bd ((((31 : Int64) * x13) + (Int32.toInt64 (C 0 8)))) fun x14 =>
  jn (α := Int64 → Int32 → Prop) (fun (x20 : Int64) (x21 : Int32) =>
  K (((31 : Int64) * x20) + (Int32.toInt64 (C 1 1)))) fun j19 =>
  fX7_digest_L110 C j19 K 200 x14 (0 : Int32)) fun j8 =>
  fX7_digest_L31 C j8 K 200 r3 (0 : Int32)
def fX8_within (a1 : Int32) (a2 : Int32) (a3 : Int32) (K : Int32 → Prop) : Prop :=
  jn (α := Int32 → Prop) (fun (x5 : Int32) =>
  bl x5 ∧
  K x5) fun j2 =>
  jn (α := Prop) (j2 (0 : Int32)) fun j1 =>
  if a1 < a2 then
  (j1)
  else
  (if a3 < a1 then
  (j1)
  else
  (j2 (1 : Int32)))
def fX8_append (N : Nm) (a1 : Int32) (K : Int32 → Nm → Prop) : Prop :=
  fX8_within a1 (32 : Int32) (126 : Int32) fun r1 =>
  if r1 = 0 then
  (K (-1002 : Int32) N)
  else
  (if (N.1 66 0) = (61 : Int32) then
  (K (-1004 : Int32) N)
  else
  (inb (N.1 66 0) 61 ∧
  bd (wrN N 67 (Int32.toNatClampNeg (N.1 66 0)) a1) fun N5 =>
  bd (wrN N5 66 0 ((N5.1 66 0) + (1 : Int32))) fun N6 =>
  K (N6.1 66 0) N6))
def fX8_clearBuffer (N : Nm) (K : Int32 → Nm → Prop) : Prop :=
  bd ((N.1 66 0)) fun x1 =>
  bd (wrN N 66 0 (0 : Int32)) fun N2 =>
  K x1 N2
def fX8_isJoined_L5 (N : Nm) (p1 : Int32) (p2 : Int32) (E : Int32 → Int32 → Prop) (K : Int32 → Prop) : Nat → Int32 → Int32 → Prop
  | 0, _, _ => False
  | n + 1, v3, v4 =>
  if (N.1 66 31) ≤ v4 then
  (E v3 v4)
  else
  (jn (α := Int32 → Prop) (fun (x10 : Int32) =>
  bd (v4 + (1 : Int32)) fun x11 =>
  fX8_isJoined_L5 N p1 p2 E K n x10 x11) fun j3 =>
  jn (α := Prop) (j3 (1 : Int32)) fun j2 =>
  if v3 = 0 then
  (inb v4 12 ∧
  jn (α := Prop) (j3 (0 : Int32)) fun j6 =>
  if (N.1 85 (Int32.toNatClampNeg v4)) = p1 then
  (inb v4 12 ∧
  if (N.1 86 (Int32.toNatClampNeg v4)) = p2 then
  (j2)
  else
  (j6))
  else
  (j6))
  else
  (j2))
def fX8_isJoined (N : Nm) (a1 : Int32) (a2 : Int32) (K : Int32 → Prop) : Prop :=
  jn (α := Int32 → Int32 → Prop) (fun (x13 : Int32) (x14 : Int32) =>
  bl x13 ∧
  K x13) fun j12 =>
  fX8_isJoined_L5 N a1 a2 j12 K 200 (0 : Int32) (0 : Int32)
def fX8_parse_L24  (E : Int32 → Int32 → Int32 → Int32 → Nm → Prop) (K : Nm → Prop) : Nat → Int32 → Int32 → Int32 → Int32 → Nm → Prop
  | 0, _, _, _, _, _ => False
  | n + 1, v1, v2, v3, v4, N =>
  if v4 = 0 then
  (E v1 v2 v3 v4 N)
  else
  (if (N.1 66 0) ≤ (N.1 66 36) then
  (E v1 v2 v3 v4 N)
  else
  (inb (N.1 66 36) 61 ∧
  bd ((N.1 67 (Int32.toNatClampNeg (N.1 66 36)))) fun x7 =>
  fX8_within x7 (48 : Int32) (57 : Int32) fun r8 =>
  jn (α := Int32 → Prop) (fun (x11 : Int32) =>
  jn (α := Int32 → Int32 → Int32 → Int32 → Nm → Prop) (fun (x57 : Int32) (x58 : Int32) (x59 : Int32) (x60 : Int32) (N61 : Nm) =>
  jn (α := Int32 → Prop) (fun (x64 : Int32) =>
  bd (wrN N61 66 36 ((N61.1 66 36) + x64)) fun N65 =>
  fX8_parse_L24 E K n x57 x58 x59 x60 N65) fun j62 =>
  if x60 = 0 then
  (j62 (0 : Int32))
  else
  (j62 (1 : Int32))) fun j12 =>
  if v1 = 0 then
  (fX8_within x11 (2 : Int32) (8 : Int32) fun r18 =>
  bd (wrN N 66 30 x11) fun N19 =>
  j12 (1 : Int32) v2 v3 r18 N19)
  else
  if v1 = 2 then
  (jn (α := Int32 → Prop) (fun (x24 : Int32) =>
  j12 (3 : Int32) x11 v3 x24 N) fun j21 =>
  jn (α := Prop) (j21 (0 : Int32)) fun j20 =>
  if x11 < 0 then
  (j20)
  else
  (if (N.1 66 30) ≤ x11 then
  (j20)
  else
  (j21 (1 : Int32))))
  else
  if v1 = 3 then
  (jn (α := Int32 → Prop) (fun (x31 : Int32) =>
  j12 (4 : Int32) v2 x11 x31 N) fun j26 =>
  jn (α := Prop) (j26 (0 : Int32)) fun j25 =>
  if x11 ≤ v2 then
  (j25)
  else
  (if (N.1 66 30) ≤ x11 then
  (j25)
  else
  (fX8_isJoined N v2 x11 fun r29 =>
  if r29 = 0 then
  (j26 (1 : Int32))
  else
  (j25))))
  else
  if v1 = 4 then
  (jn (α := Int32 → Prop) (fun (x34 : Int32) =>
  jn (α := Nm → Prop) (fun (N46 : Nm) =>
  j12 (5 : Int32) v2 v3 x34 N46) fun j35 =>
  if x34 = 0 then
  (j35 N)
  else
  (inb (N.1 66 31) 12 ∧
  bd (wrN N 85 (Int32.toNatClampNeg (N.1 66 31)) v2) fun N38 =>
  inb (N38.1 66 31) 12 ∧
  bd (wrN N38 86 (Int32.toNatClampNeg (N38.1 66 31)) v3) fun N40 =>
  inb (N40.1 66 31) 12 ∧
  bd (wrN N40 87 (Int32.toNatClampNeg (N40.1 66 31)) x11) fun N42 =>
  inb (N42.1 66 31) 12 ∧
  bd (wrN N42 88 (Int32.toNatClampNeg (N42.1 66 31)) (0 : Int32)) fun N44 =>
  bd (wrN N44 66 31 ((N44.1 66 31) + (1 : Int32))) fun N45 =>
  j35 N45)) fun j32 =>
  if x11 ≤ 0 then
  (j32 (0 : Int32))
  else
  (j32 (1 : Int32)))
  else
  jn (α := Prop) (jn (α := Int32 → Prop) (fun (x56 : Int32) =>
  j12 (2 : Int32) v2 v3 x56 N) fun j53 =>
  jn (α := Prop) (j53 (0 : Int32)) fun j52 =>
  if x7 = (59 : Int32) then
  (if (12 : Int32) ≤ (N.1 66 31) then
  (j52)
  else
  (j53 (1 : Int32)))
  else
  (j52)) fun j47 =>
  if v1 = (5 : Int32) then
  (if x11 ≤ (1 : Int32) then
  (j47)
  else
  (inb ((N.1 66 31) - (1 : Int32)) 12 ∧
  bd (wrN N 88 (Int32.toNatClampNeg ((N.1 66 31) - (1 : Int32))) x11) fun N51 =>
  j12 (1 : Int32) v2 v3 v4 N51))
  else
  (j47)) fun j9 =>
  if r8 = 0 then
  (j9 (-1 : Int32))
  else
  (j9 (x7 - (48 : Int32)))))
def fX8_parse (N : Nm) (K : Nm → Prop) : Prop :=
  bd (wrN N 66 30 (0 : Int32)) fun N1 =>
  bd (wrN N1 66 31 (0 : Int32)) fun N2 =>
  bd (wrN N2 66 36 (0 : Int32)) fun N3 =>
  jn (α := Int32 → Int32 → Int32 → Int32 → Nm → Prop) (fun (x67 : Int32) (x68 : Int32) (x69 : Int32) (x70 : Int32) (N71 : Nm) =>
  jn (α := Int32 → Prop) (fun (x78 : Int32) =>
  bl x78 ∧
  bd (wrN N71 66 37 x78) fun N79 =>
  K N79) fun j73 =>
  jn (α := Prop) (j73 (0 : Int32)) fun j72 =>
  if x70 = 0 then
  (j72)
  else
  (jn (α := Prop) (j73 (1 : Int32)) fun j75 =>
  if x67 = (1 : Int32) then
  (j75)
  else
  (if x67 = (5 : Int32) then
  (j75)
  else
  (j72)))) fun j66 =>
  fX8_parse_L24  j66 K 200 (0 : Int32) (0 : Int32) (0 : Int32) (1 : Int32) N3
def fX8_errorPosition (N : Nm) (K : Int32 → Nm → Prop) : Prop :=
  fX8_parse N fun N1 =>
  K (N1.1 66 36) N1
def fX8_forgetFlood_L2  (E : Int32 → Nm → Prop) (K : Nm → Prop) : Nat → Int32 → Nm → Prop
  | 0, _, _ => False
  | n + 1, v1, N =>
  if (8 : Int32) ≤ v1 then
  (E v1 N)
  else
  (inb v1 8 ∧
  bd (wrN N 73 (Int32.toNatClampNeg v1) (-1 : Int32)) fun N3 =>
  inb v1 8 ∧
  bd (wrN N3 74 (Int32.toNatClampNeg v1) (-2 : Int32)) fun N5 =>
  bd (v1 + (1 : Int32)) fun x6 =>
  fX8_forgetFlood_L2 E K n x6 N5)
def fX8_forgetFlood (N : Nm) (K : Nm → Prop) : Prop :=
  jn (α := Int32 → Nm → Prop) (fun (x8 : Int32) (N9 : Nm) =>
  bd (wrN N9 66 13 (0 : Int32)) fun N10 =>
  K N10) fun j7 =>
  fX8_forgetFlood_L2  j7 K 200 (0 : Int32) N
def fX8_loadNetwork_L33  (E : Int32 → Nm → Prop) (K : Int32 → Nm → Prop) : Nat → Int32 → Nm → Prop
  | 0, _, _ => False
  | n + 1, v1, N =>
  if (N.1 66 3) ≤ v1 then
  (E v1 N)
  else
  (inb v1 12 ∧
  inb v1 12 ∧
  bd (wrN N 68 (Int32.toNatClampNeg v1) (N.1 85 (Int32.toNatClampNeg v1))) fun N8 =>
  inb v1 12 ∧
  inb v1 12 ∧
  bd (wrN N8 69 (Int32.toNatClampNeg v1) (N8.1 86 (Int32.toNatClampNeg v1))) fun N11 =>
  inb v1 12 ∧
  inb v1 12 ∧
  bd (wrN N11 70 (Int32.toNatClampNeg v1) (N11.1 87 (Int32.toNatClampNeg v1))) fun N14 =>
  inb v1 12 ∧
  inb v1 12 ∧
  bd (wrN N14 71 (Int32.toNatClampNeg v1) (N14.1 88 (Int32.toNatClampNeg v1))) fun N17 =>
  bd (v1 + (1 : Int32)) fun x18 =>
  fX8_loadNetwork_L33 E K n x18 N17)
def fX8_loadNetwork_L97  (E : Int32 → Nm → Prop) (K : Int32 → Nm → Prop) : Nat → Int32 → Nm → Prop
  | 0, _, _ => False
  | n + 1, v1, N =>
  if (8 : Int32) ≤ v1 then
  (E v1 N)
  else
  (inb v1 8 ∧
  bd (wrN N 72 (Int32.toNatClampNeg v1) (1 : Int32)) fun N24 =>
  inb v1 8 ∧
  bd (wrN N24 75 (Int32.toNatClampNeg v1) (0 : Int32)) fun N26 =>
  inb v1 8 ∧
  bd (wrN N26 76 (Int32.toNatClampNeg v1) (0 : Int32)) fun N28 =>
  bd (v1 + (1 : Int32)) fun x29 =>
  fX8_loadNetwork_L97 E K n x29 N28)
def fX8_loadNetwork (N : Nm) (K : Int32 → Nm → Prop) : Prop :=
  fX8_parse N fun N1 =>
  if (N1.1 66 37) = 0 then
  (K (-1003 : Int32) N1)
  else
  (bd (wrN N1 66 2 (N1.1 66 30)) fun N3 =>
  bd (wrN N3 66 3 (N3.1 66 31)) fun N4 =>
  jn (α := Int32 → Nm → Prop) (fun (x20 : Int32) (N21 : Nm) =>
  jn (α := Int32 → Nm → Prop) (fun (x31 : Int32) (N32 : Nm) =>
  fX8_forgetFlood N32 fun N33 =>
  bd (wrN N33 66 14 (0 : Int32)) fun N34 =>
  bd (wrN N34 66 15 (0 : Int32)) fun N35 =>
  bd (wrN N35 66 20 (0 : Int32)) fun N36 =>
  bd (wrN N36 66 28 (0 : Int32)) fun N37 =>
  bd (wrN N37 66 0 (0 : Int32)) fun N38 =>
  K (N38.1 66 2) N38) fun j30 =>
  fX8_loadNetwork_L97  j30 K 200 (0 : Int32) N21) fun j19 =>
  fX8_loadNetwork_L33  j19 K 200 (0 : Int32) N4)
def fX8_setTransmissionLimit (N : Nm) (a1 : Int32) (K : Int32 → Nm → Prop) : Prop :=
  fX8_within a1 (1 : Int32) (4 : Int32) fun r1 =>
  if r1 = 0 then
  (K (-1002 : Int32) N)
  else
  (bd ((N.1 66 16)) fun x3 =>
  bd (wrN N 66 16 a1) fun N4 =>
  K x3 N4)
def fX8_setCaptureMargin (N : Nm) (a1 : Int32) (K : Int32 → Nm → Prop) : Prop :=
  fX8_within a1 (1 : Int32) (9 : Int32) fun r1 =>
  if r1 = 0 then
  (K (-1002 : Int32) N)
  else
  (bd ((N.1 66 17)) fun x3 =>
  bd (wrN N 66 17 a1) fun N4 =>
  K x3 N4)
def fX8_setSlotLimit (N : Nm) (a1 : Int32) (K : Int32 → Nm → Prop) : Prop :=
  fX8_within a1 (0 : Int32) (6 : Int32) fun r1 =>
  if r1 = 0 then
  (K (-1002 : Int32) N)
  else
  (bd ((N.1 66 18)) fun x3 =>
  bd (wrN N 66 18 a1) fun N4 =>
  K x3 N4)
def fX8_setTakeoverLimit (N : Nm) (a1 : Int32) (K : Int32 → Nm → Prop) : Prop :=
  fX8_within a1 (1 : Int32) (9 : Int32) fun r1 =>
  if r1 = 0 then
  (K (-1002 : Int32) N)
  else
  (bd ((N.1 66 19)) fun x3 =>
  bd (wrN N 66 19 a1) fun N4 =>
  K x3 N4)
def fX8_isNode (N : Nm) (a1 : Int32) (K : Int32 → Prop) : Prop :=
  fX8_within a1 (0 : Int32) ((N.1 66 2) - (1 : Int32)) fun r1 =>
  bl r1 ∧
  K r1
def fX8_setAlive (N : Nm) (a1 : Int32) (a2 : Int32) (K : Int32 → Nm → Prop) : Prop :=
  fX8_isNode N a1 fun r1 =>
  if r1 = 0 then
  (K (-1001 : Int32) N)
  else
  (inb a1 8 ∧
  bd ((N.1 72 (Int32.toNatClampNeg a1))) fun x4 =>
  jn (α := Int32 → Prop) (fun (x8 : Int32) =>
  inb a1 8 ∧
  bd (wrN N 76 (Int32.toNatClampNeg a1) x8) fun N10 =>
  inb a1 8 ∧
  bl a2 ∧
  bd (wrN N10 72 (Int32.toNatClampNeg a1) a2) fun N13 =>
  jn (α := Int32 → Prop) (fun (x16 : Int32) =>
  K x16 N13) fun j14 =>
  if x4 = 0 then
  (j14 (0 : Int32))
  else
  (j14 (1 : Int32))) fun j5 =>
  if x4 = a2 then
  (inb a1 8 ∧
  j5 (N.1 76 (Int32.toNatClampNeg a1)))
  else
  (j5 (0 : Int32)))
def fX8_transmits (N : Nm) (a1 : Int32) (a2 : Int32) (K : Int32 → Prop) : Prop :=
  inb a1 8 ∧
  bd (((a2 - (N.1 74 (Int32.toNatClampNeg a1))) - (1 : Int32))) fun x2 =>
  inb a1 8 ∧
  jn (α := Int32 → Prop) (fun (x10 : Int32) =>
  bl x10 ∧
  K x10) fun j5 =>
  jn (α := Prop) (j5 (0 : Int32)) fun j4 =>
  if (N.1 74 (Int32.toNatClampNeg a1)) = (-2 : Int32) then
  (j4)
  else
  (if x2 < 0 then
  (j4)
  else
  (if (irm x2 (2 : Int32)) = 0 then
  (if (N.1 66 16) ≤ (x2 / (2 : Int32)) then
  (j4)
  else
  (j5 (1 : Int32)))
  else
  (j4)))
def fX8_lastSlot_L4 (N : Nm) (E : Int32 → Int32 → Prop) (K : Int32 → Prop) : Nat → Int32 → Int32 → Prop
  | 0, _, _ => False
  | n + 1, v1, v2 =>
  if (N.1 66 2) ≤ v2 then
  (E v1 v2)
  else
  (inb v2 8 ∧
  jn (α := Int32 → Prop) (fun (x6 : Int32) =>
  jn (α := Int32 → Prop) (fun (x9 : Int32) =>
  bd (v2 + (1 : Int32)) fun x10 =>
  fX8_lastSlot_L4 N E K n x9 x10) fun j7 =>
  if x6 ≤ v1 then
  (j7 v1)
  else
  (j7 x6)) fun j3 =>
  if (N.1 74 (Int32.toNatClampNeg v2)) = (-2 : Int32) then
  (j3 (-1 : Int32))
  else
  (inb v2 8 ∧
  j3 (((N.1 74 (Int32.toNatClampNeg v2)) + ((2 : Int32) * (N.1 66 16))) - (1 : Int32))))
def fX8_lastSlot (N : Nm) (K : Int32 → Prop) : Prop :=
  jn (α := Int32 → Int32 → Prop) (fun (x12 : Int32) (x13 : Int32) =>
  K x12) fun j11 =>
  fX8_lastSlot_L4 N j11 K 200 (-1 : Int32) (0 : Int32)
def fX8_heard_L2 (p1 : Int32) (p2 : Int32) (E : Int32 → Nm → Prop) (K : Int32 → Nm → Prop) : Nat → Int32 → Nm → Prop
  | 0, _, _ => False
  | n + 1, v3, N =>
  if (8 : Int32) ≤ v3 then
  (E v3 N)
  else
  (inb v3 8 ∧
  bd (wrN N 89 (Int32.toNatClampNeg v3) (0 : Int32)) fun N3 =>
  bd (v3 + (1 : Int32)) fun x4 =>
  fX8_heard_L2 p1 p2 E K n x4 N3)
def fX8_heard_L23 (p1 : Int32) (p2 : Int32) (E : Int32 → Nm → Prop) (K : Int32 → Nm → Prop) : Nat → Int32 → Nm → Prop
  | 0, _, _ => False
  | n + 1, v3, N =>
  if (N.1 66 3) ≤ v3 then
  (E v3 N)
  else
  (inb v3 12 ∧
  jn (α := Int32 → Prop) (fun (x16 : Int32) =>
  inb v3 12 ∧
  jn (α := Int32 → Prop) (fun (x24 : Int32) =>
  jn (α := Nm → Prop) (fun (N41 : Nm) =>
  bd (v3 + (1 : Int32)) fun x42 =>
  fX8_heard_L23 p1 p2 E K n x42 N41) fun j25 =>
  if x16 = (-1 : Int32) then
  (j25 N)
  else
  (if x24 = 0 then
  (fX8_transmits N x16 p2 fun r28 =>
  if r28 = 0 then
  (j25 N)
  else
  (inb x16 8 ∧
  bd ((N.1 73 (Int32.toNatClampNeg x16))) fun x31 =>
  inb v3 12 ∧
  inb x31 8 ∧
  jn (α := Int32 → Prop) (fun (x38 : Int32) =>
  inb x31 8 ∧
  bd (wrN N 89 (Int32.toNatClampNeg x31) x38) fun N40 =>
  j25 N40) fun j34 =>
  if (N.1 70 (Int32.toNatClampNeg v3)) ≤ (N.1 89 (Int32.toNatClampNeg x31)) then
  (inb x31 8 ∧
  j34 (N.1 89 (Int32.toNatClampNeg x31)))
  else
  (inb v3 12 ∧
  j34 (N.1 70 (Int32.toNatClampNeg v3)))))
  else
  (j25 N))) fun j19 =>
  jn (α := Prop) (j19 (0 : Int32)) fun j18 =>
  if (N.1 71 (Int32.toNatClampNeg v3)) ≤ 0 then
  (j18)
  else
  (inb v3 12 ∧
  ¬ (N.1 71 (Int32.toNatClampNeg v3)) = 0 ∧
  if (irm (p2 + (1 : Int32)) (N.1 71 (Int32.toNatClampNeg v3))) = 0 then
  (j19 (1 : Int32))
  else
  (j18))) fun j10 =>
  if (N.1 68 (Int32.toNatClampNeg v3)) = p1 then
  (inb v3 12 ∧
  j10 (N.1 69 (Int32.toNatClampNeg v3)))
  else
  (inb v3 12 ∧
  if (N.1 69 (Int32.toNatClampNeg v3)) = p1 then
  (inb v3 12 ∧
  j10 (N.1 68 (Int32.toNatClampNeg v3)))
  else
  (j10 (-1 : Int32))))
def fX8_heard_L187 (N : Nm) (p1 : Int32) (p2 : Int32) (E : Int32 → Int32 → Int32 → Int32 → Prop) (K : Int32 → Nm → Prop) : Nat → Int32 → Int32 → Int32 → Int32 → Prop
  | 0, _, _, _, _ => False
  | n + 1, v3, v4, v5, v6 =>
  if (8 : Int32) ≤ v6 then
  (E v3 v4 v5 v6)
  else
  (inb v6 8 ∧
  jn (α := Int32 → Int32 → Int32 → Prop) (fun (x57 : Int32) (x58 : Int32) (x59 : Int32) =>
  bd (v6 + (1 : Int32)) fun x60 =>
  fX8_heard_L187 N p1 p2 E K n x57 x58 x59 x60) fun j48 =>
  if (N.1 89 (Int32.toNatClampNeg v6)) ≤ v4 then
  (inb v6 8 ∧
  jn (α := Int32 → Prop) (fun (x54 : Int32) =>
  j48 v3 v4 x54) fun j51 =>
  if (N.1 89 (Int32.toNatClampNeg v6)) ≤ v5 then
  (j51 v5)
  else
  (inb v6 8 ∧
  j51 (N.1 89 (Int32.toNatClampNeg v6))))
  else
  (inb v6 8 ∧
  bd ((N.1 89 (Int32.toNatClampNeg v6))) fun x56 =>
  j48 v6 x56 v4))
def fX8_heard (N : Nm) (a1 : Int32) (a2 : Int32) (K : Int32 → Nm → Prop) : Prop :=
  jn (α := Int32 → Nm → Prop) (fun (x6 : Int32) (N7 : Nm) =>
  jn (α := Int32 → Nm → Prop) (fun (x44 : Int32) (N45 : Nm) =>
  jn (α := Int32 → Int32 → Int32 → Int32 → Prop) (fun (x62 : Int32) (x63 : Int32) (x64 : Int32) (x65 : Int32) =>
  jn (α := Int32 → Prop) (fun (x72 : Int32) =>
  K x72 N45) fun j67 =>
  jn (α := Prop) (j67 (-1 : Int32)) fun j66 =>
  if x62 = (-1 : Int32) then
  (j66)
  else
  (jn (α := Prop) (j67 x62) fun j69 =>
  if x64 = 0 then
  (j69)
  else
  (if (x63 - x64) < (N45.1 66 17) then
  (j66)
  else
  (j69)))) fun j61 =>
  fX8_heard_L187 N45 a1 a2 j61 K 200 (-1 : Int32) (0 : Int32) (0 : Int32) (0 : Int32)) fun j43 =>
  fX8_heard_L23 a1 a2 j43 K 200 (0 : Int32) N7) fun j5 =>
  fX8_heard_L2 a1 a2 j5 K 200 (0 : Int32) N
def fX8_holders_L4 (N : Nm) (E : Int32 → Int32 → Prop) (K : Int32 → Prop) : Nat → Int32 → Int32 → Prop
  | 0, _, _ => False
  | n + 1, v1, v2 =>
  if (N.1 66 2) ≤ v2 then
  (E v1 v2)
  else
  (inb v2 8 ∧
  jn (α := Int32 → Prop) (fun (x5 : Int32) =>
  bd ((v1 + x5)) fun x6 =>
  bd (v2 + (1 : Int32)) fun x7 =>
  fX8_holders_L4 N E K n x6 x7) fun j3 =>
  if (N.1 73 (Int32.toNatClampNeg v2)) = (-1 : Int32) then
  (j3 (0 : Int32))
  else
  (j3 (1 : Int32)))
def fX8_holders (N : Nm) (K : Int32 → Prop) : Prop :=
  jn (α := Int32 → Int32 → Prop) (fun (x9 : Int32) (x10 : Int32) =>
  K x9) fun j8 =>
  fX8_holders_L4 N j8 K 200 (0 : Int32) (0 : Int32)
def fX8_floodNow_L6 (p1 : Int32) (E : Int32 → Nm → Prop) (K : Int32 → Nm → Prop) : Nat → Int32 → Nm → Prop
  | 0, _, _ => False
  | n + 1, v2, N =>
  if (N.1 66 2) ≤ v2 then
  (E v2 N)
  else
  (jn (α := Nm → Prop) (fun (N9 : Nm) =>
  bd (v2 + (1 : Int32)) fun x10 =>
  fX8_floodNow_L6 p1 E K n x10 N9) fun j3 =>
  if ((p1 >>> (v2 &&& 31)) &&& (1 : Int32)) = (1 : Int32) then
  (inb v2 8 ∧
  bd (wrN N 73 (Int32.toNatClampNeg v2) v2) fun N6 =>
  inb v2 8 ∧
  bd (wrN N6 74 (Int32.toNatClampNeg v2) (-1 : Int32)) fun N8 =>
  j3 N8)
  else
  (j3 N))
def fX8_floodNow_L55 (p1 : Int32) (p2 : Int32) (E : Int32 → Nm → Prop) (K : Int32 → Nm → Prop) : Nat → Int32 → Nm → Prop
  | 0, _, _ => False
  | n + 1, v3, N =>
  if (N.1 66 2) ≤ v3 then
  (E v3 N)
  else
  (inb v3 8 ∧
  jn (α := Int32 → Nm → Prop) (fun (x25 : Int32) (N26 : Nm) =>
  inb v3 8 ∧
  bd (wrN N26 90 (Int32.toNatClampNeg v3) x25) fun N28 =>
  bd (v3 + (1 : Int32)) fun x29 =>
  fX8_floodNow_L55 p1 p2 E K n x29 N28) fun j19 =>
  jn (α := Prop) (j19 (-1 : Int32) N) fun j18 =>
  if (N.1 72 (Int32.toNatClampNeg v3)) = 0 then
  (j18)
  else
  (inb v3 8 ∧
  if (N.1 74 (Int32.toNatClampNeg v3)) = (-2 : Int32) then
  (fX8_heard N v3 p2 fun r23 N24 =>
  j19 r23 N24)
  else
  (j18)))
def fX8_floodNow_L107 (p1 : Int32) (p2 : Int32) (E : Int32 → Nm → Prop) (K : Int32 → Nm → Prop) : Nat → Int32 → Nm → Prop
  | 0, _, _ => False
  | n + 1, v3, N =>
  if (N.1 66 2) ≤ v3 then
  (E v3 N)
  else
  (inb v3 8 ∧
  fX8_transmits N v3 p2 fun r35 =>
  jn (α := Int32 → Prop) (fun (x38 : Int32) =>
  inb v3 8 ∧
  bd (wrN N 75 (Int32.toNatClampNeg v3) ((N.1 75 (Int32.toNatClampNeg v3)) + x38)) fun N40 =>
  bd (v3 + (1 : Int32)) fun x41 =>
  fX8_floodNow_L107 p1 p2 E K n x41 N40) fun j36 =>
  if r35 = 0 then
  (j36 (0 : Int32))
  else
  (j36 (1 : Int32)))
def fX8_floodNow_L146 (p1 : Int32) (p2 : Int32) (E : Int32 → Nm → Prop) (K : Int32 → Nm → Prop) : Nat → Int32 → Nm → Prop
  | 0, _, _ => False
  | n + 1, v3, N =>
  if (N.1 66 2) ≤ v3 then
  (E v3 N)
  else
  (inb v3 8 ∧
  jn (α := Nm → Prop) (fun (N54 : Nm) =>
  bd (v3 + (1 : Int32)) fun x55 =>
  fX8_floodNow_L146 p1 p2 E K n x55 N54) fun j47 =>
  if (N.1 90 (Int32.toNatClampNeg v3)) = (-1 : Int32) then
  (j47 N)
  else
  (inb v3 8 ∧
  inb v3 8 ∧
  bd (wrN N 73 (Int32.toNatClampNeg v3) (N.1 90 (Int32.toNatClampNeg v3))) fun N51 =>
  inb v3 8 ∧
  bd (wrN N51 74 (Int32.toNatClampNeg v3) p2) fun N53 =>
  j47 N53))
def fX8_floodNow_L45 (p1 : Int32) (E : Int32 → Nm → Prop) (K : Int32 → Nm → Prop) : Nat → Int32 → Nm → Prop
  | 0, _, _ => False
  | n + 1, v2, N =>
  fX8_lastSlot N fun r14 =>
  if r14 < v2 then
  (E v2 N)
  else
  (jn (α := Int32 → Nm → Prop) (fun (x31 : Int32) (N32 : Nm) =>
  jn (α := Int32 → Nm → Prop) (fun (x43 : Int32) (N44 : Nm) =>
  jn (α := Int32 → Nm → Prop) (fun (x57 : Int32) (N58 : Nm) =>
  bd (v2 + (1 : Int32)) fun x59 =>
  fX8_floodNow_L45 p1 E K n x59 N58) fun j56 =>
  fX8_floodNow_L146 p1 v2 j56 K 200 (0 : Int32) N44) fun j42 =>
  fX8_floodNow_L107 p1 v2 j42 K 200 (0 : Int32) N32) fun j30 =>
  fX8_floodNow_L55 p1 v2 j30 K 200 (0 : Int32) N)
def fX8_floodNow (N : Nm) (a1 : Int32) (K : Int32 → Nm → Prop) : Prop :=
  fX8_forgetFlood N fun N1 =>
  jn (α := Int32 → Nm → Prop) (fun (x12 : Int32) (N13 : Nm) =>
  jn (α := Int32 → Nm → Prop) (fun (x61 : Int32) (N62 : Nm) =>
  bd (wrN N62 66 13 x61) fun N63 =>
  fX8_holders N63 fun r64 =>
  K r64 N63) fun j60 =>
  fX8_floodNow_L45 a1 j60 K 200 (0 : Int32) N13) fun j11 =>
  fX8_floodNow_L6 a1 j11 K 200 (0 : Int32) N1
def fX8_flood_L22 (N : Nm) (p1 : Int32) (E : Int32 → Int32 → Prop) (K : Int32 → Nm → Prop) : Nat → Int32 → Int32 → Prop
  | 0, _, _ => False
  | n + 1, v2, v3 =>
  if (N.1 66 2) ≤ v3 then
  (E v2 v3)
  else
  (jn (α := Int32 → Prop) (fun (x12 : Int32) =>
  bd (v3 + (1 : Int32)) fun x13 =>
  fX8_flood_L22 N p1 E K n x12 x13) fun j6 =>
  jn (α := Prop) (j6 (0 : Int32)) fun j5 =>
  if v2 = 0 then
  (j5)
  else
  (jn (α := Prop) (j6 (1 : Int32)) fun j8 =>
  if ((p1 >>> (v3 &&& 31)) &&& (1 : Int32)) = 0 then
  (j8)
  else
  (inb v3 8 ∧
  if (N.1 72 (Int32.toNatClampNeg v3)) = 0 then
  (j5)
  else
  (j8))))
def fX8_flood (N : Nm) (a1 : Int32) (K : Int32 → Nm → Prop) : Prop :=
  jn (α := Prop) (K (-1002 : Int32) N) fun j1 =>
  if a1 ≤ 0 then
  (j1)
  else
  (if a1 < ((1 : Int32) <<< ((N.1 66 2) &&& 31)) then
  (jn (α := Int32 → Int32 → Prop) (fun (x15 : Int32) (x16 : Int32) =>
  jn (α := Int32 → Nm → Prop) (fun (x21 : Int32) (N22 : Nm) =>
  K x21 N22) fun j17 =>
  if x15 = 0 then
  (j17 (-1003 : Int32) N)
  else
  (fX8_floodNow N a1 fun r19 N20 =>
  j17 r19 N20)) fun j14 =>
  fX8_flood_L22 N a1 j14 K 200 (1 : Int32) (0 : Int32))
  else
  (j1))
def fX8_packetAt (N : Nm) (a1 : Int32) (K : Int32 → Prop) : Prop :=
  fX8_isNode N a1 fun r1 =>
  jn (α := Int32 → Prop) (fun (x5 : Int32) =>
  K x5) fun j2 =>
  if r1 = 0 then
  (j2 (-1001 : Int32))
  else
  (inb a1 8 ∧
  j2 (N.1 73 (Int32.toNatClampNeg a1)))
def fX8_hops (N : Nm) (a1 : Int32) (K : Int32 → Prop) : Prop :=
  inb a1 8 ∧
  jn (α := Int32 → Prop) (fun (x5 : Int32) =>
  K x5) fun j2 =>
  if (N.1 74 (Int32.toNatClampNeg a1)) = (-2 : Int32) then
  (j2 (-1 : Int32))
  else
  (inb a1 8 ∧
  j2 ((N.1 74 (Int32.toNatClampNeg a1)) + (1 : Int32)))
def fX8_hopCount (N : Nm) (a1 : Int32) (K : Int32 → Prop) : Prop :=
  fX8_isNode N a1 fun r1 =>
  jn (α := Int32 → Prop) (fun (x5 : Int32) =>
  K x5) fun j2 =>
  if r1 = 0 then
  (j2 (-1001 : Int32))
  else
  (fX8_hops N a1 fun r4 =>
  j2 r4)
def fX8_floodLength (N : Nm) (K : Int32 → Prop) : Prop :=
  K (N.1 66 13)
def fX8_addStream (N : Nm) (a1 : Int32) (a2 : Int32) (a3 : Int32) (K : Int32 → Nm → Prop) : Prop :=
  fX8_isNode N a1 fun r1 =>
  if r1 = 0 then
  (K (-1001 : Int32) N)
  else
  (fX8_within a2 (1 : Int32) (9 : Int32) fun r3 =>
  jn (α := Prop) (K (-1002 : Int32) N) fun j4 =>
  if r3 = 0 then
  (j4)
  else
  (fX8_within a3 (0 : Int32) (99 : Int32) fun r6 =>
  if r6 = 0 then
  (j4)
  else
  (if (N.1 66 20) = (6 : Int32) then
  (K (-1004 : Int32) N)
  else
  (inb (N.1 66 20) 6 ∧
  bd (wrN N 77 (Int32.toNatClampNeg (N.1 66 20)) a1) fun N10 =>
  inb (N10.1 66 20) 6 ∧
  bd (wrN N10 78 (Int32.toNatClampNeg (N10.1 66 20)) a2) fun N12 =>
  inb (N12.1 66 20) 6 ∧
  bd (wrN N12 79 (Int32.toNatClampNeg (N12.1 66 20)) a3) fun N14 =>
  inb (N14.1 66 20) 6 ∧
  bd (wrN N14 80 (Int32.toNatClampNeg (N14.1 66 20)) (0 : Int32)) fun N16 =>
  inb (N16.1 66 20) 6 ∧
  bd (wrN N16 82 (Int32.toNatClampNeg (N16.1 66 20)) (0 : Int32)) fun N18 =>
  inb (N18.1 66 20) 6 ∧
  bd (wrN N18 83 (Int32.toNatClampNeg (N18.1 66 20)) (0 : Int32)) fun N20 =>
  bd (wrN N20 66 20 ((N20.1 66 20) + (1 : Int32))) fun N21 =>
  K ((N21.1 66 20) - (1 : Int32)) N21))))
def fX8_isStream (N : Nm) (a1 : Int32) (K : Int32 → Prop) : Prop :=
  fX8_within a1 (0 : Int32) ((N.1 66 20) - (1 : Int32)) fun r1 =>
  bl r1 ∧
  K r1
def fX8_removeStream_L118 (p1 : Int32) (p2 : Int32) (E : Int32 → Nm → Prop) (K : Int32 → Nm → Prop) : Nat → Int32 → Nm → Prop
  | 0, _, _ => False
  | n + 1, v3, N =>
  if (4 : Int32) ≤ v3 then
  (E v3 N)
  else
  (inb ((((4 : Int32) * p2) + (4 : Int32)) + v3) 24 ∧
  inb (((4 : Int32) * p2) + v3) 24 ∧
  bd (wrN N 81 (Int32.toNatClampNeg (((4 : Int32) * p2) + v3)) (N.1 81 (Int32.toNatClampNeg ((((4 : Int32) * p2) + (4 : Int32)) + v3)))) fun N26 =>
  bd (v3 + (1 : Int32)) fun x27 =>
  fX8_removeStream_L118 p1 p2 E K n x27 N26)
def fX8_removeStream_L24 (p1 : Int32) (E : Int32 → Nm → Prop) (K : Int32 → Nm → Prop) : Nat → Int32 → Nm → Prop
  | 0, _, _ => False
  | n + 1, v2, N =>
  if (N.1 66 20) ≤ v2 then
  (E v2 N)
  else
  (inb (v2 + (1 : Int32)) 6 ∧
  inb v2 6 ∧
  bd (wrN N 77 (Int32.toNatClampNeg v2) (N.1 77 (Int32.toNatClampNeg (v2 + (1 : Int32))))) fun N7 =>
  inb (v2 + (1 : Int32)) 6 ∧
  inb v2 6 ∧
  bd (wrN N7 78 (Int32.toNatClampNeg v2) (N7.1 78 (Int32.toNatClampNeg (v2 + (1 : Int32))))) fun N10 =>
  inb (v2 + (1 : Int32)) 6 ∧
  inb v2 6 ∧
  bd (wrN N10 79 (Int32.toNatClampNeg v2) (N10.1 79 (Int32.toNatClampNeg (v2 + (1 : Int32))))) fun N13 =>
  inb (v2 + (1 : Int32)) 6 ∧
  inb v2 6 ∧
  bd (wrN N13 80 (Int32.toNatClampNeg v2) (N13.1 80 (Int32.toNatClampNeg (v2 + (1 : Int32))))) fun N16 =>
  inb (v2 + (1 : Int32)) 6 ∧
  inb v2 6 ∧
  bd (wrN N16 82 (Int32.toNatClampNeg v2) (N16.1 82 (Int32.toNatClampNeg (v2 + (1 : Int32))))) fun N19 =>
  inb (v2 + (1 : Int32)) 6 ∧
  inb v2 6 ∧
  bd (wrN N19 83 (Int32.toNatClampNeg v2) (N19.1 83 (Int32.toNatClampNeg (v2 + (1 : Int32))))) fun N22 =>
  jn (α := Int32 → Nm → Prop) (fun (x29 : Int32) (N30 : Nm) =>
  bd (v2 + (1 : Int32)) fun x31 =>
  fX8_removeStream_L24 p1 E K n x31 N30) fun j28 =>
  fX8_removeStream_L118 p1 v2 j28 K 200 (0 : Int32) N22)
def fX8_removeStream (N : Nm) (a1 : Int32) (K : Int32 → Nm → Prop) : Prop :=
  fX8_isStream N a1 fun r1 =>
  if r1 = 0 then
  (K (-1001 : Int32) N)
  else
  (bd (wrN N 66 20 ((N.1 66 20) - (1 : Int32))) fun N3 =>
  jn (α := Int32 → Nm → Prop) (fun (x33 : Int32) (N34 : Nm) =>
  bd (wrN N34 66 28 (0 : Int32)) fun N35 =>
  K (N35.1 66 20) N35) fun j32 =>
  fX8_removeStream_L24 a1 j32 K 200 a1 N3)
def fX8_waitingPackets (N : Nm) (a1 : Int32) (K : Int32 → Prop) : Prop :=
  fX8_isStream N a1 fun r1 =>
  jn (α := Int32 → Prop) (fun (x5 : Int32) =>
  K x5) fun j2 =>
  if r1 = 0 then
  (j2 (-1001 : Int32))
  else
  (inb a1 6 ∧
  j2 (N.1 80 (Int32.toNatClampNeg a1)))
def fX8_deliveredPackets (N : Nm) (a1 : Int32) (K : Int32 → Prop) : Prop :=
  fX8_isStream N a1 fun r1 =>
  jn (α := Int32 → Prop) (fun (x5 : Int32) =>
  K x5) fun j2 =>
  if r1 = 0 then
  (j2 (-1001 : Int32))
  else
  (inb a1 6 ∧
  j2 (N.1 82 (Int32.toNatClampNeg a1)))
def fX8_lostPackets (N : Nm) (a1 : Int32) (K : Int32 → Prop) : Prop :=
  fX8_isStream N a1 fun r1 =>
  jn (α := Int32 → Prop) (fun (x5 : Int32) =>
  K x5) fun j2 =>
  if r1 = 0 then
  (j2 (-1001 : Int32))
  else
  (inb a1 6 ∧
  j2 (N.1 83 (Int32.toNatClampNeg a1)))
def fX8_generate_L2  (E : Int32 → Nm → Prop) (K : Nm → Prop) : Nat → Int32 → Nm → Prop
  | 0, _, _ => False
  | n + 1, v1, N =>
  if (N.1 66 20) ≤ v1 then
  (E v1 N)
  else
  (inb v1 6 ∧
  jn (α := Nm → Prop) (fun (N20 : Nm) =>
  bd (v1 + (1 : Int32)) fun x21 =>
  fX8_generate_L2 E K n x21 N20) fun j3 =>
  if (N.1 66 15) < (N.1 79 (Int32.toNatClampNeg v1)) then
  (j3 N)
  else
  (inb v1 6 ∧
  inb v1 6 ∧
  ¬ (N.1 78 (Int32.toNatClampNeg v1)) = 0 ∧
  if (irm ((N.1 66 15) - (N.1 79 (Int32.toNatClampNeg v1))) (N.1 78 (Int32.toNatClampNeg v1))) = 0 then
  (inb v1 6 ∧
  if (N.1 80 (Int32.toNatClampNeg v1)) = (4 : Int32) then
  (inb v1 6 ∧
  inb v1 6 ∧
  bd (wrN N 83 (Int32.toNatClampNeg v1) ((N.1 83 (Int32.toNatClampNeg v1)) + (1 : Int32))) fun N19 =>
  j3 N19)
  else
  (inb v1 6 ∧
  inb (((4 : Int32) * v1) + (N.1 80 (Int32.toNatClampNeg v1))) 24 ∧
  bd (wrN N 81 (Int32.toNatClampNeg (((4 : Int32) * v1) + (N.1 80 (Int32.toNatClampNeg v1)))) (N.1 66 15)) fun N13 =>
  inb v1 6 ∧
  inb v1 6 ∧
  bd (wrN N13 80 (Int32.toNatClampNeg v1) ((N13.1 80 (Int32.toNatClampNeg v1)) + (1 : Int32))) fun N16 =>
  j3 N16))
  else
  (j3 N)))
def fX8_generate (N : Nm) (K : Nm → Prop) : Prop :=
  jn (α := Int32 → Nm → Prop) (fun (x23 : Int32) (N24 : Nm) =>
  K N24) fun j22 =>
  fX8_generate_L2  j22 K 200 (0 : Int32) N
def fX8_isScheduled_L4 (N : Nm) (p1 : Int32) (E : Int32 → Int32 → Prop) (K : Int32 → Prop) : Nat → Int32 → Int32 → Prop
  | 0, _, _ => False
  | n + 1, v2, v3 =>
  if (N.1 66 28) ≤ v3 then
  (E v2 v3)
  else
  (jn (α := Int32 → Prop) (fun (x7 : Int32) =>
  bd (v3 + (1 : Int32)) fun x8 =>
  fX8_isScheduled_L4 N p1 E K n x7 x8) fun j3 =>
  jn (α := Prop) (j3 (1 : Int32)) fun j2 =>
  if v2 = 0 then
  (inb v3 6 ∧
  if (N.1 84 (Int32.toNatClampNeg v3)) = p1 then
  (j2)
  else
  (j3 (0 : Int32)))
  else
  (j2))
def fX8_isScheduled (N : Nm) (a1 : Int32) (K : Int32 → Prop) : Prop :=
  jn (α := Int32 → Int32 → Prop) (fun (x10 : Int32) (x11 : Int32) =>
  bl x10 ∧
  K x10) fun j9 =>
  fX8_isScheduled_L4 N a1 j9 K 200 (0 : Int32) (0 : Int32)
def fX8_buildSchedule_L26 (N : Nm) (p1 : Int32) (E : Int32 → Int32 → Prop) (K : Nm → Prop) : Nat → Int32 → Int32 → Prop
  | 0, _, _ => False
  | n + 1, v2, v3 =>
  if (N.1 66 20) ≤ v3 then
  (E v2 v3)
  else
  (inb v3 6 ∧
  jn (α := Int32 → Prop) (fun (x11 : Int32) =>
  jn (α := Int32 → Prop) (fun (x20 : Int32) =>
  bd (v3 + (1 : Int32)) fun x21 =>
  fX8_buildSchedule_L26 N p1 E K n x20 x21) fun j13 =>
  jn (α := Prop) (j13 v2) fun j12 =>
  if x11 = 0 then
  (j12)
  else
  (jn (α := Prop) (j13 v3) fun j15 =>
  if v2 = (-1 : Int32) then
  (j15)
  else
  (inb ((4 : Int32) * v3) 24 ∧
  inb ((4 : Int32) * v2) 24 ∧
  if (N.1 81 (Int32.toNatClampNeg ((4 : Int32) * v2))) ≤ (N.1 81 (Int32.toNatClampNeg ((4 : Int32) * v3))) then
  (j12)
  else
  (j15)))) fun j7 =>
  jn (α := Prop) (j7 (0 : Int32)) fun j6 =>
  if (N.1 80 (Int32.toNatClampNeg v3)) ≤ 0 then
  (j6)
  else
  (fX8_isScheduled N v3 fun r9 =>
  if r9 = 0 then
  (j7 (1 : Int32))
  else
  (j6)))
def fX8_buildSchedule_L7  (E : Int32 → Nm → Prop) (K : Nm → Prop) : Nat → Int32 → Nm → Prop
  | 0, _, _ => False
  | n + 1, v1, N =>
  if v1 = 0 then
  (E v1 N)
  else
  (if (N.1 66 18) ≤ (N.1 66 28) then
  (E v1 N)
  else
  (jn (α := Int32 → Int32 → Prop) (fun (x23 : Int32) (x24 : Int32) =>
  jn (α := Int32 → Prop) (fun (x27 : Int32) =>
  jn (α := Nm → Prop) (fun (N33 : Nm) =>
  fX8_buildSchedule_L7 E K n x27 N33) fun j28 =>
  if x27 = 0 then
  (j28 N)
  else
  (inb (N.1 66 28) 6 ∧
  bd (wrN N 84 (Int32.toNatClampNeg (N.1 66 28)) x23) fun N31 =>
  bd (wrN N31 66 28 ((N31.1 66 28) + (1 : Int32))) fun N32 =>
  j28 N32)) fun j25 =>
  if x23 = (-1 : Int32) then
  (j25 (0 : Int32))
  else
  (j25 (1 : Int32))) fun j22 =>
  fX8_buildSchedule_L26 N v1 j22 K 200 (-1 : Int32) (0 : Int32)))
def fX8_buildSchedule (N : Nm) (K : Nm → Prop) : Prop :=
  bd (wrN N 66 28 (0 : Int32)) fun N1 =>
  jn (α := Int32 → Nm → Prop) (fun (x35 : Int32) (N36 : Nm) =>
  K N36) fun j34 =>
  fX8_buildSchedule_L7  j34 K 200 (1 : Int32) N1
def fX8_takePacket_L2 (p1 : Int32) (E : Int32 → Nm → Prop) (K : Nm → Prop) : Nat → Int32 → Nm → Prop
  | 0, _, _ => False
  | n + 1, v2, N =>
  inb p1 6 ∧
  if (N.1 80 (Int32.toNatClampNeg p1)) ≤ v2 then
  (E v2 N)
  else
  (inb (((4 : Int32) * p1) + v2) 24 ∧
  inb ((((4 : Int32) * p1) + v2) - (1 : Int32)) 24 ∧
  bd (wrN N 81 (Int32.toNatClampNeg ((((4 : Int32) * p1) + v2) - (1 : Int32))) (N.1 81 (Int32.toNatClampNeg (((4 : Int32) * p1) + v2)))) fun N5 =>
  bd (v2 + (1 : Int32)) fun x6 =>
  fX8_takePacket_L2 p1 E K n x6 N5)
def fX8_takePacket (N : Nm) (a1 : Int32) (K : Nm → Prop) : Prop :=
  jn (α := Int32 → Nm → Prop) (fun (x8 : Int32) (N9 : Nm) =>
  inb a1 6 ∧
  inb a1 6 ∧
  bd (wrN N9 80 (Int32.toNatClampNeg a1) ((N9.1 80 (Int32.toNatClampNeg a1)) - (1 : Int32))) fun N12 =>
  K N12) fun j7 =>
  fX8_takePacket_L2 a1 j7 K 200 (1 : Int32) N
def fX8_spreadSchedule_L36 (p1 : Int32) (E : Int32 → Nm → Prop) (K : Nm → Prop) : Nat → Int32 → Nm → Prop
  | 0, _, _ => False
  | n + 1, v2, N =>
  if (N.1 66 2) ≤ v2 then
  (E v2 N)
  else
  (jn (α := Int32 → Prop) (fun (x18 : Int32) =>
  inb v2 8 ∧
  bl x18 ∧
  bd (wrN N 91 (Int32.toNatClampNeg v2) x18) fun N21 =>
  inb v2 8 ∧
  jn (α := Int32 → Prop) (fun (x29 : Int32) =>
  inb v2 8 ∧
  bd (wrN N21 76 (Int32.toNatClampNeg v2) x29) fun N31 =>
  bd (v2 + (1 : Int32)) fun x32 =>
  fX8_spreadSchedule_L36 p1 E K n x32 N31) fun j24 =>
  jn (α := Prop) (j24 (0 : Int32)) fun j23 =>
  if (N21.1 91 (Int32.toNatClampNeg v2)) = 0 then
  (inb v2 8 ∧
  if (N21.1 72 (Int32.toNatClampNeg v2)) = 0 then
  (j23)
  else
  (inb v2 8 ∧
  j24 ((N21.1 76 (Int32.toNatClampNeg v2)) + (1 : Int32))))
  else
  (j23)) fun j12 =>
  jn (α := Prop) (j12 (0 : Int32)) fun j11 =>
  if p1 = 0 then
  (j11)
  else
  (inb v2 8 ∧
  if (N.1 72 (Int32.toNatClampNeg v2)) = 0 then
  (j11)
  else
  (inb v2 8 ∧
  if (N.1 73 (Int32.toNatClampNeg v2)) = (-1 : Int32) then
  (j11)
  else
  (j12 (1 : Int32)))))
def fX8_spreadSchedule (N : Nm) (K : Nm → Prop) : Prop :=
  inb (N.1 66 14) 8 ∧
  bd ((N.1 72 (Int32.toNatClampNeg (N.1 66 14)))) fun x2 =>
  bd (wrN N 66 28 (0 : Int32)) fun N3 =>
  jn (α := Nm → Prop) (fun (N9 : Nm) =>
  jn (α := Int32 → Nm → Prop) (fun (x34 : Int32) (N35 : Nm) =>
  K N35) fun j33 =>
  fX8_spreadSchedule_L36 x2 j33 K 200 (0 : Int32) N9) fun j4 =>
  if x2 = 0 then
  (j4 N3)
  else
  (fX8_buildSchedule N3 fun N6 =>
  fX8_floodNow N6 ((1 : Int32) <<< ((N6.1 66 14) &&& 31)) fun r7 N8 =>
  j4 N8)
def fX8_serve (N : Nm) (a1 : Int32) (K : Int32 → Nm → Prop) : Prop :=
  fX8_takePacket N a1 fun N1 =>
  inb a1 6 ∧
  bd ((N1.1 77 (Int32.toNatClampNeg a1))) fun x3 =>
  inb x3 8 ∧
  jn (α := Int32 → Prop) (fun (x10 : Int32) =>
  jn (α := Nm → Prop) (fun (N15 : Nm) =>
  jn (α := Int32 → Prop) (fun (x21 : Int32) =>
  inb a1 6 ∧
  jn (α := Int32 → Prop) (fun (x25 : Int32) =>
  inb a1 6 ∧
  bd (wrN N15 82 (Int32.toNatClampNeg a1) ((N15.1 82 (Int32.toNatClampNeg a1)) + x25)) fun N27 =>
  inb a1 6 ∧
  jn (α := Int32 → Prop) (fun (x31 : Int32) =>
  inb a1 6 ∧
  bd (wrN N27 83 (Int32.toNatClampNeg a1) ((N27.1 83 (Int32.toNatClampNeg a1)) + x31)) fun N33 =>
  jn (α := Int32 → Prop) (fun (x36 : Int32) =>
  K x36 N33) fun j34 =>
  if x21 = 0 then
  (j34 (0 : Int32))
  else
  (j34 (1 : Int32))) fun j29 =>
  if x21 = 0 then
  (j29 (1 : Int32))
  else
  (j29 (0 : Int32))) fun j23 =>
  if x21 = 0 then
  (j23 (0 : Int32))
  else
  (j23 (1 : Int32))) fun j17 =>
  jn (α := Prop) (j17 (0 : Int32)) fun j16 =>
  if x10 = 0 then
  (j16)
  else
  (inb (N15.1 66 14) 8 ∧
  if (N15.1 73 (Int32.toNatClampNeg (N15.1 66 14))) = (-1 : Int32) then
  (j16)
  else
  (j17 (1 : Int32)))) fun j11 =>
  if x10 = 0 then
  (j11 N1)
  else
  (fX8_floodNow N1 ((1 : Int32) <<< (x3 &&& 31)) fun r13 N14 =>
  j11 N14)) fun j6 =>
  jn (α := Prop) (j6 (0 : Int32)) fun j5 =>
  if (N1.1 72 (Int32.toNatClampNeg x3)) = 0 then
  (j5)
  else
  (inb x3 8 ∧
  if (N1.1 91 (Int32.toNatClampNeg x3)) = 0 then
  (j5)
  else
  (j6 (1 : Int32)))
def fX8_takeOver_L2  (E : Int32 → Nm → Prop) (K : Nm → Prop) : Nat → Int32 → Nm → Prop
  | 0, _, _ => False
  | n + 1, v1, N =>
  if (N.1 66 2) ≤ v1 then
  (E v1 N)
  else
  (inb (N.1 66 14) 8 ∧
  if (N.1 72 (Int32.toNatClampNeg (N.1 66 14))) = 0 then
  (inb v1 8 ∧
  jn (α := Nm → Prop) (fun (N12 : Nm) =>
  bd (v1 + (1 : Int32)) fun x13 =>
  fX8_takeOver_L2 E K n x13 N12) fun j5 =>
  if (N.1 72 (Int32.toNatClampNeg v1)) = 0 then
  (j5 N)
  else
  (inb v1 8 ∧
  if (N.1 76 (Int32.toNatClampNeg v1)) < (N.1 66 19) then
  (j5 N)
  else
  (bd (wrN N 66 14 v1) fun N9 =>
  inb v1 8 ∧
  bd (wrN N9 76 (Int32.toNatClampNeg v1) (0 : Int32)) fun N11 =>
  j5 N11)))
  else
  (E v1 N))
def fX8_takeOver (N : Nm) (K : Nm → Prop) : Prop :=
  jn (α := Int32 → Nm → Prop) (fun (x15 : Int32) (N16 : Nm) =>
  K N16) fun j14 =>
  fX8_takeOver_L2  j14 K 200 (0 : Int32) N
def fX8_runRound_L12  (E : Int32 → Int32 → Nm → Prop) (K : Int32 → Nm → Prop) : Nat → Int32 → Int32 → Nm → Prop
  | 0, _, _, _ => False
  | n + 1, v1, v2, N =>
  if (N.1 66 28) ≤ v2 then
  (E v1 v2 N)
  else
  (inb v2 6 ∧
  fX8_serve N (N.1 84 (Int32.toNatClampNeg v2)) fun r5 N6 =>
  bd ((v1 + r5)) fun x7 =>
  bd (v2 + (1 : Int32)) fun x8 =>
  fX8_runRound_L12 E K n x7 x8 N6)
def fX8_runRound (N : Nm) (K : Int32 → Nm → Prop) : Prop :=
  fX8_generate N fun N1 =>
  fX8_spreadSchedule N1 fun N2 =>
  jn (α := Int32 → Int32 → Nm → Prop) (fun (x10 : Int32) (x11 : Int32) (N12 : Nm) =>
  fX8_takeOver N12 fun N13 =>
  bd (wrN N13 66 15 ((N13.1 66 15) + (1 : Int32))) fun N14 =>
  K x10 N14) fun j9 =>
  fX8_runRound_L12  j9 K 200 (0 : Int32) (0 : Int32) N2
def fX8_runRounds_L45 (p1 : Int32) (E : Int32 → Int32 → Nm → Prop) (K : Int32 → Nm → Prop) : Nat → Int32 → Int32 → Nm → Prop
  | 0, _, _, _ => False
  | n + 1, v2, v3, N =>
  if p1 ≤ v3 then
  (E v2 v3 N)
  else
  (fX8_runRound N fun r6 N7 =>
  bd ((v2 + r6)) fun x8 =>
  bd (v3 + (1 : Int32)) fun x9 =>
  fX8_runRounds_L45 p1 E K n x8 x9 N7)
def fX8_runRounds (N : Nm) (a1 : Int32) (K : Int32 → Nm → Prop) : Prop :=
  fX8_within a1 (1 : Int32) (20 : Int32) fun r1 =>
  if r1 = 0 then
  (K (-1002 : Int32) N)
  else
  (if (N.1 66 2) = 0 then
  (K (-1003 : Int32) N)
  else
  (if ((N.1 66 15) + a1) ≤ (9999 : Int32) then
  (jn (α := Int32 → Int32 → Nm → Prop) (fun (x11 : Int32) (x12 : Int32) (N13 : Nm) =>
  K x11 N13) fun j10 =>
  fX8_runRounds_L45 a1 j10 K 200 (0 : Int32) (0 : Int32) N)
  else
  (K (-1004 : Int32) N)))
def fX8_scheduledStream (N : Nm) (a1 : Int32) (K : Int32 → Prop) : Prop :=
  fX8_within a1 (0 : Int32) ((N.1 66 28) - (1 : Int32)) fun r1 =>
  jn (α := Int32 → Prop) (fun (x5 : Int32) =>
  K x5) fun j2 =>
  if r1 = 0 then
  (j2 (-1 : Int32))
  else
  (inb a1 6 ∧
  j2 (N.1 84 (Int32.toNatClampNeg a1)))
def fX8_areSourcesDifferent_L14 (N : Nm) (p2 : Int32) (E : Int32 → Int32 → Prop) (K : Int32 → Prop) : Nat → Int32 → Int32 → Prop
  | 0, _, _ => False
  | n + 1, v1, v3 =>
  if p2 ≤ v3 then
  (E v1 v3)
  else
  (jn (α := Int32 → Prop) (fun (x11 : Int32) =>
  bd (v3 + (1 : Int32)) fun x12 =>
  fX8_areSourcesDifferent_L14 N p2 E K n x11 x12) fun j4 =>
  jn (α := Prop) (j4 (0 : Int32)) fun j3 =>
  if v1 = 0 then
  (j3)
  else
  (inb p2 6 ∧
  inb (N.1 84 (Int32.toNatClampNeg p2)) 6 ∧
  inb v3 6 ∧
  inb (N.1 84 (Int32.toNatClampNeg v3)) 6 ∧
  if (N.1 77 (Int32.toNatClampNeg (N.1 84 (Int32.toNatClampNeg p2)))) = (N.1 77 (Int32.toNatClampNeg (N.1 84 (Int32.toNatClampNeg v3)))) then
  (j3)
  else
  (j4 (1 : Int32))))
def fX8_areSourcesDifferent_L4 (N : Nm) (E : Int32 → Int32 → Prop) (K : Int32 → Prop) : Nat → Int32 → Int32 → Prop
  | 0, _, _ => False
  | n + 1, v1, v2 =>
  if (N.1 66 28) ≤ v2 then
  (E v1 v2)
  else
  (jn (α := Int32 → Int32 → Prop) (fun (x14 : Int32) (x15 : Int32) =>
  bd (v2 + (1 : Int32)) fun x16 =>
  fX8_areSourcesDifferent_L4 N E K n x14 x16) fun j13 =>
  fX8_areSourcesDifferent_L14 N v2 j13 K 200 v1 (0 : Int32))
def fX8_areSourcesDifferent (N : Nm) (K : Int32 → Prop) : Prop :=
  jn (α := Int32 → Int32 → Prop) (fun (x18 : Int32) (x19 : Int32) =>
  bl x18 ∧
  K x18) fun j17 =>
  fX8_areSourcesDifferent_L4 N j17 K 200 (1 : Int32) (0 : Int32)
def fX8_scheduleBits (N : Nm) (K : Int32 → Prop) : Prop :=
  bd (((3 : Int32) * (N.1 66 28))) fun x1 =>
  jn (α := Int32 → Prop) (fun (x7 : Int32) =>
  K ((8 : Int32) + x7)) fun j3 =>
  jn (α := Prop) (j3 x1) fun j2 =>
  if x1 ≤ (8 : Int32) then
  (j2)
  else
  (fX8_areSourcesDifferent N fun r5 =>
  if r5 = 0 then
  (j2)
  else
  (j3 (8 : Int32)))
def fX8_host (N : Nm) (K : Int32 → Prop) : Prop :=
  K (N.1 66 14)
def fX8_missedSchedules (N : Nm) (a1 : Int32) (K : Int32 → Prop) : Prop :=
  fX8_isNode N a1 fun r1 =>
  jn (α := Int32 → Prop) (fun (x5 : Int32) =>
  K x5) fun j2 =>
  if r1 = 0 then
  (j2 (-1001 : Int32))
  else
  (inb a1 8 ∧
  j2 (N.1 76 (Int32.toNatClampNeg a1)))
def fX8_transmissions (N : Nm) (a1 : Int32) (K : Int32 → Prop) : Prop :=
  fX8_isNode N a1 fun r1 =>
  jn (α := Int32 → Prop) (fun (x5 : Int32) =>
  K x5) fun j2 =>
  if r1 = 0 then
  (j2 (-1001 : Int32))
  else
  (inb a1 8 ∧
  j2 (N.1 75 (Int32.toNatClampNeg a1)))
def fX8_roundNumber (N : Nm) (K : Int32 → Prop) : Prop :=
  K (N.1 66 15)
def fX8_mix (N : Nm) (a1 : Int64) (K : Nm → Prop) : Prop :=
  bd (N.1, (((31 : Int64) * N.2) + a1)) fun N1 =>
  K N1
def fX8_digest_L9  (E : Int32 → Nm → Prop) (K : Int64 → Nm → Prop) : Nat → Int32 → Nm → Prop
  | 0, _, _ => False
  | n + 1, v1, N =>
  if (N.1 66 2) ≤ v1 then
  (E v1 N)
  else
  (inb v1 8 ∧
  fX8_mix N (Int32.toInt64 (N.1 73 (Int32.toNatClampNeg v1))) fun N4 =>
  fX8_hops N4 v1 fun r5 =>
  fX8_mix N4 (Int32.toInt64 r5) fun N6 =>
  inb v1 8 ∧
  fX8_mix N6 (Int32.toInt64 (N6.1 76 (Int32.toNatClampNeg v1))) fun N8 =>
  inb v1 8 ∧
  fX8_mix N8 (Int32.toInt64 (N8.1 75 (Int32.toNatClampNeg v1))) fun N10 =>
  inb v1 8 ∧
  jn (α := Int64 → Prop) (fun (x14 : Int64) =>
  fX8_mix N10 x14 fun N15 =>
  bd (v1 + (1 : Int32)) fun x16 =>
  fX8_digest_L9 E K n x16 N15) fun j12 =>
  if (N10.1 72 (Int32.toNatClampNeg v1)) = 0 then
  (j12 (0 : Int64))
  else
  (j12 (1 : Int64)))
def fX8_digest_L95  (E : Int32 → Nm → Prop) (K : Int64 → Nm → Prop) : Nat → Int32 → Nm → Prop
  | 0, _, _ => False
  | n + 1, v1, N =>
  if (N.1 66 20) ≤ v1 then
  (E v1 N)
  else
  (inb v1 6 ∧
  fX8_mix N (Int32.toInt64 (N.1 80 (Int32.toNatClampNeg v1))) fun N23 =>
  inb v1 6 ∧
  fX8_mix N23 (Int32.toInt64 (N23.1 82 (Int32.toNatClampNeg v1))) fun N25 =>
  inb v1 6 ∧
  fX8_mix N25 (Int32.toInt64 (N25.1 83 (Int32.toNatClampNeg v1))) fun N27 =>
  bd (v1 + (1 : Int32)) fun x28 =>
  fX8_digest_L95 E K n x28 N27)
def fX8_digest_L144  (E : Int32 → Nm → Prop) (K : Int64 → Nm → Prop) : Nat → Int32 → Nm → Prop
  | 0, _, _ => False
  | n + 1, v1, N =>
  if (N.1 66 28) ≤ v1 then
  (E v1 N)
  else
  (inb v1 6 ∧
  fX8_mix N (Int32.toInt64 (N.1 84 (Int32.toNatClampNeg v1))) fun N34 =>
  bd (v1 + (1 : Int32)) fun x35 =>
  fX8_digest_L144 E K n x35 N34)
def fX8_digest_L198  (E : Int32 → Nm → Prop) (K : Int64 → Nm → Prop) : Nat → Int32 → Nm → Prop
  | 0, _, _ => False
  | n + 1, v1, N =>
  if (N.1 66 0) ≤ v1 then
  (E v1 N)
  else
  (inb v1 61 ∧
  fX8_mix N (Int32.toInt64 (N.1 67 (Int32.toNatClampNeg v1))) fun N45 =>
  bd (v1 + (1 : Int32)) fun x46 =>
  fX8_digest_L198 E K n x46 N45)
def fX8_digest (N : Nm) (K : Int64 → Nm → Prop) : Prop :=
  bd (N.1, (1753 : Int64)) fun N1 =>
  jn (α := Int32 → Nm → Prop) (fun (x18 : Int32) (N19 : Nm) =>
  fX8_mix N19 (Int32.toInt64 (N19.1 66 13)) fun N20 =>
  jn (α := Int32 → Nm → Prop) (fun (x30 : Int32) (N31 : Nm) =>
  jn (α := Int32 → Nm → Prop) (fun (x37 : Int32) (N38 : Nm) =>
  fX8_scheduleBits N38 fun r39 =>
  fX8_mix N38 (Int32.toInt64 r39) fun N40 =>
  fX8_mix N40 (Int32.toInt64 (N40.1 66 14)) fun N41 =>
  fX8_mix N41 (Int32.toInt64 (N41.1 66 15)) fun N42 =>
  jn (α := Int32 → Nm → Prop) (fun (x48 : Int32) (N49 : Nm) =>
  fX8_mix N49 (Int32.toInt64 (N49.1 66 0)) fun N50 =>
  K N50.2 N50) fun j47 =>
  fX8_digest_L198  j47 K 200 (0 : Int32) N42) fun j36 =>
  fX8_digest_L144  j36 K 200 (0 : Int32) N31) fun j29 =>
  fX8_digest_L95  j29 K 200 (0 : Int32) N20) fun j17 =>
  fX8_digest_L9  j17 K 200 (0 : Int32) N1

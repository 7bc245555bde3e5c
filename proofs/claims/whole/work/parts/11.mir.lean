def m_X3_next (fu : Nat) (M : Mem) (x0 : Int32) (x1 : Int32) : Option (Int32) :=
  if x0 < 0 then
  (some (-1))
else
  (if x0 < 108 then
  (if x1 = 0 then
  (if x0 < 12 then
  (some (-1))
else
  (some (x0 - 12)))
else if x1 = 1 then
  (if 11 ≤ (x0 - x0 / 12 * 12) then
  (some (-1))
else
  (some (x0 + 1)))
else if x1 = 2 then
  (if 96 ≤ x0 then
  (some (-1))
else
  (some (x0 + 12)))
else 
  (if (x0 - x0 / 12 * 12) ≤ 0 then
  (some (-1))
else
  (some (x0 - 1))))
else
  (some (-1)))
def m_X3_at (fu : Nat) (M : Mem) (a0 : Nat) (x1 : Int32) : Option (Int32) :=
  if x1 < 0 then
  (some (-1))
else
  (if 108 ≤ x1 then
  (some (-1))
else
  (chk (inb x1 (alen (a0 + 1))) <|
  some (M (a0 + 1) x1.toNatClampNeg)))
def m_X3_put (fu : Nat) (M : Mem) (a0 : Nat) (x1 : Int32) (x2 : Int32) : Option (Mem) :=
  if x1 < 0 then
  (some M)
else
  (if 108 ≤ x1 then
  (some M)
else
  (chk (inb x1 (alen (a0 + 1))) <|
  mlet (mst M (a0 + 1) x1.toNatClampNeg x2) fun M8 =>
  some M8))
def m_X3_isFree (fu : Nat) (M : Mem) (a0 : Nat) (x1 : Int32) : Option (Int32) :=
  cb1 (m_X3_at fu M a0 x1) fun r4 =>
  if r4 = 0 then
  (some 1)
else
  (some 0)
def m_X3_cellsWith_L4 (fu : Nat) (M : Mem) (q0 : Nat) (y1 : Int32) : Nat → Int32 → Int32 → Option (Int32)
  | 0, _, _ => none
  | n + 1, z2, z3 =>
  if 108 ≤ z3 then
    (some z2)
  else
    (chk (inb z3 (alen (q0 + 1))) <|
    if (M (q0 + 1) z3.toNatClampNeg) = y1 then
    (mlet (z2 + 1) fun x8 =>
    mlet (z3 + 1) fun x9 =>
    m_X3_cellsWith_L4 fu M q0 y1 n x8 x9)
  else
    (mlet (z3 + 1) fun x7 =>
    m_X3_cellsWith_L4 fu M q0 y1 n z2 x7))
def m_X3_cellsWith (fu : Nat) (M : Mem) (a0 : Nat) (x1 : Int32) : Option (Int32) :=
  cb1 (m_X3_cellsWith_L4 fu M a0 x1 fu 0 0) <|
  fun x12 =>
  some x12
def m_X3_barricades_L4 (fu : Nat) (M : Mem) (q0 : Nat) : Nat → Int32 → Int32 → Option (Int32)
  | 0, _, _ => none
  | n + 1, z1, z2 =>
  if 108 ≤ z2 then
    (some z1)
  else
    (chk (inb z2 (alen (q0 + 1))) <|
    if (M (q0 + 1) z2.toNatClampNeg) ≤ 0 then
    (mlet (z2 + 1) fun x6 =>
    m_X3_barricades_L4 fu M q0 n z1 x6)
  else
    (chk (inb z2 (alen (q0 + 1))) <|
    mlet ((z1 + (M (q0 + 1) z2.toNatClampNeg))) fun x9 =>
    mlet (z2 + 1) fun x10 =>
    m_X3_barricades_L4 fu M q0 n x9 x10))
def m_X3_barricades (fu : Nat) (M : Mem) (a0 : Nat) : Option (Int32) :=
  cb1 (m_X3_barricades_L4 fu M a0 fu 0 0) <|
  fun x13 =>
  some x13
def m_X3_addCellsTo_L5 (fu : Nat) (M : Mem) (q0 : Nat) : Nat → Int64 → Int32 → Option (Int64)
  | 0, _, _ => none
  | n + 1, z3, z5 =>
  if 108 ≤ z5 then
    (some z3)
  else
    (chk (inb z5 (alen (q0 + 1))) <|
    mlet (((z3 * 31) + (((M (q0 + 1) z5.toNatClampNeg) : Int32).toInt64))) fun x6 =>
    mlet (z5 + 1) fun x7 =>
    m_X3_addCellsTo_L5 fu M q0 n x6 x7)
def m_X3_addCellsTo (fu : Nat) (M : Mem) (a0 : Nat) (x1 : Int64) : Option (Int64) :=
  cb1 (m_X3_addCellsTo_L5 fu M a0 fu x1 0) <|
  fun x10 =>
  some x10
def m_X3_become (fu : Nat) (M : Mem) (a0 : Nat) (a1 : Nat) : Option (Mem) :=
  chk (cpok 0 0 108 (alen (a1 + 1)) (alen (a0 + 1))) <|
  mlet (mcp M (a1 + 1) (a0 + 1) (0 : Int32).toNatClampNeg (0 : Int32).toNatClampNeg (108 : Int32).toNatClampNeg) fun M6 =>
  some M6

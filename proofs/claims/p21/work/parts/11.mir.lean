def m_X3_next (fu : Nat) (M : Mem) (x0 : Int32) (x1 : Int32) : Option (Int32) :=
  if x0 < 0 then
  (some (-1))
else
  (if x0 < 108 then
  (if x1 = 0 then
  (if x0 < 12 then
  (some (-1))
else
  (some (x0 - 12)))
else if x1 = 1 then
  (if 11 ≤ (x0 - x0 / 12 * 12) then
  (some (-1))
else
  (some (x0 + 1)))
else if x1 = 2 then
  (if 96 ≤ x0 then
  (some (-1))
else
  (some (x0 + 12)))
else 
  (if (x0 - x0 / 12 * 12) ≤ 0 then
  (some (-1))
else
  (some (x0 - 1))))
else
  (some (-1)))
def m_X3_at (fu : Nat) (M : Mem) (a0 : Nat) (x1 : Int32) : Option (Int32) :=
  if x1 < 0 then
  (some (-1))
else
  (if 108 ≤ x1 then
  (some (-1))
else
  (chk (inb x1 (alen (a0 + 1))) <|
  some (M (a0 + 1) x1.toNatClampNeg)))
def m_X3_put (fu : Nat) (M : Mem) (a0 : Nat) (x1 : Int32) (x2 : Int32) : Option (Mem) :=
  if x1 < 0 then
  (some M)
else
  (if 108 ≤ x1 then
  (some M)
else
  (chk (inb x1 (alen (a0 + 1))) <|
  mlet (mst M (a0 + 1) x1.toNatClampNeg x2) fun M8 =>
  some M8))
def m_X3_isFree (fu : Nat) (M : Mem) (a0 : Nat) (x1 : Int32) : Option (Int32) :=
  cb1 (m_X3_at fu M a0 x1) fun r4 =>
  if r4 = 0 then
  (some 1)
else
  (some 0)
def m_X3_cellsWith_L4 (fu : Nat) (M : Mem) (q0 : Nat) (y1 : Int32) : Nat → Int32 → Int32 → Option (Int32)
  | 0, _, _ => none
  | n + 1, z2, z3 =>
  if 108 ≤ z3 then
    (some z2)
  else
    (chk (inb z3 (alen (q0 + 1))) <|
    if (M (q0 + 1) z3.toNatClampNeg) = y1 then
    (mlet (z2 + 1) fun x8 =>
    mlet (z3 + 1) fun x9 =>
    m_X3_cellsWith_L4 fu M q0 y1 n x8 x9)
  else
    (mlet (z3 + 1) fun x7 =>
    m_X3_cellsWith_L4 fu M q0 y1 n z2 x7))
def m_X3_cellsWith (fu : Nat) (M : Mem) (a0 : Nat) (x1 : Int32) : Option (Int32) :=
  cb1 (m_X3_cellsWith_L4 fu M a0 x1 fu 0 0) <|
  fun x12 =>
  some x12
def m_X3_barricades_L4 (fu : Nat) (M : Mem) (q0 : Nat) : Nat → Int32 → Int32 → Option (Int32)
  | 0, _, _ => none
  | n + 1, z1, z2 =>
  if 108 ≤ z2 then
    (some z1)
  else
    (chk (inb z2 (alen (q0 + 1))) <|
    if (M (q0 + 1) z2.toNatClampNeg) ≤ 0 then
    (mlet (z2 + 1) fun x6 =>
    m_X3_barricades_L4 fu M q0 n z1 x6)
  else
    (chk (inb z2 (alen (q0 + 1))) <|
    mlet ((z1 + (M (q0 + 1) z2.toNatClampNeg))) fun x9 =>
    mlet (z2 + 1) fun x10 =>
    m_X3_barricades_L4 fu M q0 n x9 x10))
def m_X3_barricades (fu : Nat) (M : Mem) (a0 : Nat) : Option (Int32) :=
  cb1 (m_X3_barricades_L4 fu M a0 fu 0 0) <|
  fun x13 =>
  some x13
def m_X3_addCellsTo_L5 (fu : Nat) (M : Mem) (q0 : Nat) : Nat → Int64 → Int32 → Option (Int64)
  | 0, _, _ => none
  | n + 1, z3, z5 =>
  if 108 ≤ z5 then
    (some z3)
  else
    (chk (inb z5 (alen (q0 + 1))) <|
    mlet (((z3 * 31) + (((M (q0 + 1) z5.toNatClampNeg) : Int32).toInt64))) fun x6 =>
    mlet (z5 + 1) fun x7 =>
    m_X3_addCellsTo_L5 fu M q0 n x6 x7)
def m_X3_addCellsTo (fu : Nat) (M : Mem) (a0 : Nat) (x1 : Int64) : Option (Int64) :=
  cb1 (m_X3_addCellsTo_L5 fu M a0 fu x1 0) <|
  fun x10 =>
  some x10
def m_X3_become (fu : Nat) (M : Mem) (a0 : Nat) (a1 : Nat) : Option (Mem) :=
  chk (cpok 0 0 108 (alen (a1 + 1)) (alen (a0 + 1))) <|
  mlet (mcp M (a1 + 1) (a0 + 1) (0 : Int32).toNatClampNeg (0 : Int32).toNatClampNeg (108 : Int32).toNatClampNeg) fun M6 =>
  some M6
def m_X0_isScattered (fu : Nat) (M : Mem) (a0 : Nat) : Option (Int32) :=
  if (M a0 1) = 0 then
  (some 1)
else
  (some 0)
def m_X0_addOrder (fu : Nat) (M : Mem) (a0 : Nat) (x1 : Int32) : Option (Mem) :=
  if (M a0 4) < 0 then
  (some M)
else
  (if 24 ≤ (M a0 4) then
  (some M)
else
  (chk (inb (M a0 4) (alen (a0 + 1))) <|
  mlet (mst M (a0 + 1) (M a0 4).toNatClampNeg x1) fun M7 =>
  mlet (mst M7 a0 4 ((M7 a0 4) + 1)) fun M8 =>
  some M8))
def m_X0_firstOrder (fu : Nat) (M : Mem) (a0 : Nat) : Option (Int32) :=
  if (M a0 4) ≤ 0 then
  (some (-1))
else
  (chk (inb 0 (alen (a0 + 1))) <|
  some (M (a0 + 1) (0 : Int32).toNatClampNeg))
def m_X0_dropFirstOrder (fu : Nat) (M : Mem) (a0 : Nat) : Option (Mem) :=
  if (M a0 4) ≤ 0 then
  (some M)
else
  (if 24 < (M a0 4) then
  (some M)
else
  (mlet (mst M a0 4 ((M a0 4) - 1)) fun M4 =>
  chk (cpok 1 0 (M4 a0 4) (alen (a0 + 1)) (alen (a0 + 1))) <|
  mlet (mcp M4 (a0 + 1) (a0 + 1) (1 : Int32).toNatClampNeg (0 : Int32).toNatClampNeg (M4 a0 4).toNatClampNeg) fun M8 =>
  some M8))
def m_X0_addOrdersTo_L5 (fu : Nat) (M : Mem) (q0 : Nat) : Nat → Int64 → Int32 → Option (Int64)
  | 0, _, _ => none
  | n + 1, z3, z5 =>
  if (M q0 4) ≤ z5 then
    (some z3)
  else
    (if 24 ≤ z5 then
    (some z3)
  else
    (chk (inb z5 (alen (q0 + 1))) <|
    mlet (((z3 * 31) + (((M (q0 + 1) z5.toNatClampNeg) : Int32).toInt64))) fun x7 =>
    mlet (z5 + 1) fun x8 =>
    m_X0_addOrdersTo_L5 fu M q0 n x7 x8))
def m_X0_addOrdersTo (fu : Nat) (M : Mem) (a0 : Nat) (x1 : Int64) : Option (Int64) :=
  cb1 (m_X0_addOrdersTo_L5 fu M a0 fu x1 0) <|
  fun x11 =>
  some x11
def m_X0_become (fu : Nat) (M : Mem) (a0 : Nat) (a1 : Nat) : Option (Mem) :=
  mlet (mst M a0 0 (M a1 0)) fun M3 =>
  mlet (mst M3 a0 1 (M3 a1 1)) fun M4 =>
  chk (isb (M4 a1 2)) <|
  mlet (mst M4 a0 2 (M4 a1 2)) fun M6 =>
  chk (cpok 0 0 24 (alen (a1 + 1)) (alen (a0 + 1))) <|
  mlet (mcp M6 (a1 + 1) (a0 + 1) (0 : Int32).toNatClampNeg (0 : Int32).toNatClampNeg (24 : Int32).toNatClampNeg) fun M10 =>
  mlet (mst M10 a0 4 (M10 a1 4)) fun M11 =>
  mlet (mst M11 a0 5 (M11 a1 5)) fun M12 =>
  some M12
def m_X2_nextDirection (fu : Nat) (M : Mem) (a0 : Nat) : Option (Int32) :=
  some (((M a0 2) >>> ((2 * (M a0 3)) &&& 31)) &&& 3)
def m_X2_moveOn (fu : Nat) (M : Mem) (a0 : Nat) (a1 : Nat) : Option (Mem) :=
  cb1 (m_X2_nextDirection fu M a0) fun r4 =>
  cb1 (m_X3_next fu M (M a0 0) r4) fun r6 =>
  cb1 (m_X3_isFree fu M a1 r6) fun r8 =>
  if r8 = 0 then
  (if (M a0 1) ≤ ((M a0 3) + 1) then
  (mlet (mst M a0 3 0) fun M11 =>
  some M11)
else
  (mlet (mst M a0 3 ((M a0 3) + 1)) fun M12 =>
  some M12))
else
  (mlet (mst M a0 0 r6) fun M13 =>
  if (M13 a0 1) ≤ ((M13 a0 3) + 1) then
  (mlet (mst M13 a0 3 0) fun M15 =>
  some M15)
else
  (mlet (mst M13 a0 3 ((M13 a0 3) + 1)) fun M16 =>
  some M16))
def m_X2_become (fu : Nat) (M : Mem) (a0 : Nat) (a1 : Nat) : Option (Mem) :=
  mlet (mst M a0 0 (M a1 0)) fun M3 =>
  mlet (mst M3 a0 1 (M3 a1 1)) fun M4 =>
  mlet (mst M4 a0 2 (M4 a1 2)) fun M5 =>
  mlet (mst M5 a0 3 (M5 a1 3)) fun M6 =>
  some M6
def m_X1_addCrowd (fu : Nat) (M : Mem) (a0 : Nat) (x1 : Int32) (x2 : Int32) : Option (Mem × Int32) :=
  mlet ((M a0 2)) fun x4 =>
  if 6 ≤ x4 then
  (some (M, x4))
else
  (chk (inb x4 6) <|
  mlet (mst M (elC (a0 + 3) x4) 0 x1) fun M9 =>
  chk (inb x4 6) <|
  mlet (mst M9 (elC (a0 + 3) x4) 1 x2) fun M13 =>
  chk (inb x4 6) <|
  mlet (mst M13 (elC (a0 + 3) x4) 2 1) fun M17 =>
  mlet (mst M17 a0 2 ((M17 a0 2) + 1)) fun M18 =>
  some (M18, x4))
def m_X1_addPatrol (fu : Nat) (M : Mem) (a0 : Nat) (x1 : Int32) (x2 : Int32) (x3 : Int32) : Option (Mem × Int32) :=
  mlet ((M a0 4)) fun x5 =>
  if 3 ≤ x5 then
  (some (M, x5))
else
  (chk (inb x5 3) <|
  mlet (mst M (elP (a0 + 4) x5) 0 x1) fun M10 =>
  chk (inb x5 3) <|
  mlet (mst M10 (elP (a0 + 4) x5) 1 x2) fun M14 =>
  chk (inb x5 3) <|
  mlet (mst M14 (elP (a0 + 4) x5) 2 x3) fun M18 =>
  mlet (mst M18 a0 4 ((M18 a0 4) + 1)) fun M19 =>
  some (M19, x5))
def m_X1_isTaken_L2 (fu : Nat) (M : Mem) (q0 : Nat) (y1 : Int32) : Nat → Int32 → Option ((Unit) ⊕ (Unit))
  | 0, _ => none
  | n + 1, z2 =>
  if (M q0 2) ≤ z2 then
    (some (Sum.inl ()))
  else
    (chk (inb z2 6) <|
    if (M (elC (q0 + 3) z2) 1) ≤ 0 then
    (mlet (z2 + 1) fun x8 =>
    m_X1_isTaken_L2 fu M q0 y1 n x8)
  else
    (chk (inb z2 6) <|
    if (M (elC (q0 + 3) z2) 0) = y1 then
    (some (Sum.inr ()))
  else
    (mlet (z2 + 1) fun x13 =>
    m_X1_isTaken_L2 fu M q0 y1 n x13)))
def m_X1_isTaken_L45 (fu : Nat) (M : Mem) (q0 : Nat) (y1 : Int32) : Nat → Int32 → Option ((Unit) ⊕ (Unit))
  | 0, _ => none
  | n + 1, z2 =>
  if (M q0 4) ≤ z2 then
    (some (Sum.inl ()))
  else
    (chk (inb z2 3) <|
    if (M (elP (q0 + 4) z2) 0) = y1 then
    (some (Sum.inr ()))
  else
    (mlet (z2 + 1) fun x21 =>
    m_X1_isTaken_L45 fu M q0 y1 n x21))
def m_X1_isTaken (fu : Nat) (M : Mem) (a0 : Nat) (x1 : Int32) : Option (Int32) :=
  cb1 (m_X1_isTaken_L2 fu M a0 x1 fu 0) <|
  Sum.elim (fun _ =>
  cb1 (m_X1_isTaken_L45 fu M a0 x1 fu 0) <|
  Sum.elim (fun _ =>
  some 0) (fun _ =>
  some 1)) (fun _ =>
  some 1)
def m_X1_isSeen_L113 (fu : Nat) (M : Mem) (q0 : Nat) (y5 : Int32) (y7 : Int32) (y8 : Int32) : Nat → Int32 → Option ((Unit) ⊕ (Unit))
  | 0, _ => none
  | n + 1, z9 =>
  if y5 ≤ z9 then
    (some (Sum.inl ()))
  else
    (cb1 (m_X3_at fu M (q0 + 1) (y7 + (z9 * y8))) fun r24 =>
    if r24 = 0 then
    (mlet (z9 + 1) fun x26 =>
    m_X1_isSeen_L113 fu M q0 y5 y7 y8 n x26)
  else
    (some (Sum.inr ())))
def m_X1_isSeen (fu : Nat) (M : Mem) (a0 : Nat) (a1 : Nat) (a2 : Nat) : Option (Int32) :=
  mlet ((M a2 0)) fun x4 =>
  mlet ((M a1 0)) fun x5 =>
  mlet (((x4 - x4 / 12 * 12) - (x5 - x5 / 12 * 12))) fun x6 =>
  mlet (mabs x6) fun x7 =>
  mlet ((((M a2 0) / 12) - ((M a1 0) / 12))) fun x8 =>
  mlet (mabs x8) fun x9 =>
  mlet ((x7 + x9)) fun x10 =>
  if (M a2 2) = 0 then
  (cb1 (m_X0_isScattered fu M a2) fun r13 =>
  if r13 = 0 then
  (if x7 ≤ 0 then
  (if x10 ≤ 1 then
  (mlet ((M a2 0)) fun x17 =>
  mlet ((M a1 0)) fun x18 =>
  mlet (mmin x17 x18) fun x19 =>
  if x9 = 0 then
  (cb1 (m_X1_isSeen_L113 fu M a0 x10 x19 1 fu 1) <|
  Sum.elim (fun _ =>
  some 1) (fun _ =>
  some 0))
else
  (cb1 (m_X1_isSeen_L113 fu M a0 x10 x19 12 fu 1) <|
  Sum.elim (fun _ =>
  some 1) (fun _ =>
  some 0)))
else
  (some 0))
else
  (if 0 < x9 then
  (some 0)
else
  (if x10 ≤ 1 then
  (mlet ((M a2 0)) fun x33 =>
  mlet ((M a1 0)) fun x34 =>
  mlet (mmin x33 x34) fun x35 =>
  if x9 = 0 then
  (cb1 (m_X1_isSeen_L113 fu M a0 x10 x35 1 fu 1) <|
  Sum.elim (fun _ =>
  some 1) (fun _ =>
  some 0))
else
  (cb1 (m_X1_isSeen_L113 fu M a0 x10 x35 12 fu 1) <|
  Sum.elim (fun _ =>
  some 1) (fun _ =>
  some 0)))
else
  (some 0))))
else
  (some 0))
else
  (cb1 (m_X0_isScattered fu M a2) fun r42 =>
  if r42 = 0 then
  (if x7 ≤ 0 then
  (if x10 ≤ 4 then
  (mlet ((M a2 0)) fun x46 =>
  mlet ((M a1 0)) fun x47 =>
  mlet (mmin x46 x47) fun x48 =>
  if x9 = 0 then
  (cb1 (m_X1_isSeen_L113 fu M a0 x10 x48 1 fu 1) <|
  Sum.elim (fun _ =>
  some 1) (fun _ =>
  some 0))
else
  (cb1 (m_X1_isSeen_L113 fu M a0 x10 x48 12 fu 1) <|
  Sum.elim (fun _ =>
  some 1) (fun _ =>
  some 0)))
else
  (some 0))
else
  (if 0 < x9 then
  (some 0)
else
  (if x10 ≤ 4 then
  (mlet ((M a2 0)) fun x56 =>
  mlet ((M a1 0)) fun x57 =>
  mlet (mmin x56 x57) fun x58 =>
  if x9 = 0 then
  (cb1 (m_X1_isSeen_L113 fu M a0 x10 x58 1 fu 1) <|
  Sum.elim (fun _ =>
  some 1) (fun _ =>
  some 0))
else
  (cb1 (m_X1_isSeen_L113 fu M a0 x10 x58 12 fu 1) <|
  Sum.elim (fun _ =>
  some 1) (fun _ =>
  some 0)))
else
  (some 0))))
else
  (some 0))
def m_X1_patrolsThatSee_L4 (fu : Nat) (M : Mem) (q0 : Nat) (q1 : Nat) : Nat → Int32 → Int32 → Option (Int32)
  | 0, _, _ => none
  | n + 1, z2, z3 =>
  if (M q0 4) ≤ z3 then
    (some z2)
  else
    (chk (inb z3 3) <|
    cb1 (m_X1_isSeen fu M q0 (elP (q0 + 4) z3) q1) fun r8 =>
    if r8 = 0 then
    (mlet (z3 + 1) fun x10 =>
    m_X1_patrolsThatSee_L4 fu M q0 q1 n z2 x10)
  else
    (mlet (z2 + 1) fun x11 =>
    mlet (z3 + 1) fun x12 =>
    m_X1_patrolsThatSee_L4 fu M q0 q1 n x11 x12))
def m_X1_patrolsThatSee (fu : Nat) (M : Mem) (a0 : Nat) (a1 : Nat) : Option (Int32) :=
  cb1 (m_X1_patrolsThatSee_L4 fu M a0 a1 fu 0 0) <|
  fun x15 =>
  some x15
def m_X1_crowdsSeenBy_L4 (fu : Nat) (M : Mem) (q0 : Nat) (q1 : Nat) : Nat → Int32 → Int32 → Option (Int32)
  | 0, _, _ => none
  | n + 1, z2, z3 =>
  if (M q0 2) ≤ z3 then
    (some z2)
  else
    (chk (inb z3 6) <|
    cb1 (m_X1_isSeen fu M q0 q1 (elC (q0 + 3) z3)) fun r8 =>
    if r8 = 0 then
    (mlet (z3 + 1) fun x10 =>
    m_X1_crowdsSeenBy_L4 fu M q0 q1 n z2 x10)
  else
    (mlet (z2 + 1) fun x11 =>
    mlet (z3 + 1) fun x12 =>
    m_X1_crowdsSeenBy_L4 fu M q0 q1 n x11 x12))
def m_X1_crowdsSeenBy (fu : Nat) (M : Mem) (a0 : Nat) (a1 : Nat) : Option (Int32) :=
  cb1 (m_X1_crowdsSeenBy_L4 fu M a0 a1 fu 0 0) <|
  fun x15 =>
  some x15
def m_X1_crowdsLeft_L4 (fu : Nat) (M : Mem) (q0 : Nat) : Nat → Int32 → Int32 → Option (Int32)
  | 0, _, _ => none
  | n + 1, z1, z2 =>
  if (M q0 2) ≤ z2 then
    (some z1)
  else
    (chk (inb z2 6) <|
    cb1 (m_X0_isScattered fu M (elC (q0 + 3) z2)) fun r7 =>
    if r7 = 0 then
    (mlet (z1 + 1) fun x10 =>
    mlet (z2 + 1) fun x11 =>
    m_X1_crowdsLeft_L4 fu M q0 n x10 x11)
  else
    (mlet (z2 + 1) fun x9 =>
    m_X1_crowdsLeft_L4 fu M q0 n z1 x9))
def m_X1_crowdsLeft (fu : Nat) (M : Mem) (a0 : Nat) : Option (Int32) :=
  cb1 (m_X1_crowdsLeft_L4 fu M a0 fu 0 0) <|
  fun x14 =>
  some x14
def m_X1_peopleLeft_L4 (fu : Nat) (M : Mem) (q0 : Nat) : Nat → Int32 → Int32 → Option (Int32)
  | 0, _, _ => none
  | n + 1, z1, z2 =>
  if (M q0 2) ≤ z2 then
    (some z1)
  else
    (chk (inb z2 6) <|
    mlet ((z1 + (M (elC (q0 + 3) z2) 1))) fun x6 =>
    mlet (z2 + 1) fun x7 =>
    m_X1_peopleLeft_L4 fu M q0 n x6 x7)
def m_X1_peopleLeft (fu : Nat) (M : Mem) (a0 : Nat) : Option (Int32) :=
  cb1 (m_X1_peopleLeft_L4 fu M a0 fu 0 0) <|
  fun x10 =>
  some x10
def m_X1_ordersMissed_L4 (fu : Nat) (M : Mem) (q0 : Nat) : Nat → Int32 → Int32 → Option (Int32)
  | 0, _, _ => none
  | n + 1, z1, z2 =>
  if (M q0 2) ≤ z2 then
    (some z1)
  else
    (chk (inb z2 6) <|
    mlet ((z1 + (M (elC (q0 + 3) z2) 5))) fun x6 =>
    mlet (z2 + 1) fun x7 =>
    m_X1_ordersMissed_L4 fu M q0 n x6 x7)
def m_X1_ordersMissed (fu : Nat) (M : Mem) (a0 : Nat) : Option (Int32) :=
  cb1 (m_X1_ordersMissed_L4 fu M a0 fu 0 0) <|
  fun x10 =>
  some x10
def m_X1_crowdNumber (fu : Nat) (M : Mem) (a0 : Nat) (a1 : Nat) (x2 : Int32) : Option (Int32) :=
  if x2 = 0 then
  (mlet ((M a1 0)) fun x5 =>
  some (x5 - x5 / 12 * 12))
else if x2 = 1 then
  (some ((M a1 0) / 12))
else if x2 = 2 then
  (some (M a1 1))
else if x2 = 3 then
  (if (M a1 2) = 0 then
  (some 0)
else
  (some 1))
else if x2 = 4 then
  (some (M a1 4))
else if x2 = 5 then
  (cb1 (m_X0_firstOrder fu M a1) fun r13 =>
  some r13)
else if x2 = 6 then
  (some (M a1 5))
else 
  (cb1 (m_X1_patrolsThatSee fu M a0 a1) fun r16 =>
  some r16)
def m_X1_guardNumber (fu : Nat) (M : Mem) (a0 : Nat) (a1 : Nat) (x2 : Int32) : Option (Int32) :=
  if x2 = 0 then
  (mlet ((M a1 0)) fun x5 =>
  some (x5 - x5 / 12 * 12))
else if x2 = 1 then
  (some ((M a1 0) / 12))
else if x2 = 2 then
  (cb1 (m_X2_nextDirection fu M a1) fun r9 =>
  some r9)
else 
  (cb1 (m_X1_crowdsSeenBy fu M a0 a1) fun r11 =>
  some r11)
def m_X1_total (fu : Nat) (M : Mem) (a0 : Nat) (x1 : Int32) : Option (Int32) :=
  if x1 = 0 then
  (some (M a0 5))
else if x1 = 1 then
  (cb1 (m_X3_cellsWith fu M (a0 + 1) (-1)) fun r7 =>
  some r7)
else if x1 = 2 then
  (cb1 (m_X3_barricades fu M (a0 + 1)) fun r11 =>
  some r11)
else if x1 = 3 then
  (cb1 (m_X3_cellsWith fu M (a0 + 1) 0) fun r15 =>
  some r15)
else if x1 = 4 then
  (cb1 (m_X1_crowdsLeft fu M a0) fun r18 =>
  some r18)
else if x1 = 5 then
  (cb1 (m_X1_peopleLeft fu M a0) fun r21 =>
  some r21)
else if x1 = 6 then
  (some (M a0 4))
else 
  (cb1 (m_X1_ordersMissed fu M a0) fun r24 =>
  some r24)
def m_X1_addCrowdTo_L6 (fu : Nat) (M : Mem) (q0 : Nat) (q3 : Nat) : Nat → Int64 → Int32 → Option (Int64)
  | 0, _, _ => none
  | n + 1, z4, z6 =>
  if 8 ≤ z6 then
    (some z4)
  else
    (cb1 (m_X1_crowdNumber fu M q0 q3 z6) fun r6 =>
    mlet (((z4 * 31) + ((r6 : Int32).toInt64))) fun x7 =>
    mlet (z6 + 1) fun x8 =>
    m_X1_addCrowdTo_L6 fu M q0 q3 n x7 x8)
def m_X1_addCrowdTo (fu : Nat) (M : Mem) (a0 : Nat) (x1 : Int64) (a2 : Nat) : Option (Int64) :=
  cb1 (m_X1_addCrowdTo_L6 fu M a0 a2 fu x1 0) <|
  fun x11 =>
  cb1 (m_X0_addOrdersTo fu M a2 x11) fun r13 =>
  some r13
def m_X1_addPatrolTo_L6 (fu : Nat) (M : Mem) (q0 : Nat) (q3 : Nat) : Nat → Int64 → Int32 → Option (Int64)
  | 0, _, _ => none
  | n + 1, z4, z6 =>
  if 4 ≤ z6 then
    (some z4)
  else
    (cb1 (m_X1_guardNumber fu M q0 q3 z6) fun r6 =>
    mlet (((z4 * 31) + ((r6 : Int32).toInt64))) fun x7 =>
    mlet (z6 + 1) fun x8 =>
    m_X1_addPatrolTo_L6 fu M q0 q3 n x7 x8)
def m_X1_addPatrolTo (fu : Nat) (M : Mem) (a0 : Nat) (x1 : Int64) (a2 : Nat) : Option (Int64) :=
  cb1 (m_X1_addPatrolTo_L6 fu M a0 a2 fu x1 0) <|
  fun x11 =>
  some x11
def m_X1_become_L13 (fu : Nat) (q0 : Nat) (q1 : Nat) : Nat → Mem → Int32 → Option (Mem)
  | 0, _, _ => none
  | n + 1, M, z2 =>
  if 6 ≤ z2 then
    (some M)
  else
    (chk (inb z2 6) <|
    chk (inb z2 6) <|
    cb1 (m_X0_become fu M (elC (q0 + 3) z2) (elC (q1 + 3) z2)) fun M17 =>
    mlet (z2 + 1) fun x18 =>
    m_X1_become_L13 fu q0 q1 n M17 x18)
def m_X1_become_L50 (fu : Nat) (q0 : Nat) (q1 : Nat) : Nat → Mem → Int32 → Option (Mem)
  | 0, _, _ => none
  | n + 1, M, z2 =>
  if 3 ≤ z2 then
    (some M)
  else
    (chk (inb z2 3) <|
    chk (inb z2 3) <|
    cb1 (m_X2_become fu M (elP (q0 + 4) z2) (elP (q1 + 4) z2)) fun M32 =>
    mlet (z2 + 1) fun x33 =>
    m_X1_become_L50 fu q0 q1 n M32 x33)
def m_X1_become (fu : Nat) (M : Mem) (a0 : Nat) (a1 : Nat) : Option (Mem) :=
  cb1 (m_X3_become fu M (a0 + 1) (a1 + 1)) fun M7 =>
  cb1 (m_X1_become_L13 fu a0 a1 fu M7 0) <|
  fun M21 =>
  mlet (mst M21 a0 2 (M21 a1 2)) fun M22 =>
  cb1 (m_X1_become_L50 fu a0 a1 fu M22 0) <|
  fun M36 =>
  mlet (mst M36 a0 4 (M36 a1 4)) fun M37 =>
  mlet (mst M37 a0 5 (M37 a1 5)) fun M38 =>
  some M38
def m_X1_tryGo (fu : Nat) (M : Mem) (a0 : Nat) (a1 : Nat) (x2 : Int32) (x3 : Int32) : Option (Mem × Int32) :=
  cb1 (m_X3_at fu M (a0 + 1) x2) fun r7 =>
  cb1 (m_X3_at fu M (a0 + 1) x3) fun r10 =>
  if r7 ≤ 0 then
  (if r7 = 0 then
  (mlet (mst M a1 0 x2) fun M14 =>
  some (M14, 1))
else
  (some (M, 0)))
else
  (if (M a1 1) < (2 * r7) then
  (if r7 = 0 then
  (mlet (mst M a1 0 x2) fun M19 =>
  some (M19, 1))
else
  (some (M, 0)))
else
  (if r10 = (-1) then
  (if r7 = 0 then
  (mlet (mst M a1 0 x2) fun M24 =>
  some (M24, 1))
else
  (some (M, 0)))
else
  (if (3 - r7) < r10 then
  (if r7 = 0 then
  (mlet (mst M a1 0 x2) fun M29 =>
  some (M29, 1))
else
  (some (M, 0)))
else
  (cb1 (m_X1_isTaken fu M a0 x3) fun r32 =>
  if r32 = 0 then
  (if r7 = 0 then
  (cb1 (m_X3_put fu M (a0 + 1) x2 0) fun M43 =>
  cb1 (m_X3_put fu M43 (a0 + 1) x3 (r10 + r7)) fun M47 =>
  mlet (mst M47 a1 0 x2) fun M48 =>
  some (M48, 1))
else
  (cb1 (m_X3_put fu M (a0 + 1) x2 0) fun M54 =>
  cb1 (m_X3_put fu M54 (a0 + 1) x3 (r10 + r7)) fun M58 =>
  mlet (mst M58 a1 0 x2) fun M59 =>
  some (M59, 1)))
else
  (if r7 = 0 then
  (mlet (mst M a1 0 x2) fun M36 =>
  some (M36, 1))
else
  (some (M, 0)))))))
def m_X1_tryRaise (fu : Nat) (M : Mem) (a0 : Nat) (a1 : Nat) (x2 : Int32) : Option (Mem × Int32) :=
  cb1 (m_X3_at fu M (a0 + 1) x2) fun r6 =>
  if (M a1 1) < 3 then
  (some (M, 0))
else
  (if r6 = (-1) then
  (some (M, 0))
else
  (if 3 ≤ r6 then
  (some (M, 0))
else
  (cb1 (m_X1_isTaken fu M a0 x2) fun r11 =>
  if r11 = 0 then
  (cb1 (m_X3_put fu M (a0 + 1) x2 (r6 + 1)) fun M16 =>
  some (M16, 1))
else
  (some (M, 0)))))
def m_X1_tryPullDown (fu : Nat) (M : Mem) (a0 : Nat) (x1 : Int32) : Option (Mem × Int32) :=
  cb1 (m_X3_at fu M (a0 + 1) x1) fun r5 =>
  if 0 < r5 then
  (cb1 (m_X3_put fu M (a0 + 1) x1 (r5 - 1)) fun M10 =>
  some (M10, 1))
else
  (some (M, 0))
def m_X1_tryOrder (fu : Nat) (M : Mem) (a0 : Nat) (a1 : Nat) (x2 : Int32) (x3 : Int32) : Option (Mem × Int32) :=
  cb1 (m_X3_next fu M (M a1 0) x3) fun r6 =>
  if x2 = 0 then
  (cb1 (m_X3_next fu M r6 x3) fun r9 =>
  cb2 (m_X1_tryGo fu M a0 a1 r6 r9) fun M12 r11 =>
  chk (isb r11) <|
  some (M12, r11))
else if x2 = 1 then
  (cb2 (m_X1_tryRaise fu M a0 a1 r6) fun M17 r16 =>
  chk (isb r16) <|
  some (M17, r16))
else 
  (cb2 (m_X1_tryPullDown fu M a0 r6) fun M21 r20 =>
  chk (isb r20) <|
  some (M21, r20))
def m_X1_obeyOrders_L2 (fu : Nat) (q0 : Nat) : Nat → Mem → Int32 → Option (Mem)
  | 0, _, _ => none
  | n + 1, M, z1 =>
  if (M q0 2) ≤ z1 then
    (some M)
  else
    (chk (inb z1 6) <|
    cb1 (m_X0_firstOrder fu M (elC (q0 + 3) z1)) fun r7 =>
    cb1 (m_X0_isScattered fu M (elC (q0 + 3) z1)) fun r9 =>
    if r9 = 0 then
    (if r7 = (-1) then
    (mlet (z1 + 1) fun x23 =>
    m_X1_obeyOrders_L2 fu q0 n M x23)
  else
    (cb1 (m_X0_dropFirstOrder fu M (elC (q0 + 3) z1)) fun M15 =>
    cb2 (m_X1_tryOrder fu M15 q0 (elC (q0 + 3) z1) (r7 >>> (2 &&& 31)) (r7 &&& 3)) fun M18 r17 =>
    if r17 = 0 then
    (mlet (mst M18 (elC (q0 + 3) z1) 5 ((M18 (elC (q0 + 3) z1) 5) + 1)) fun M21 =>
    mlet (z1 + 1) fun x22 =>
    m_X1_obeyOrders_L2 fu q0 n M21 x22)
  else
    (mlet (z1 + 1) fun x20 =>
    m_X1_obeyOrders_L2 fu q0 n M18 x20)))
  else
    (mlet (z1 + 1) fun x11 =>
    m_X1_obeyOrders_L2 fu q0 n M x11))
def m_X1_obeyOrders (fu : Nat) (M : Mem) (a0 : Nat) : Option (Mem) :=
  cb1 (m_X1_obeyOrders_L2 fu a0 fu M 0) <|
  fun M26 =>
  some M26
def m_X1_scatter_L2 (fu : Nat) (q0 : Nat) : Nat → Mem → Int32 → Option (Mem)
  | 0, _, _ => none
  | n + 1, M, z1 =>
  if (M q0 2) ≤ z1 then
    (some M)
  else
    (chk (inb z1 6) <|
    cb1 (m_X1_patrolsThatSee fu M q0 (elC (q0 + 3) z1)) fun r7 =>
    mlet (((M (elC (q0 + 3) z1) 1) - r7)) fun x8 =>
    mlet (mmax x8 0) fun x9 =>
    mlet (mst M (elC (q0 + 3) z1) 1 x9) fun M10 =>
    mlet (z1 + 1) fun x11 =>
    m_X1_scatter_L2 fu q0 n M10 x11)
def m_X1_scatter (fu : Nat) (M : Mem) (a0 : Nat) : Option (Mem) :=
  cb1 (m_X1_scatter_L2 fu a0 fu M 0) <|
  fun M14 =>
  some M14
def m_X1_goOn_L13 (fu : Nat) (q0 : Nat) (y1 : Int32) (y2 : Int32) : Nat → Mem → Int32 → Option (Mem)
  | 0, _, _ => none
  | n + 1, M, z3 =>
  if (M q0 4) ≤ z3 then
    (some M)
  else
    (chk (inb z3 3) <|
    cb1 (m_X2_moveOn fu M (elP (q0 + 4) z3) (q0 + 1)) fun M14 =>
    mlet (z3 + 1) fun x15 =>
    m_X1_goOn_L13 fu q0 y1 y2 n M14 x15)
def m_X1_goOn_L2 (fu : Nat) (q0 : Nat) (y1 : Int32) : Nat → Mem → Int32 → Option (Mem)
  | 0, _, _ => none
  | n + 1, M, z2 =>
  if y1 ≤ z2 then
    (some M)
  else
    (cb1 (m_X1_obeyOrders fu M q0) fun M6 =>
    cb1 (m_X1_goOn_L13 fu q0 y1 z2 fu M6 0) <|
    fun M18 =>
    cb1 (m_X1_scatter fu M18 q0) fun M21 =>
    mlet (mst M21 q0 5 ((M21 q0 5) + 1)) fun M22 =>
    mlet (z2 + 1) fun x23 =>
    m_X1_goOn_L2 fu q0 y1 n M22 x23)
def m_X1_goOn (fu : Nat) (M : Mem) (a0 : Nat) (x1 : Int32) : Option (Mem) :=
  cb1 (m_X1_goOn_L2 fu a0 x1 fu M 0) <|
  fun M26 =>
  some M26
def m_J7_fill_53178_L5 (fu : Nat) (q0 : Nat) (y1 : Int32) (y3 : Int32) : Nat → Mem → Int32 → Option (Mem)
  | 0, _, _ => none
  | n + 1, M, z2 =>
  if y3 ≤ z2 then
    (some M)
  else
    (chk (inb z2 (alen q0)) <|
    mlet (mst M q0 z2.toNatClampNeg y1) fun M6 =>
    mlet (z2 + 1) fun x7 =>
    m_J7_fill_53178_L5 fu q0 y1 y3 n M6 x7)
def m_J7_fill_53178 (fu : Nat) (M : Mem) (a0 : Nat) (x1 : Int32) : Option (Mem) :=
  mlet ((Int32.ofNat (alen a0))) fun x3 =>
  cb1 (m_J7_fill_53178_L5 fu a0 x1 x3 fu M 0) <|
  fun M10 =>
  some M10
def m_X4_startAnew (fu : Nat) (M : Mem) (a0 : Nat) : Option (Mem) :=
  cb1 (m_J7_fill_53178 fu M (a0 + 1) (-1)) fun M5 =>
  mlet (mst M5 a0 2 108) fun M6 =>
  mlet (mst M6 a0 3 108) fun M7 =>
  some M7
def m_X4_putLast (fu : Nat) (M : Mem) (a0 : Nat) (x1 : Int32) (x2 : Int32) : Option (Mem) :=
  if (Int32.ofNat (alen (a0 + 2))) ≤ (M a0 3) then
  (some M)
else
  (chk (inb x1 (alen (a0 + 1))) <|
  mlet (mst M (a0 + 1) x1.toNatClampNeg x2) fun M8 =>
  chk (inb (M8 a0 3) (alen (a0 + 2))) <|
  mlet (mst M8 (a0 + 2) (M8 a0 3).toNatClampNeg x1) fun M11 =>
  mlet (mst M11 a0 3 ((M11 a0 3) + 1)) fun M12 =>
  some M12)
def m_X4_putFirst (fu : Nat) (M : Mem) (a0 : Nat) (x1 : Int32) (x2 : Int32) : Option (Mem) :=
  if (M a0 2) ≤ 0 then
  (some M)
else
  (chk (inb x1 (alen (a0 + 1))) <|
  mlet (mst M (a0 + 1) x1.toNatClampNeg x2) fun M7 =>
  mlet (mst M7 a0 2 ((M7 a0 2) - 1)) fun M8 =>
  chk (inb (M8 a0 2) (alen (a0 + 2))) <|
  mlet (mst M8 (a0 + 2) (M8 a0 2).toNatClampNeg x1) fun M11 =>
  some M11)
def m_X4_lead (fu : Nat) (M : Mem) (a0 : Nat) (a1 : Nat) (x2 : Int32) (x3 : Int32) : Option (Mem) :=
  chk (inb x2 (alen (a0 + 1))) <|
  if (M (a0 + 1) x2.toNatClampNeg) = (-1) then
  (cb1 (m_X3_isFree fu M a1 x2) fun r9 =>
  if r9 = 0 then
  (cb1 (m_X4_putFirst fu M a0 x2 x3) fun M13 =>
  some M13)
else
  (cb1 (m_X4_putLast fu M a0 x2 (x3 + 1)) fun M16 =>
  some M16))
else
  (some M)
def m_X4_leadAround_L46 (fu : Nat) (q0 : Nat) (q1 : Nat) (y2 : Int32) (y3 : Int32) (y4 : Int32) (y5 : Int32) : Nat → Mem → Int32 → Option (Mem)
  | 0, _, _ => none
  | n + 1, M, z6 =>
  if (y3 + 1) < z6 then
    (some M)
  else
    (if 12 ≤ z6 then
    (some M)
  else
    (chk (inb y2 (alen (q0 + 1))) <|
    cb1 (m_X4_lead fu M q0 q1 ((12 * y5) + z6) (M (q0 + 1) y2.toNatClampNeg)) fun M18 =>
    mlet (z6 + 1) fun x19 =>
    m_X4_leadAround_L46 fu q0 q1 y2 y3 y4 y5 n M18 x19))
def m_X4_leadAround_L21 (fu : Nat) (q0 : Nat) (q1 : Nat) (y2 : Int32) (y3 : Int32) (y4 : Int32) : Nat → Mem → Int32 → Option (Mem)
  | 0, _, _ => none
  | n + 1, M, z5 =>
  if (y4 + 1) < z5 then
    (some M)
  else
    (if 9 ≤ z5 then
    (some M)
  else
    (mlet ((y3 - 1)) fun x10 =>
    mlet (mmax x10 0) fun x11 =>
    cb1 (m_X4_leadAround_L46 fu q0 q1 y2 y3 y4 z5 fu M x11) <|
    fun M22 =>
    mlet (z5 + 1) fun x23 =>
    m_X4_leadAround_L21 fu q0 q1 y2 y3 y4 n M22 x23))
def m_X4_leadAround (fu : Nat) (M : Mem) (a0 : Nat) (a1 : Nat) (x2 : Int32) : Option (Mem) :=
  mlet ((x2 - x2 / 12 * 12)) fun x4 =>
  mlet ((x2 / 12)) fun x5 =>
  mlet ((x5 - 1)) fun x6 =>
  mlet (mmax x6 0) fun x7 =>
  cb1 (m_X4_leadAround_L21 fu a0 a1 x2 x4 x5 fu M x7) <|
  fun M26 =>
  some M26
def m_X4_fewestToShut_L6 (fu : Nat) (q0 : Nat) (q1 : Nat) : Nat → Mem → Int32 → Option (Mem)
  | 0, _, _ => none
  | n + 1, M, z2 =>
  if 12 ≤ z2 then
    (some M)
  else
    (cb1 (m_X4_lead fu M q0 q1 z2 0) fun M9 =>
    mlet (z2 + 1) fun x10 =>
    m_X4_fewestToShut_L6 fu q0 q1 n M9 x10)
def m_X4_fewestToShut_L27 (fu : Nat) (q0 : Nat) (q1 : Nat) : Nat → Mem → Int32 → Option (Mem)
  | 0, _, _ => none
  | n + 1, M, z2 =>
  if 108 ≤ z2 then
    (some M)
  else
    (if (M q0 3) ≤ (M q0 2) then
    (some M)
  else
    (chk (inb (M q0 2) (alen (q0 + 2))) <|
    mlet ((M (q0 + 2) (M q0 2).toNatClampNeg)) fun x18 =>
    mlet (mst M q0 2 ((M q0 2) + 1)) fun M19 =>
    cb1 (m_X4_leadAround fu M19 q0 q1 x18) fun M22 =>
    mlet (z2 + 1) fun x23 =>
    m_X4_fewestToShut_L27 fu q0 q1 n M22 x23))
def m_X4_fewestToShut_L82 (fu : Nat) (M : Mem) (q0 : Nat) : Nat → Int32 → Int32 → Option (Int32)
  | 0, _, _ => none
  | n + 1, z2, z3 =>
  if 108 ≤ z3 then
    (some z2)
  else
    (chk (inb z3 (alen (q0 + 1))) <|
    mlet ((M (q0 + 1) z3.toNatClampNeg)) fun x30 =>
    mlet (mmin z2 x30) fun x31 =>
    mlet (z3 + 1) fun x32 =>
    m_X4_fewestToShut_L82 fu M q0 n x31 x32)
def m_X4_fewestToShut (fu : Nat) (M : Mem) (a0 : Nat) (a1 : Nat) : Option (Mem × Int32) :=
  cb1 (m_X4_startAnew fu M a0) fun M5 =>
  cb1 (m_X4_fewestToShut_L6 fu a0 a1 fu M5 0) <|
  fun M13 =>
  cb1 (m_X4_fewestToShut_L27 fu a0 a1 fu M13 0) <|
  fun M26 =>
  cb1 (m_X4_fewestToShut_L82 fu M26 a0 fu 9 96) <|
  fun x35 =>
  some (M26, x35)
def m_X4_fewestSteps_L73 (fu : Nat) (q0 : Nat) (q1 : Nat) (y3 : Int32) (y4 : Int32) (y5 : Int32) : Nat → Mem → Int32 → Option (Mem)
  | 0, _, _ => none
  | n + 1, M, z6 =>
  if 4 ≤ z6 then
    (some M)
  else
    (cb1 (m_X3_next fu M y5 z6) fun r25 =>
    cb1 (m_X3_isFree fu M q1 r25) fun r27 =>
    if r27 = 0 then
    (mlet (z6 + 1) fun x29 =>
    m_X4_fewestSteps_L73 fu q0 q1 y3 y4 y5 n M x29)
  else
    (chk (inb r25 (alen (q0 + 1))) <|
    if (M (q0 + 1) r25.toNatClampNeg) = (-1) then
    (chk (inb y5 (alen (q0 + 1))) <|
    cb1 (m_X4_putLast fu M q0 r25 ((M (q0 + 1) y5.toNatClampNeg) + 1)) fun M38 =>
    mlet (z6 + 1) fun x39 =>
    m_X4_fewestSteps_L73 fu q0 q1 y3 y4 y5 n M38 x39)
  else
    (mlet (z6 + 1) fun x33 =>
    m_X4_fewestSteps_L73 fu q0 q1 y3 y4 y5 n M x33)))
def m_X4_fewestSteps_L31 (fu : Nat) (q0 : Nat) (q1 : Nat) (y3 : Int32) : Nat → Mem → Int32 → Option (Mem)
  | 0, _, _ => none
  | n + 1, M, z4 =>
  if 108 ≤ z4 then
    (some M)
  else
    (if (M q0 3) ≤ (M q0 2) then
    (some M)
  else
    (chk (inb (M q0 2) (alen (q0 + 2))) <|
    mlet ((M (q0 + 2) (M q0 2).toNatClampNeg)) fun x21 =>
    mlet (mst M q0 2 ((M q0 2) + 1)) fun M22 =>
    cb1 (m_X4_fewestSteps_L73 fu q0 q1 y3 z4 x21 fu M22 0) <|
    fun M42 =>
    mlet (z4 + 1) fun x43 =>
    m_X4_fewestSteps_L31 fu q0 q1 y3 n M42 x43))
def m_X4_fewestSteps (fu : Nat) (M : Mem) (a0 : Nat) (a1 : Nat) (x2 : Int32) (x3 : Int32) : Option (Mem × Int32) :=
  cb1 (m_X3_isFree fu M a1 x2) fun r6 =>
  if r6 = 0 then
  (some (M, (-1)))
else
  (cb1 (m_X3_isFree fu M a1 x3) fun r9 =>
  if r9 = 0 then
  (some (M, (-1)))
else
  (cb1 (m_X4_startAnew fu M a0) fun M13 =>
  cb1 (m_X4_putLast fu M13 a0 x2 0) fun M16 =>
  cb1 (m_X4_fewestSteps_L31 fu a0 a1 x3 fu M16 0) <|
  fun M46 =>
  chk (inb x3 (alen (a0 + 1))) <|
  some (M46, (M46 (a0 + 1) x3.toNatClampNeg))))
def m_X5_shuts (fu : Nat) (M : Mem) (a0 : Nat) : Option (Mem × Int32) :=
  cb2 (m_X4_fewestToShut fu M 41 (0 + 1)) fun M7 r6 =>
  some (M7, r6)
def m_X5_shutsBehind (fu : Nat) (M : Mem) (a0 : Nat) (x1 : Int32) (x2 : Int32) : Option (Mem × Int32) :=
  cb1 (m_X1_become fu M 20 0) fun M8 =>
  chk (inb x1 6) <|
  mlet (mst M8 (elC (20 + 3) x1) 4 0) fun M13 =>
  chk (inb x1 6) <|
  cb1 (m_X0_addOrder fu M13 (elC (20 + 3) x1) x2) fun M20 =>
  cb1 (m_X1_goOn fu M20 20 1) fun M24 =>
  cb2 (m_X4_fewestToShut fu M24 41 (20 + 1)) fun M30 r29 =>
  some (M30, r29)
def m_X5_digest_L6 (fu : Nat) (M : Mem) (q0 : Nat) : Nat → Int64 → Int32 → Option (Int64)
  | 0, _, _ => none
  | n + 1, z1, z3 =>
  if 8 ≤ z3 then
    (some z1)
  else
    (cb1 (m_X1_total fu M 0 z3) fun r5 =>
    mlet (((z1 * 31) + ((r5 : Int32).toInt64))) fun x6 =>
    mlet (z3 + 1) fun x7 =>
    m_X5_digest_L6 fu M q0 n x6 x7)
def m_X5_digest_L48 (fu : Nat) (M : Mem) (q0 : Nat) : Nat → Int64 → Int32 → Option (Int64)
  | 0, _, _ => none
  | n + 1, z1, z3 =>
  if (M 0 2) ≤ z3 then
    (some z1)
  else
    (chk (inb z3 6) <|
    cb1 (m_X1_addCrowdTo fu M 0 z1 (elC (0 + 3) z3)) fun r23 =>
    mlet (z3 + 1) fun x24 =>
    m_X5_digest_L48 fu M q0 n r23 x24)
def m_X5_digest_L85 (fu : Nat) (M : Mem) (q0 : Nat) : Nat → Int64 → Int32 → Option (Int64)
  | 0, _, _ => none
  | n + 1, z1, z3 =>
  if (M 0 4) ≤ z3 then
    (some z1)
  else
    (chk (inb z3 3) <|
    cb1 (m_X1_addPatrolTo fu M 0 z1 (elP (0 + 4) z3)) fun r36 =>
    mlet (z3 + 1) fun x37 =>
    m_X5_digest_L85 fu M q0 n r36 x37)
def m_X5_digest (fu : Nat) (M : Mem) (a0 : Nat) : Option (Int64) :=
  cb1 (m_X5_digest_L6 fu M a0 fu 997 0) <|
  fun x10 =>
  cb1 (m_X3_addCellsTo fu M (0 + 1) x10) fun r14 =>
  cb1 (m_X5_digest_L48 fu M a0 fu r14 0) <|
  fun x27 =>
  cb1 (m_X5_digest_L85 fu M a0 fu x27 0) <|
  fun x40 =>
  some x40
def m_X5_placeOf (fu : Nat) (M : Mem) (x0 : Int32) (x1 : Int32) : Option (Nat ⊕ (Int32)) :=
  if x0 < 0 then
  (some (Sum.inl 1))
else
  (if 12 ≤ x0 then
  (some (Sum.inl 1))
else
  (if x1 < 0 then
  (some (Sum.inl 1))
else
  (if x1 < 9 then
  (some (Sum.inr ((12 * x1) + x0)))
else
  (some (Sum.inl 1)))))
def m_X5_needCrowd (fu : Nat) (M : Mem) (a0 : Nat) (x1 : Int32) : Option (Nat ⊕ (Unit)) :=
  if x1 < 0 then
  (some (Sum.inl 1))
else
  (if x1 < (M 0 2) then
  (some (Sum.inr ()))
else
  (some (Sum.inl 1)))
def m_X5_needPatrol (fu : Nat) (M : Mem) (a0 : Nat) (x1 : Int32) : Option (Nat ⊕ (Unit)) :=
  if x1 < 0 then
  (some (Sum.inl 1))
else
  (if x1 < (M 0 4) then
  (some (Sum.inr ()))
else
  (some (Sum.inl 1)))
def m_X5_needWhat (fu : Nat) (M : Mem) (x0 : Int32) (x1 : Int32) : Option (Nat ⊕ (Unit)) :=
  if x0 < 0 then
  (some (Sum.inl 1))
else
  (if x0 < x1 then
  (some (Sum.inr ()))
else
  (some (Sum.inl 1)))
def m_X5_needSteps (fu : Nat) (M : Mem) (x0 : Int32) : Option (Nat ⊕ (Unit)) :=
  if x0 < 1 then
  (some (Sum.inl 3))
else
  (if x0 ≤ 60 then
  (some (Sum.inr ()))
else
  (some (Sum.inl 3)))
def m_X5_house (fu : Nat) (M : Mem) (a0 : Nat) (x1 : Int32) (x2 : Int32) : Option (Nat ⊕ (Mem × Int32)) :=
  xb (m_X5_placeOf fu M x1 x2) fun r9 =>
  cb1 (m_X3_at fu M (0 + 1) r9) fun r13 =>
  if 0 < r13 then
  (some (Sum.inl 2))
else
  (cb1 (m_X1_isTaken fu M 0 r9) fun r17 =>
  if r17 = 0 then
  (if r13 = (-1) then
  (cb1 (m_X3_put fu M (0 + 1) r9 0) fun M25 =>
  some (Sum.inr (M25, 0)))
else
  (cb1 (m_X3_put fu M (0 + 1) r9 (-1)) fun M31 =>
  some (Sum.inr (M31, 1))))
else
  (some (Sum.inl 2)))
def m_X5_block (fu : Nat) (M : Mem) (a0 : Nat) (x1 : Int32) (x2 : Int32) (x3 : Int32) : Option (Nat ⊕ (Mem × Int32)) :=
  xb (m_X5_placeOf fu M x1 x2) fun r10 =>
  if x3 < 0 then
  (some (Sum.inl 3))
else
  (if x3 ≤ 3 then
  (cb1 (m_X3_at fu M (0 + 1) r10) fun r16 =>
  if r16 = (-1) then
  (some (Sum.inl 2))
else
  (cb1 (m_X1_isTaken fu M 0 r10) fun r20 =>
  if r20 = 0 then
  (cb1 (m_X3_put fu M (0 + 1) r10 x3) fun M26 =>
  some (Sum.inr (M26, r16)))
else
  (some (Sum.inl 2))))
else
  (some (Sum.inl 3)))
def m_X5_cell (fu : Nat) (M : Mem) (a0 : Nat) (x1 : Int32) (x2 : Int32) : Option (Nat ⊕ (Int32)) :=
  xb (m_X5_placeOf fu M x1 x2) fun r11 =>
  cb1 (m_X3_at fu M (0 + 1) r11) fun r13 =>
  some (Sum.inr r13)
def m_X5_gather (fu : Nat) (M : Mem) (a0 : Nat) (x1 : Int32) (x2 : Int32) (x3 : Int32) : Option (Nat ⊕ (Mem × Int32)) :=
  xb (m_X5_placeOf fu M x1 x2) fun r10 =>
  if x3 < 1 then
  (some (Sum.inl 3))
else
  (if x3 ≤ 9 then
  (if 6 ≤ (M 0 2) then
  (some (Sum.inl 2))
else
  (cb1 (m_X3_isFree fu M (0 + 1) r10) fun r18 =>
  if r18 = 0 then
  (some (Sum.inl 2))
else
  (cb2 (m_X1_addCrowd fu M 0 r10 x3) fun M23 r22 =>
  some (Sum.inr (M23, r22)))))
else
  (some (Sum.inl 3)))
def m_X5_order (fu : Nat) (M : Mem) (a0 : Nat) (x1 : Int32) (x2 : Int32) : Option (Nat ⊕ (Mem × Int32)) :=
  xb (m_X5_needCrowd fu M a0 x1) fun _ =>
  if x2 < 0 then
  (some (Sum.inl 3))
else
  (if x2 < 12 then
  (chk (inb x1 6) <|
  cb1 (m_X0_isScattered fu M (elC (0 + 3) x1)) fun r16 =>
  if r16 = 0 then
  (if (M (elC (0 + 3) x1) 4) < 24 then
  (cb1 (m_X0_addOrder fu M (elC (0 + 3) x1) x2) fun M21 =>
  some (Sum.inr (M21, (M21 (elC (0 + 3) x1) 4))))
else
  (some (Sum.inl 2)))
else
  (some (Sum.inl 2)))
else
  (some (Sum.inl 3)))
def m_X5_torch (fu : Nat) (M : Mem) (a0 : Nat) (x1 : Int32) : Option (Nat ⊕ (Mem × Int32)) :=
  xb (m_X5_needCrowd fu M a0 x1) fun _ =>
  chk (inb x1 6) <|
  cb1 (m_X0_isScattered fu M (elC (0 + 3) x1)) fun r13 =>
  if r13 = 0 then
  (if (M (elC (0 + 3) x1) 2) = 0 then
  (mlet (mst M (elC (0 + 3) x1) 2 1) fun M18 =>
  chk (isb (M18 (elC (0 + 3) x1) 2)) <|
  some (Sum.inr (M18, (M18 (elC (0 + 3) x1) 2))))
else
  (mlet (mst M (elC (0 + 3) x1) 2 0) fun M16 =>
  chk (isb (M16 (elC (0 + 3) x1) 2)) <|
  some (Sum.inr (M16, (M16 (elC (0 + 3) x1) 2)))))
else
  (some (Sum.inl 2))
def m_X5_patrol (fu : Nat) (M : Mem) (a0 : Nat) (x1 : Int32) (x2 : Int32) (x3 : Int32) (x4 : Int32) : Option (Nat ⊕ (Mem × Int32)) :=
  xb (m_X5_placeOf fu M x1 x2) fun r11 =>
  if x3 < 1 then
  (some (Sum.inl 3))
else
  (if 12 < x3 then
  (some (Sum.inl 3))
else
  (if x4 < 0 then
  (some (Sum.inl 3))
else
  (if x4 < (1 <<< ((2 * x3) &&& 31)) then
  (if 3 ≤ (M 0 4) then
  (some (Sum.inl 2))
else
  (cb1 (m_X3_isFree fu M (0 + 1) r11) fun r21 =>
  if r21 = 0 then
  (some (Sum.inl 2))
else
  (cb2 (m_X1_addPatrol fu M 0 r11 x3 x4) fun M26 r25 =>
  some (Sum.inr (M26, r25)))))
else
  (some (Sum.inl 3)))))
def m_X5_crowd (fu : Nat) (M : Mem) (a0 : Nat) (x1 : Int32) (x2 : Int32) : Option (Nat ⊕ (Int32)) :=
  xb (m_X5_needCrowd fu M a0 x1) fun _ =>
  xb (m_X5_needWhat fu M x2 8) fun _ =>
  chk (inb x1 6) <|
  cb1 (m_X1_crowdNumber fu M 0 (elC (0 + 3) x1) x2) fun r20 =>
  some (Sum.inr r20)
def m_X5_guard (fu : Nat) (M : Mem) (a0 : Nat) (x1 : Int32) (x2 : Int32) : Option (Nat ⊕ (Int32)) :=
  xb (m_X5_needPatrol fu M a0 x1) fun _ =>
  xb (m_X5_needWhat fu M x2 4) fun _ =>
  chk (inb x1 3) <|
  cb1 (m_X1_guardNumber fu M 0 (elP (0 + 4) x1) x2) fun r20 =>
  some (Sum.inr r20)
def m_X5_sees (fu : Nat) (M : Mem) (a0 : Nat) (x1 : Int32) (x2 : Int32) : Option (Nat ⊕ (Int32)) :=
  xb (m_X5_needPatrol fu M a0 x1) fun _ =>
  xb (m_X5_needCrowd fu M a0 x2) fun _ =>
  chk (inb x1 3) <|
  chk (inb x2 6) <|
  cb1 (m_X1_isSeen fu M 0 (elP (0 + 4) x1) (elC (0 + 3) x2)) fun r24 =>
  chk (isb r24) <|
  some (Sum.inr r24)
def m_X5_count (fu : Nat) (M : Mem) (a0 : Nat) (x1 : Int32) : Option (Nat ⊕ (Int32)) :=
  xb (m_X5_needWhat fu M x1 8) fun _ =>
  cb1 (m_X1_total fu M 0 x1) fun r10 =>
  some (Sum.inr r10)
def m_X5_way (fu : Nat) (M : Mem) (a0 : Nat) (x1 : Int32) (x2 : Int32) (x3 : Int32) (x4 : Int32) : Option (Nat ⊕ (Mem × Int32)) :=
  xb (m_X5_placeOf fu M x1 x2) fun r14 =>
  xb (m_X5_placeOf fu M x3 x4) fun r20 =>
  cb2 (m_X4_fewestSteps fu M 41 (0 + 1) r14 r20) fun M23 r22 =>
  some (Sum.inr (M23, r22))
def m_X5_pass (fu : Nat) (M : Mem) (a0 : Nat) (x1 : Int32) : Option (Nat ⊕ (Mem × Int32)) :=
  xb (m_X5_needSteps fu M x1) fun _ =>
  cb1 (m_X1_peopleLeft fu M 0) fun r10 =>
  cb1 (m_X1_goOn fu M 0 x1) fun M14 =>
  cb1 (m_X1_peopleLeft fu M14 0) fun r17 =>
  some (Sum.inr (M14, (r10 - r17)))
def m_X5_foresee (fu : Nat) (M : Mem) (a0 : Nat) (x1 : Int32) (x2 : Int32) : Option (Nat ⊕ (Mem × Int32)) :=
  xb (m_X5_needSteps fu M x1) fun _ =>
  xb (m_X5_needWhat fu M x2 3) fun _ =>
  cb1 (m_X1_become fu M 20 0) fun M18 =>
  cb1 (m_X1_goOn fu M18 20 x1) fun M22 =>
  if x2 = 0 then
  (cb1 (m_X1_peopleLeft fu M22 20) fun r26 =>
  some (Sum.inr (M22, r26)))
else if x2 = 1 then
  (cb1 (m_X3_barricades fu M22 (20 + 1)) fun r31 =>
  some (Sum.inr (M22, r31)))
else 
  (cb2 (m_X4_fewestToShut fu M22 41 (20 + 1)) fun M37 r36 =>
  some (Sum.inr (M37, r36)))
def m_X5_advise_L30 (fu : Nat) (q0 : Nat) (y1 : Int32) : Nat → Mem → Int32 → Int32 → Int32 → Option (Mem × Int32)
  | 0, _, _, _, _ => none
  | n + 1, M, z2, z3, z4 =>
  if 12 ≤ z4 then
    (some (M, z2))
  else
    (cb2 (m_X5_shutsBehind fu M q0 y1 z4) fun M18 r17 =>
    if z3 ≤ r17 then
    (mlet (z4 + 1) fun x20 =>
    m_X5_advise_L30 fu q0 y1 n M18 z2 z3 x20)
  else
    (mlet (z4 + 1) fun x21 =>
    m_X5_advise_L30 fu q0 y1 n M18 z4 r17 x21))
def m_X5_advise (fu : Nat) (M : Mem) (a0 : Nat) (x1 : Int32) : Option (Nat ⊕ (Mem × Int32)) :=
  xb (m_X5_needCrowd fu M a0 x1) fun _ =>
  chk (inb x1 6) <|
  cb1 (m_X0_isScattered fu M (elC (0 + 3) x1)) fun r13 =>
  if r13 = 0 then
  (cb1 (m_X5_advise_L30 fu a0 x1 fu M (-1) 108 0) <|
  up2 fun M24 x25 =>
  some (Sum.inr (M24, x25)))
else
  (some (Sum.inr (M, (-1))))
def m_L_below (fu : Nat) (M : Mem) (x0 : Int32) (x1 : Int32) : Option (Int32) :=
  chk (decide (¬ x1 = 0)) <|
  mlet ((x0 &&& 2147483647)) fun x4 =>
  some (x4 - x4 / x1 * x1)
def m_L_isFree (fu : Nat) (M : Mem) (a0 : Nat) (x1 : Int32) (x2 : Int32) : Option (Int32) :=
  if x1 < 0 then
  (some 0)
else
  (if x2 < 0 then
  (some 0)
else
  (if 12 ≤ x1 then
  (some 0)
else
  (if 9 ≤ x2 then
  (some 0)
else
  (nbd (m_X5_cell fu M a0 x1 x2) fun r9 =>
  if r9 = 0 then
  (some 1)
else
  (some 0)))))
def m_L_seen_L21 (fu : Nat) (M : Mem) (q0 : Nat) (y1 : Int32) (y2 : Int32) : Nat → Int32 → Int32 → Option (Int32)
  | 0, _, _ => none
  | n + 1, z4, z5 =>
  if y2 ≤ z5 then
    (some z4)
  else
    (nbd (m_X5_sees fu M q0 z5 y1) fun r8 =>
    if r8 = 0 then
    (mlet ((z4 + 0)) fun x10 =>
    mlet (z5 + 1) fun x11 =>
    m_L_seen_L21 fu M q0 y1 y2 n x10 x11)
  else
    (mlet ((z4 + 1)) fun x12 =>
    mlet (z5 + 1) fun x13 =>
    m_L_seen_L21 fu M q0 y1 y2 n x12 x13))
def m_L_seen (fu : Nat) (M : Mem) (a0 : Nat) (x1 : Int32) (x2 : Int32) (x3 : Int32) : Option (Int32) :=
  if x3 ≤ 0 then
  (cb1 (m_L_seen_L21 fu M a0 x1 x2 fu 0 0) <|
  fun x16 =>
  some x16)
else
  (nbd (m_X5_crowd fu M a0 x1 2) fun r18 =>
  if r18 = 0 then
  (some x3)
else
  (cb1 (m_L_seen_L21 fu M a0 x1 x2 fu 0 0) <|
  fun x22 =>
  some x22))
def m_L_gather (fu : Nat) (M : Mem) (a0 : Nat) (x1 : Int32) (x2 : Int32) (x3 : Int32) : Option (Mem × Int32) :=
  lb (m_X5_gather fu M a0 x1 x2 x3) (fun k11 =>
  if k11 = 2 then
  (some (M, (-1)))
else none) <|
  up2 fun M13 r10 =>
  some (M13, r10)
def m_L_patrol (fu : Nat) (M : Mem) (a0 : Nat) (x1 : Int32) (x2 : Int32) (x3 : Int32) (x4 : Int32) : Option (Mem × Int32) :=
  lb (m_X5_patrol fu M a0 x1 x2 x3 x4) (fun k12 =>
  if k12 = 2 then
  (some (M, (-1)))
else none) <|
  up2 fun M14 r11 =>
  some (M14, r11)
def m_L_order (fu : Nat) (M : Mem) (a0 : Nat) (x1 : Int32) (x2 : Int32) : Option (Mem × Int32) :=
  lb (m_X5_order fu M a0 x1 x2) (fun k10 =>
  if k10 = 2 then
  (some (M, (-1)))
else none) <|
  up2 fun M12 r9 =>
  some (M12, r9)
def m_L_isThere (fu : Nat) (M : Mem) (a0 : Nat) (x1 : Int32) : Option (Mem × Int32) :=
  lb (m_X5_crowd fu M a0 x1 0) (fun k9 =>
  if k9 = 1 then
  (some (M, 0))
else none) <|
  fun r8 =>
  if r8 < 0 then
  (some (M, 0))
else
  (some (M, 1))

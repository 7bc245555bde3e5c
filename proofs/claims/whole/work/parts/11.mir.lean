def m_X3_next (fu : Nat) (M : Mem) (x0 : Int32) (x1 : Int32) : Option (Int32) :=
  if x0 < 0 then
  (some (-1))
else
  (if x0 < 108 then
  (if x1 = 0 then
  (if x0 < 12 then
  (some (-1))
else
  (some (x0 - 12)))
else if x1 = 1 then
  (if 11 ≤ (x0 - x0 / 12 * 12) then
  (some (-1))
else
  (some (x0 + 1)))
else if x1 = 2 then
  (if 96 ≤ x0 then
  (some (-1))
else
  (some (x0 + 12)))
else 
  (if (x0 - x0 / 12 * 12) ≤ 0 then
  (some (-1))
else
  (some (x0 - 1))))
else
  (some (-1)))
def m_X3_at (fu : Nat) (M : Mem) (a0 : Nat) (x1 : Int32) : Option (Int32) :=
  if x1 < 0 then
  (some (-1))
else
  (if 108 ≤ x1 then
  (some (-1))
else
  (chk (inb x1 (alen (a0 + 1))) <|
  some (M (a0 + 1) x1.toNatClampNeg)))
def m_X3_put (fu : Nat) (M : Mem) (a0 : Nat) (x1 : Int32) (x2 : Int32) : Option (Mem) :=
  if x1 < 0 then
  (some M)
else
  (if 108 ≤ x1 then
  (some M)
else
  (chk (inb x1 (alen (a0 + 1))) <|
  mlet (mst M (a0 + 1) x1.toNatClampNeg x2) fun M8 =>
  some M8))
def m_X3_isFree (fu : Nat) (M : Mem) (a0 : Nat) (x1 : Int32) : Option (Int32) :=
  cb1 (m_X3_at fu M a0 x1) fun r4 =>
  if r4 = 0 then
  (some 1)
else
  (some 0)
def m_X3_cellsWith_L4 (fu : Nat) (M : Mem) (q0 : Nat) (y1 : Int32) : Nat → Int32 → Int32 → Option (Int32)
  | 0, _, _ => none
  | n + 1, z2, z3 =>
  if 108 ≤ z3 then
    (some z2)
  else
    (chk (inb z3 (alen (q0 + 1))) <|
    if (M (q0 + 1) z3.toNatClampNeg) = y1 then
    (mlet (z2 + 1) fun x8 =>
    mlet (z3 + 1) fun x9 =>
    m_X3_cellsWith_L4 fu M q0 y1 n x8 x9)
  else
    (mlet (z3 + 1) fun x7 =>
    m_X3_cellsWith_L4 fu M q0 y1 n z2 x7))
def m_X3_cellsWith (fu : Nat) (M : Mem) (a0 : Nat) (x1 : Int32) : Option (Int32) :=
  cb1 (m_X3_cellsWith_L4 fu M a0 x1 fu 0 0) <|
  fun x12 =>
  some x12
def m_X3_barricades_L4 (fu : Nat) (M : Mem) (q0 : Nat) : Nat → Int32 → Int32 → Option (Int32)
  | 0, _, _ => none
  | n + 1, z1, z2 =>
  if 108 ≤ z2 then
    (some z1)
  else
    (chk (inb z2 (alen (q0 + 1))) <|
    if (M (q0 + 1) z2.toNatClampNeg) ≤ 0 then
    (mlet (z2 + 1) fun x6 =>
    m_X3_barricades_L4 fu M q0 n z1 x6)
  else
    (chk (inb z2 (alen (q0 + 1))) <|
    mlet ((z1 + (M (q0 + 1) z2.toNatClampNeg))) fun x9 =>
    mlet (z2 + 1) fun x10 =>
    m_X3_barricades_L4 fu M q0 n x9 x10))
def m_X3_barricades (fu : Nat) (M : Mem) (a0 : Nat) : Option (Int32) :=
  cb1 (m_X3_barricades_L4 fu M a0 fu 0 0) <|
  fun x13 =>
  some x13
def m_X3_addCellsTo_L5 (fu : Nat) (M : Mem) (q0 : Nat) : Nat → Int64 → Int32 → Option (Int64)
  | 0, _, _ => none
  | n + 1, z3, z5 =>
  if 108 ≤ z5 then
    (some z3)
  else
    (chk (inb z5 (alen (q0 + 1))) <|
    mlet (((z3 * 31) + (((M (q0 + 1) z5.toNatClampNeg) : Int32).toInt64))) fun x6 =>
    mlet (z5 + 1) fun x7 =>
    m_X3_addCellsTo_L5 fu M q0 n x6 x7)
def m_X3_addCellsTo (fu : Nat) (M : Mem) (a0 : Nat) (x1 : Int64) : Option (Int64) :=
  cb1 (m_X3_addCellsTo_L5 fu M a0 fu x1 0) <|
  fun x10 =>
  some x10
def m_X3_become (fu : Nat) (M : Mem) (a0 : Nat) (a1 : Nat) : Option (Mem) :=
  chk (cpok 0 0 108 (alen (a1 + 1)) (alen (a0 + 1))) <|
  mlet (mcp M (a1 + 1) (a0 + 1) (0 : Int32).toNatClampNeg (0 : Int32).toNatClampNeg (108 : Int32).toNatClampNeg) fun M6 =>
  some M6
def m_X0_isScattered (fu : Nat) (M : Mem) (a0 : Nat) : Option (Int32) :=
  if (M a0 1) = 0 then
  (some 1)
else
  (some 0)
def m_X0_addOrder (fu : Nat) (M : Mem) (a0 : Nat) (x1 : Int32) : Option (Mem) :=
  if (M a0 4) < 0 then
  (some M)
else
  (if 24 ≤ (M a0 4) then
  (some M)
else
  (chk (inb (M a0 4) (alen (a0 + 1))) <|
  mlet (mst M (a0 + 1) (M a0 4).toNatClampNeg x1) fun M7 =>
  mlet (mst M7 a0 4 ((M7 a0 4) + 1)) fun M8 =>
  some M8))
def m_X0_firstOrder (fu : Nat) (M : Mem) (a0 : Nat) : Option (Int32) :=
  if (M a0 4) ≤ 0 then
  (some (-1))
else
  (chk (inb 0 (alen (a0 + 1))) <|
  some (M (a0 + 1) (0 : Int32).toNatClampNeg))
def m_X0_dropFirstOrder (fu : Nat) (M : Mem) (a0 : Nat) : Option (Mem) :=
  if (M a0 4) ≤ 0 then
  (some M)
else
  (if 24 < (M a0 4) then
  (some M)
else
  (mlet (mst M a0 4 ((M a0 4) - 1)) fun M4 =>
  chk (cpok 1 0 (M4 a0 4) (alen (a0 + 1)) (alen (a0 + 1))) <|
  mlet (mcp M4 (a0 + 1) (a0 + 1) (1 : Int32).toNatClampNeg (0 : Int32).toNatClampNeg (M4 a0 4).toNatClampNeg) fun M8 =>
  some M8))
def m_X0_addOrdersTo_L5 (fu : Nat) (M : Mem) (q0 : Nat) : Nat → Int64 → Int32 → Option (Int64)
  | 0, _, _ => none
  | n + 1, z3, z5 =>
  if (M q0 4) ≤ z5 then
    (some z3)
  else
    (if 24 ≤ z5 then
    (some z3)
  else
    (chk (inb z5 (alen (q0 + 1))) <|
    mlet (((z3 * 31) + (((M (q0 + 1) z5.toNatClampNeg) : Int32).toInt64))) fun x7 =>
    mlet (z5 + 1) fun x8 =>
    m_X0_addOrdersTo_L5 fu M q0 n x7 x8))
def m_X0_addOrdersTo (fu : Nat) (M : Mem) (a0 : Nat) (x1 : Int64) : Option (Int64) :=
  cb1 (m_X0_addOrdersTo_L5 fu M a0 fu x1 0) <|
  fun x11 =>
  some x11
def m_X0_become (fu : Nat) (M : Mem) (a0 : Nat) (a1 : Nat) : Option (Mem) :=
  mlet (mst M a0 0 (M a1 0)) fun M3 =>
  mlet (mst M3 a0 1 (M3 a1 1)) fun M4 =>
  chk (isb (M4 a1 2)) <|
  mlet (mst M4 a0 2 (M4 a1 2)) fun M6 =>
  chk (cpok 0 0 24 (alen (a1 + 1)) (alen (a0 + 1))) <|
  mlet (mcp M6 (a1 + 1) (a0 + 1) (0 : Int32).toNatClampNeg (0 : Int32).toNatClampNeg (24 : Int32).toNatClampNeg) fun M10 =>
  mlet (mst M10 a0 4 (M10 a1 4)) fun M11 =>
  mlet (mst M11 a0 5 (M11 a1 5)) fun M12 =>
  some M12
def m_X2_nextDirection (fu : Nat) (M : Mem) (a0 : Nat) : Option (Int32) :=
  some (((M a0 2) >>> ((2 * (M a0 3)) &&& 31)) &&& 3)
def m_X2_moveOn (fu : Nat) (M : Mem) (a0 : Nat) (a1 : Nat) : Option (Mem) :=
  cb1 (m_X2_nextDirection fu M a0) fun r4 =>
  cb1 (m_X3_next fu M (M a0 0) r4) fun r6 =>
  cb1 (m_X3_isFree fu M a1 r6) fun r8 =>
  if r8 = 0 then
  (if (M a0 1) ≤ ((M a0 3) + 1) then
  (mlet (mst M a0 3 0) fun M11 =>
  some M11)
else
  (mlet (mst M a0 3 ((M a0 3) + 1)) fun M12 =>
  some M12))
else
  (mlet (mst M a0 0 r6) fun M13 =>
  if (M13 a0 1) ≤ ((M13 a0 3) + 1) then
  (mlet (mst M13 a0 3 0) fun M15 =>
  some M15)
else
  (mlet (mst M13 a0 3 ((M13 a0 3) + 1)) fun M16 =>
  some M16))
def m_X2_become (fu : Nat) (M : Mem) (a0 : Nat) (a1 : Nat) : Option (Mem) :=
  mlet (mst M a0 0 (M a1 0)) fun M3 =>
  mlet (mst M3 a0 1 (M3 a1 1)) fun M4 =>
  mlet (mst M4 a0 2 (M4 a1 2)) fun M5 =>
  mlet (mst M5 a0 3 (M5 a1 3)) fun M6 =>
  some M6
def m_X1_addCrowd (fu : Nat) (M : Mem) (a0 : Nat) (x1 : Int32) (x2 : Int32) : Option (Mem × Int32) :=
  mlet ((M a0 2)) fun x4 =>
  if 6 ≤ x4 then
  (some (M, x4))
else
  (chk (inb x4 6) <|
  mlet (mst M (elC (a0 + 3) x4) 0 x1) fun M9 =>
  chk (inb x4 6) <|
  mlet (mst M9 (elC (a0 + 3) x4) 1 x2) fun M13 =>
  chk (inb x4 6) <|
  mlet (mst M13 (elC (a0 + 3) x4) 2 1) fun M17 =>
  mlet (mst M17 a0 2 ((M17 a0 2) + 1)) fun M18 =>
  some (M18, x4))
def m_X1_addPatrol (fu : Nat) (M : Mem) (a0 : Nat) (x1 : Int32) (x2 : Int32) (x3 : Int32) : Option (Mem × Int32) :=
  mlet ((M a0 4)) fun x5 =>
  if 3 ≤ x5 then
  (some (M, x5))
else
  (chk (inb x5 3) <|
  mlet (mst M (elP (a0 + 4) x5) 0 x1) fun M10 =>
  chk (inb x5 3) <|
  mlet (mst M10 (elP (a0 + 4) x5) 1 x2) fun M14 =>
  chk (inb x5 3) <|
  mlet (mst M14 (elP (a0 + 4) x5) 2 x3) fun M18 =>
  mlet (mst M18 a0 4 ((M18 a0 4) + 1)) fun M19 =>
  some (M19, x5))
def m_X1_isTaken_L2 (fu : Nat) (M : Mem) (q0 : Nat) (y1 : Int32) : Nat → Int32 → Option ((Unit) ⊕ (Unit))
  | 0, _ => none
  | n + 1, z2 =>
  if (M q0 2) ≤ z2 then
    (some (Sum.inl ()))
  else
    (chk (inb z2 6) <|
    if (M (elC (q0 + 3) z2) 1) ≤ 0 then
    (mlet (z2 + 1) fun x8 =>
    m_X1_isTaken_L2 fu M q0 y1 n x8)
  else
    (chk (inb z2 6) <|
    if (M (elC (q0 + 3) z2) 0) = y1 then
    (some (Sum.inr ()))
  else
    (mlet (z2 + 1) fun x13 =>
    m_X1_isTaken_L2 fu M q0 y1 n x13)))
def m_X1_isTaken_L45 (fu : Nat) (M : Mem) (q0 : Nat) (y1 : Int32) : Nat → Int32 → Option ((Unit) ⊕ (Unit))
  | 0, _ => none
  | n + 1, z2 =>
  if (M q0 4) ≤ z2 then
    (some (Sum.inl ()))
  else
    (chk (inb z2 3) <|
    if (M (elP (q0 + 4) z2) 0) = y1 then
    (some (Sum.inr ()))
  else
    (mlet (z2 + 1) fun x21 =>
    m_X1_isTaken_L45 fu M q0 y1 n x21))
def m_X1_isTaken (fu : Nat) (M : Mem) (a0 : Nat) (x1 : Int32) : Option (Int32) :=
  cb1 (m_X1_isTaken_L2 fu M a0 x1 fu 0) <|
  Sum.elim (fun _ =>
  cb1 (m_X1_isTaken_L45 fu M a0 x1 fu 0) <|
  Sum.elim (fun _ =>
  some 0) (fun _ =>
  some 1)) (fun _ =>
  some 1)
def m_X1_isSeen_L113 (fu : Nat) (M : Mem) (q0 : Nat) (y5 : Int32) (y7 : Int32) (y8 : Int32) : Nat → Int32 → Option ((Unit) ⊕ (Unit))
  | 0, _ => none
  | n + 1, z9 =>
  if y5 ≤ z9 then
    (some (Sum.inl ()))
  else
    (cb1 (m_X3_at fu M (q0 + 1) (y7 + (z9 * y8))) fun r24 =>
    if r24 = 0 then
    (mlet (z9 + 1) fun x26 =>
    m_X1_isSeen_L113 fu M q0 y5 y7 y8 n x26)
  else
    (some (Sum.inr ())))
def m_X1_isSeen (fu : Nat) (M : Mem) (a0 : Nat) (a1 : Nat) (a2 : Nat) : Option (Int32) :=
  mlet ((M a2 0)) fun x4 =>
  mlet ((M a1 0)) fun x5 =>
  mlet (((x4 - x4 / 12 * 12) - (x5 - x5 / 12 * 12))) fun x6 =>
  mlet (mabs x6) fun x7 =>
  mlet ((((M a2 0) / 12) - ((M a1 0) / 12))) fun x8 =>
  mlet (mabs x8) fun x9 =>
  mlet ((x7 + x9)) fun x10 =>
  if (M a2 2) = 0 then
  (cb1 (m_X0_isScattered fu M a2) fun r13 =>
  if r13 = 0 then
  (if x7 ≤ 0 then
  (if x10 ≤ 1 then
  (mlet ((M a2 0)) fun x17 =>
  mlet ((M a1 0)) fun x18 =>
  mlet (mmin x17 x18) fun x19 =>
  if x9 = 0 then
  (cb1 (m_X1_isSeen_L113 fu M a0 x10 x19 1 fu 1) <|
  Sum.elim (fun _ =>
  some 1) (fun _ =>
  some 0))
else
  (cb1 (m_X1_isSeen_L113 fu M a0 x10 x19 12 fu 1) <|
  Sum.elim (fun _ =>
  some 1) (fun _ =>
  some 0)))
else
  (some 0))
else
  (if 0 < x9 then
  (some 0)
else
  (if x10 ≤ 1 then
  (mlet ((M a2 0)) fun x33 =>
  mlet ((M a1 0)) fun x34 =>
  mlet (mmin x33 x34) fun x35 =>
  if x9 = 0 then
  (cb1 (m_X1_isSeen_L113 fu M a0 x10 x35 1 fu 1) <|
  Sum.elim (fun _ =>
  some 1) (fun _ =>
  some 0))
else
  (cb1 (m_X1_isSeen_L113 fu M a0 x10 x35 12 fu 1) <|
  Sum.elim (fun _ =>
  some 1) (fun _ =>
  some 0)))
else
  (some 0))))
else
  (some 0))
else
  (cb1 (m_X0_isScattered fu M a2) fun r42 =>
  if r42 = 0 then
  (if x7 ≤ 0 then
  (if x10 ≤ 4 then
  (mlet ((M a2 0)) fun x46 =>
  mlet ((M a1 0)) fun x47 =>
  mlet (mmin x46 x47) fun x48 =>
  if x9 = 0 then
  (cb1 (m_X1_isSeen_L113 fu M a0 x10 x48 1 fu 1) <|
  Sum.elim (fun _ =>
  some 1) (fun _ =>
  some 0))
else
  (cb1 (m_X1_isSeen_L113 fu M a0 x10 x48 12 fu 1) <|
  Sum.elim (fun _ =>
  some 1) (fun _ =>
  some 0)))
else
  (some 0))
else
  (if 0 < x9 then
  (some 0)
else
  (if x10 ≤ 4 then
  (mlet ((M a2 0)) fun x56 =>
  mlet ((M a1 0)) fun x57 =>
  mlet (mmin x56 x57) fun x58 =>
  if x9 = 0 then
  (cb1 (m_X1_isSeen_L113 fu M a0 x10 x58 1 fu 1) <|
  Sum.elim (fun _ =>
  some 1) (fun _ =>
  some 0))
else
  (cb1 (m_X1_isSeen_L113 fu M a0 x10 x58 12 fu 1) <|
  Sum.elim (fun _ =>
  some 1) (fun _ =>
  some 0)))
else
  (some 0))))
else
  (some 0))
def m_X1_patrolsThatSee_L4 (fu : Nat) (M : Mem) (q0 : Nat) (q1 : Nat) : Nat → Int32 → Int32 → Option (Int32)
  | 0, _, _ => none
  | n + 1, z2, z3 =>
  if (M q0 4) ≤ z3 then
    (some z2)
  else
    (chk (inb z3 3) <|
    cb1 (m_X1_isSeen fu M q0 (elP (q0 + 4) z3) q1) fun r8 =>
    if r8 = 0 then
    (mlet (z3 + 1) fun x10 =>
    m_X1_patrolsThatSee_L4 fu M q0 q1 n z2 x10)
  else
    (mlet (z2 + 1) fun x11 =>
    mlet (z3 + 1) fun x12 =>
    m_X1_patrolsThatSee_L4 fu M q0 q1 n x11 x12))
def m_X1_patrolsThatSee (fu : Nat) (M : Mem) (a0 : Nat) (a1 : Nat) : Option (Int32) :=
  cb1 (m_X1_patrolsThatSee_L4 fu M a0 a1 fu 0 0) <|
  fun x15 =>
  some x15
def m_X1_crowdsSeenBy_L4 (fu : Nat) (M : Mem) (q0 : Nat) (q1 : Nat) : Nat → Int32 → Int32 → Option (Int32)
  | 0, _, _ => none
  | n + 1, z2, z3 =>
  if (M q0 2) ≤ z3 then
    (some z2)
  else
    (chk (inb z3 6) <|
    cb1 (m_X1_isSeen fu M q0 q1 (elC (q0 + 3) z3)) fun r8 =>
    if r8 = 0 then
    (mlet (z3 + 1) fun x10 =>
    m_X1_crowdsSeenBy_L4 fu M q0 q1 n z2 x10)
  else
    (mlet (z2 + 1) fun x11 =>
    mlet (z3 + 1) fun x12 =>
    m_X1_crowdsSeenBy_L4 fu M q0 q1 n x11 x12))
def m_X1_crowdsSeenBy (fu : Nat) (M : Mem) (a0 : Nat) (a1 : Nat) : Option (Int32) :=
  cb1 (m_X1_crowdsSeenBy_L4 fu M a0 a1 fu 0 0) <|
  fun x15 =>
  some x15
def m_X1_crowdsLeft_L4 (fu : Nat) (M : Mem) (q0 : Nat) : Nat → Int32 → Int32 → Option (Int32)
  | 0, _, _ => none
  | n + 1, z1, z2 =>
  if (M q0 2) ≤ z2 then
    (some z1)
  else
    (chk (inb z2 6) <|
    cb1 (m_X0_isScattered fu M (elC (q0 + 3) z2)) fun r7 =>
    if r7 = 0 then
    (mlet (z1 + 1) fun x10 =>
    mlet (z2 + 1) fun x11 =>
    m_X1_crowdsLeft_L4 fu M q0 n x10 x11)
  else
    (mlet (z2 + 1) fun x9 =>
    m_X1_crowdsLeft_L4 fu M q0 n z1 x9))
def m_X1_crowdsLeft (fu : Nat) (M : Mem) (a0 : Nat) : Option (Int32) :=
  cb1 (m_X1_crowdsLeft_L4 fu M a0 fu 0 0) <|
  fun x14 =>
  some x14
def m_X1_peopleLeft_L4 (fu : Nat) (M : Mem) (q0 : Nat) : Nat → Int32 → Int32 → Option (Int32)
  | 0, _, _ => none
  | n + 1, z1, z2 =>
  if (M q0 2) ≤ z2 then
    (some z1)
  else
    (chk (inb z2 6) <|
    mlet ((z1 + (M (elC (q0 + 3) z2) 1))) fun x6 =>
    mlet (z2 + 1) fun x7 =>
    m_X1_peopleLeft_L4 fu M q0 n x6 x7)
def m_X1_peopleLeft (fu : Nat) (M : Mem) (a0 : Nat) : Option (Int32) :=
  cb1 (m_X1_peopleLeft_L4 fu M a0 fu 0 0) <|
  fun x10 =>
  some x10
def m_X1_ordersMissed_L4 (fu : Nat) (M : Mem) (q0 : Nat) : Nat → Int32 → Int32 → Option (Int32)
  | 0, _, _ => none
  | n + 1, z1, z2 =>
  if (M q0 2) ≤ z2 then
    (some z1)
  else
    (chk (inb z2 6) <|
    mlet ((z1 + (M (elC (q0 + 3) z2) 5))) fun x6 =>
    mlet (z2 + 1) fun x7 =>
    m_X1_ordersMissed_L4 fu M q0 n x6 x7)
def m_X1_ordersMissed (fu : Nat) (M : Mem) (a0 : Nat) : Option (Int32) :=
  cb1 (m_X1_ordersMissed_L4 fu M a0 fu 0 0) <|
  fun x10 =>
  some x10
def m_X1_crowdNumber (fu : Nat) (M : Mem) (a0 : Nat) (a1 : Nat) (x2 : Int32) : Option (Int32) :=
  if x2 = 0 then
  (mlet ((M a1 0)) fun x5 =>
  some (x5 - x5 / 12 * 12))
else if x2 = 1 then
  (some ((M a1 0) / 12))
else if x2 = 2 then
  (some (M a1 1))
else if x2 = 3 then
  (if (M a1 2) = 0 then
  (some 0)
else
  (some 1))
else if x2 = 4 then
  (some (M a1 4))
else if x2 = 5 then
  (cb1 (m_X0_firstOrder fu M a1) fun r13 =>
  some r13)
else if x2 = 6 then
  (some (M a1 5))
else 
  (cb1 (m_X1_patrolsThatSee fu M a0 a1) fun r16 =>
  some r16)
def m_X1_guardNumber (fu : Nat) (M : Mem) (a0 : Nat) (a1 : Nat) (x2 : Int32) : Option (Int32) :=
  if x2 = 0 then
  (mlet ((M a1 0)) fun x5 =>
  some (x5 - x5 / 12 * 12))
else if x2 = 1 then
  (some ((M a1 0) / 12))
else if x2 = 2 then
  (cb1 (m_X2_nextDirection fu M a1) fun r9 =>
  some r9)
else 
  (cb1 (m_X1_crowdsSeenBy fu M a0 a1) fun r11 =>
  some r11)
def m_X1_total (fu : Nat) (M : Mem) (a0 : Nat) (x1 : Int32) : Option (Int32) :=
  if x1 = 0 then
  (some (M a0 5))
else if x1 = 1 then
  (cb1 (m_X3_cellsWith fu M (a0 + 1) (-1)) fun r7 =>
  some r7)
else if x1 = 2 then
  (cb1 (m_X3_barricades fu M (a0 + 1)) fun r11 =>
  some r11)
else if x1 = 3 then
  (cb1 (m_X3_cellsWith fu M (a0 + 1) 0) fun r15 =>
  some r15)
else if x1 = 4 then
  (cb1 (m_X1_crowdsLeft fu M a0) fun r18 =>
  some r18)
else if x1 = 5 then
  (cb1 (m_X1_peopleLeft fu M a0) fun r21 =>
  some r21)
else if x1 = 6 then
  (some (M a0 4))
else 
  (cb1 (m_X1_ordersMissed fu M a0) fun r24 =>
  some r24)
def m_X1_addCrowdTo_L6 (fu : Nat) (M : Mem) (q0 : Nat) (q3 : Nat) : Nat → Int64 → Int32 → Option (Int64)
  | 0, _, _ => none
  | n + 1, z4, z6 =>
  if 8 ≤ z6 then
    (some z4)
  else
    (cb1 (m_X1_crowdNumber fu M q0 q3 z6) fun r6 =>
    mlet (((z4 * 31) + ((r6 : Int32).toInt64))) fun x7 =>
    mlet (z6 + 1) fun x8 =>
    m_X1_addCrowdTo_L6 fu M q0 q3 n x7 x8)
def m_X1_addCrowdTo (fu : Nat) (M : Mem) (a0 : Nat) (x1 : Int64) (a2 : Nat) : Option (Int64) :=
  cb1 (m_X1_addCrowdTo_L6 fu M a0 a2 fu x1 0) <|
  fun x11 =>
  cb1 (m_X0_addOrdersTo fu M a2 x11) fun r13 =>
  some r13
def m_X1_addPatrolTo_L6 (fu : Nat) (M : Mem) (q0 : Nat) (q3 : Nat) : Nat → Int64 → Int32 → Option (Int64)
  | 0, _, _ => none
  | n + 1, z4, z6 =>
  if 4 ≤ z6 then
    (some z4)
  else
    (cb1 (m_X1_guardNumber fu M q0 q3 z6) fun r6 =>
    mlet (((z4 * 31) + ((r6 : Int32).toInt64))) fun x7 =>
    mlet (z6 + 1) fun x8 =>
    m_X1_addPatrolTo_L6 fu M q0 q3 n x7 x8)
def m_X1_addPatrolTo (fu : Nat) (M : Mem) (a0 : Nat) (x1 : Int64) (a2 : Nat) : Option (Int64) :=
  cb1 (m_X1_addPatrolTo_L6 fu M a0 a2 fu x1 0) <|
  fun x11 =>
  some x11
def m_X1_become_L13 (fu : Nat) (q0 : Nat) (q1 : Nat) : Nat → Mem → Int32 → Option (Mem)
  | 0, _, _ => none
  | n + 1, M, z2 =>
  if 6 ≤ z2 then
    (some M)
  else
    (chk (inb z2 6) <|
    chk (inb z2 6) <|
    cb1 (m_X0_become fu M (elC (q0 + 3) z2) (elC (q1 + 3) z2)) fun M17 =>
    mlet (z2 + 1) fun x18 =>
    m_X1_become_L13 fu q0 q1 n M17 x18)
def m_X1_become_L50 (fu : Nat) (q0 : Nat) (q1 : Nat) : Nat → Mem → Int32 → Option (Mem)
  | 0, _, _ => none
  | n + 1, M, z2 =>
  if 3 ≤ z2 then
    (some M)
  else
    (chk (inb z2 3) <|
    chk (inb z2 3) <|
    cb1 (m_X2_become fu M (elP (q0 + 4) z2) (elP (q1 + 4) z2)) fun M32 =>
    mlet (z2 + 1) fun x33 =>
    m_X1_become_L50 fu q0 q1 n M32 x33)
def m_X1_become (fu : Nat) (M : Mem) (a0 : Nat) (a1 : Nat) : Option (Mem) :=
  cb1 (m_X3_become fu M (a0 + 1) (a1 + 1)) fun M7 =>
  cb1 (m_X1_become_L13 fu a0 a1 fu M7 0) <|
  fun M21 =>
  mlet (mst M21 a0 2 (M21 a1 2)) fun M22 =>
  cb1 (m_X1_become_L50 fu a0 a1 fu M22 0) <|
  fun M36 =>
  mlet (mst M36 a0 4 (M36 a1 4)) fun M37 =>
  mlet (mst M37 a0 5 (M37 a1 5)) fun M38 =>
  some M38
def m_X1_tryGo (fu : Nat) (M : Mem) (a0 : Nat) (a1 : Nat) (x2 : Int32) (x3 : Int32) : Option (Mem × Int32) :=
  cb1 (m_X3_at fu M (a0 + 1) x2) fun r7 =>
  cb1 (m_X3_at fu M (a0 + 1) x3) fun r10 =>
  if r7 ≤ 0 then
  (if r7 = 0 then
  (mlet (mst M a1 0 x2) fun M14 =>
  some (M14, 1))
else
  (some (M, 0)))
else
  (if (M a1 1) < (2 * r7) then
  (if r7 = 0 then
  (mlet (mst M a1 0 x2) fun M19 =>
  some (M19, 1))
else
  (some (M, 0)))
else
  (if r10 = (-1) then
  (if r7 = 0 then
  (mlet (mst M a1 0 x2) fun M24 =>
  some (M24, 1))
else
  (some (M, 0)))
else
  (if (3 - r7) < r10 then
  (if r7 = 0 then
  (mlet (mst M a1 0 x2) fun M29 =>
  some (M29, 1))
else
  (some (M, 0)))
else
  (cb1 (m_X1_isTaken fu M a0 x3) fun r32 =>
  if r32 = 0 then
  (if r7 = 0 then
  (cb1 (m_X3_put fu M (a0 + 1) x2 0) fun M43 =>
  cb1 (m_X3_put fu M43 (a0 + 1) x3 (r10 + r7)) fun M47 =>
  mlet (mst M47 a1 0 x2) fun M48 =>
  some (M48, 1))
else
  (cb1 (m_X3_put fu M (a0 + 1) x2 0) fun M54 =>
  cb1 (m_X3_put fu M54 (a0 + 1) x3 (r10 + r7)) fun M58 =>
  mlet (mst M58 a1 0 x2) fun M59 =>
  some (M59, 1)))
else
  (if r7 = 0 then
  (mlet (mst M a1 0 x2) fun M36 =>
  some (M36, 1))
else
  (some (M, 0)))))))
def m_X1_tryRaise (fu : Nat) (M : Mem) (a0 : Nat) (a1 : Nat) (x2 : Int32) : Option (Mem × Int32) :=
  cb1 (m_X3_at fu M (a0 + 1) x2) fun r6 =>
  if (M a1 1) < 3 then
  (some (M, 0))
else
  (if r6 = (-1) then
  (some (M, 0))
else
  (if 3 ≤ r6 then
  (some (M, 0))
else
  (cb1 (m_X1_isTaken fu M a0 x2) fun r11 =>
  if r11 = 0 then
  (cb1 (m_X3_put fu M (a0 + 1) x2 (r6 + 1)) fun M16 =>
  some (M16, 1))
else
  (some (M, 0)))))
def m_X1_tryPullDown (fu : Nat) (M : Mem) (a0 : Nat) (x1 : Int32) : Option (Mem × Int32) :=
  cb1 (m_X3_at fu M (a0 + 1) x1) fun r5 =>
  if 0 < r5 then
  (cb1 (m_X3_put fu M (a0 + 1) x1 (r5 - 1)) fun M10 =>
  some (M10, 1))
else
  (some (M, 0))
def m_X1_tryOrder (fu : Nat) (M : Mem) (a0 : Nat) (a1 : Nat) (x2 : Int32) (x3 : Int32) : Option (Mem × Int32) :=
  cb1 (m_X3_next fu M (M a1 0) x3) fun r6 =>
  if x2 = 0 then
  (cb1 (m_X3_next fu M r6 x3) fun r9 =>
  cb2 (m_X1_tryGo fu M a0 a1 r6 r9) fun M12 r11 =>
  chk (isb r11) <|
  some (M12, r11))
else if x2 = 1 then
  (cb2 (m_X1_tryRaise fu M a0 a1 r6) fun M17 r16 =>
  chk (isb r16) <|
  some (M17, r16))
else 
  (cb2 (m_X1_tryPullDown fu M a0 r6) fun M21 r20 =>
  chk (isb r20) <|
  some (M21, r20))
def m_X1_obeyOrders_L2 (fu : Nat) (q0 : Nat) : Nat → Mem → Int32 → Option (Mem)
  | 0, _, _ => none
  | n + 1, M, z1 =>
  if (M q0 2) ≤ z1 then
    (some M)
  else
    (chk (inb z1 6) <|
    cb1 (m_X0_firstOrder fu M (elC (q0 + 3) z1)) fun r7 =>
    cb1 (m_X0_isScattered fu M (elC (q0 + 3) z1)) fun r9 =>
    if r9 = 0 then
    (if r7 = (-1) then
    (mlet (z1 + 1) fun x23 =>
    m_X1_obeyOrders_L2 fu q0 n M x23)
  else
    (cb1 (m_X0_dropFirstOrder fu M (elC (q0 + 3) z1)) fun M15 =>
    cb2 (m_X1_tryOrder fu M15 q0 (elC (q0 + 3) z1) (r7 >>> (2 &&& 31)) (r7 &&& 3)) fun M18 r17 =>
    if r17 = 0 then
    (mlet (mst M18 (elC (q0 + 3) z1) 5 ((M18 (elC (q0 + 3) z1) 5) + 1)) fun M21 =>
    mlet (z1 + 1) fun x22 =>
    m_X1_obeyOrders_L2 fu q0 n M21 x22)
  else
    (mlet (z1 + 1) fun x20 =>
    m_X1_obeyOrders_L2 fu q0 n M18 x20)))
  else
    (mlet (z1 + 1) fun x11 =>
    m_X1_obeyOrders_L2 fu q0 n M x11))
def m_X1_obeyOrders (fu : Nat) (M : Mem) (a0 : Nat) : Option (Mem) :=
  cb1 (m_X1_obeyOrders_L2 fu a0 fu M 0) <|
  fun M26 =>
  some M26
def m_X1_scatter_L2 (fu : Nat) (q0 : Nat) : Nat → Mem → Int32 → Option (Mem)
  | 0, _, _ => none
  | n + 1, M, z1 =>
  if (M q0 2) ≤ z1 then
    (some M)
  else
    (chk (inb z1 6) <|
    cb1 (m_X1_patrolsThatSee fu M q0 (elC (q0 + 3) z1)) fun r7 =>
    mlet (((M (elC (q0 + 3) z1) 1) - r7)) fun x8 =>
    mlet (mmax x8 0) fun x9 =>
    mlet (mst M (elC (q0 + 3) z1) 1 x9) fun M10 =>
    mlet (z1 + 1) fun x11 =>
    m_X1_scatter_L2 fu q0 n M10 x11)
def m_X1_scatter (fu : Nat) (M : Mem) (a0 : Nat) : Option (Mem) :=
  cb1 (m_X1_scatter_L2 fu a0 fu M 0) <|
  fun M14 =>
  some M14
def m_X1_goOn_L13 (fu : Nat) (q0 : Nat) (y1 : Int32) (y2 : Int32) : Nat → Mem → Int32 → Option (Mem)
  | 0, _, _ => none
  | n + 1, M, z3 =>
  if (M q0 4) ≤ z3 then
    (some M)
  else
    (chk (inb z3 3) <|
    cb1 (m_X2_moveOn fu M (elP (q0 + 4) z3) (q0 + 1)) fun M14 =>
    mlet (z3 + 1) fun x15 =>
    m_X1_goOn_L13 fu q0 y1 y2 n M14 x15)
def m_X1_goOn_L2 (fu : Nat) (q0 : Nat) (y1 : Int32) : Nat → Mem → Int32 → Option (Mem)
  | 0, _, _ => none
  | n + 1, M, z2 =>
  if y1 ≤ z2 then
    (some M)
  else
    (cb1 (m_X1_obeyOrders fu M q0) fun M6 =>
    cb1 (m_X1_goOn_L13 fu q0 y1 z2 fu M6 0) <|
    fun M18 =>
    cb1 (m_X1_scatter fu M18 q0) fun M21 =>
    mlet (mst M21 q0 5 ((M21 q0 5) + 1)) fun M22 =>
    mlet (z2 + 1) fun x23 =>
    m_X1_goOn_L2 fu q0 y1 n M22 x23)
def m_X1_goOn (fu : Nat) (M : Mem) (a0 : Nat) (x1 : Int32) : Option (Mem) :=
  cb1 (m_X1_goOn_L2 fu a0 x1 fu M 0) <|
  fun M26 =>
  some M26
def m_J7_fill_53178_L5 (fu : Nat) (q0 : Nat) (y1 : Int32) (y3 : Int32) : Nat → Mem → Int32 → Option (Mem)
  | 0, _, _ => none
  | n + 1, M, z2 =>
  if y3 ≤ z2 then
    (some M)
  else
    (chk (inb z2 (alen q0)) <|
    mlet (mst M q0 z2.toNatClampNeg y1) fun M6 =>
    mlet (z2 + 1) fun x7 =>
    m_J7_fill_53178_L5 fu q0 y1 y3 n M6 x7)
def m_J7_fill_53178 (fu : Nat) (M : Mem) (a0 : Nat) (x1 : Int32) : Option (Mem) :=
  mlet ((Int32.ofNat (alen a0))) fun x3 =>
  cb1 (m_J7_fill_53178_L5 fu a0 x1 x3 fu M 0) <|
  fun M10 =>
  some M10
def m_X4_startAnew (fu : Nat) (M : Mem) (a0 : Nat) : Option (Mem) :=
  cb1 (m_J7_fill_53178 fu M (a0 + 1) (-1)) fun M5 =>
  mlet (mst M5 a0 2 108) fun M6 =>
  mlet (mst M6 a0 3 108) fun M7 =>
  some M7
def m_X4_putLast (fu : Nat) (M : Mem) (a0 : Nat) (x1 : Int32) (x2 : Int32) : Option (Mem) :=
  if (Int32.ofNat (alen (a0 + 2))) ≤ (M a0 3) then
  (some M)
else
  (chk (inb x1 (alen (a0 + 1))) <|
  mlet (mst M (a0 + 1) x1.toNatClampNeg x2) fun M8 =>
  chk (inb (M8 a0 3) (alen (a0 + 2))) <|
  mlet (mst M8 (a0 + 2) (M8 a0 3).toNatClampNeg x1) fun M11 =>
  mlet (mst M11 a0 3 ((M11 a0 3) + 1)) fun M12 =>
  some M12)
def m_X4_putFirst (fu : Nat) (M : Mem) (a0 : Nat) (x1 : Int32) (x2 : Int32) : Option (Mem) :=
  if (M a0 2) ≤ 0 then
  (some M)
else
  (chk (inb x1 (alen (a0 + 1))) <|
  mlet (mst M (a0 + 1) x1.toNatClampNeg x2) fun M7 =>
  mlet (mst M7 a0 2 ((M7 a0 2) - 1)) fun M8 =>
  chk (inb (M8 a0 2) (alen (a0 + 2))) <|
  mlet (mst M8 (a0 + 2) (M8 a0 2).toNatClampNeg x1) fun M11 =>
  some M11)
def m_X4_lead (fu : Nat) (M : Mem) (a0 : Nat) (a1 : Nat) (x2 : Int32) (x3 : Int32) : Option (Mem) :=
  chk (inb x2 (alen (a0 + 1))) <|
  if (M (a0 + 1) x2.toNatClampNeg) = (-1) then
  (cb1 (m_X3_isFree fu M a1 x2) fun r9 =>
  if r9 = 0 then
  (cb1 (m_X4_putFirst fu M a0 x2 x3) fun M13 =>
  some M13)
else
  (cb1 (m_X4_putLast fu M a0 x2 (x3 + 1)) fun M16 =>
  some M16))
else
  (some M)
def m_X4_leadAround_L46 (fu : Nat) (q0 : Nat) (q1 : Nat) (y2 : Int32) (y3 : Int32) (y4 : Int32) (y5 : Int32) : Nat → Mem → Int32 → Option (Mem)
  | 0, _, _ => none
  | n + 1, M, z6 =>
  if (y3 + 1) < z6 then
    (some M)
  else
    (if 12 ≤ z6 then
    (some M)
  else
    (chk (inb y2 (alen (q0 + 1))) <|
    cb1 (m_X4_lead fu M q0 q1 ((12 * y5) + z6) (M (q0 + 1) y2.toNatClampNeg)) fun M18 =>
    mlet (z6 + 1) fun x19 =>
    m_X4_leadAround_L46 fu q0 q1 y2 y3 y4 y5 n M18 x19))
def m_X4_leadAround_L21 (fu : Nat) (q0 : Nat) (q1 : Nat) (y2 : Int32) (y3 : Int32) (y4 : Int32) : Nat → Mem → Int32 → Option (Mem)
  | 0, _, _ => none
  | n + 1, M, z5 =>
  if (y4 + 1) < z5 then
    (some M)
  else
    (if 9 ≤ z5 then
    (some M)
  else
    (mlet ((y3 - 1)) fun x10 =>
    mlet (mmax x10 0) fun x11 =>
    cb1 (m_X4_leadAround_L46 fu q0 q1 y2 y3 y4 z5 fu M x11) <|
    fun M22 =>
    mlet (z5 + 1) fun x23 =>
    m_X4_leadAround_L21 fu q0 q1 y2 y3 y4 n M22 x23))
def m_X4_leadAround (fu : Nat) (M : Mem) (a0 : Nat) (a1 : Nat) (x2 : Int32) : Option (Mem) :=
  mlet ((x2 - x2 / 12 * 12)) fun x4 =>
  mlet ((x2 / 12)) fun x5 =>
  mlet ((x5 - 1)) fun x6 =>
  mlet (mmax x6 0) fun x7 =>
  cb1 (m_X4_leadAround_L21 fu a0 a1 x2 x4 x5 fu M x7) <|
  fun M26 =>
  some M26
def m_X4_fewestToShut_L6 (fu : Nat) (q0 : Nat) (q1 : Nat) : Nat → Mem → Int32 → Option (Mem)
  | 0, _, _ => none
  | n + 1, M, z2 =>
  if 12 ≤ z2 then
    (some M)
  else
    (cb1 (m_X4_lead fu M q0 q1 z2 0) fun M9 =>
    mlet (z2 + 1) fun x10 =>
    m_X4_fewestToShut_L6 fu q0 q1 n M9 x10)
def m_X4_fewestToShut_L27 (fu : Nat) (q0 : Nat) (q1 : Nat) : Nat → Mem → Int32 → Option (Mem)
  | 0, _, _ => none
  | n + 1, M, z2 =>
  if 108 ≤ z2 then
    (some M)
  else
    (if (M q0 3) ≤ (M q0 2) then
    (some M)
  else
    (chk (inb (M q0 2) (alen (q0 + 2))) <|
    mlet ((M (q0 + 2) (M q0 2).toNatClampNeg)) fun x18 =>
    mlet (mst M q0 2 ((M q0 2) + 1)) fun M19 =>
    cb1 (m_X4_leadAround fu M19 q0 q1 x18) fun M22 =>
    mlet (z2 + 1) fun x23 =>
    m_X4_fewestToShut_L27 fu q0 q1 n M22 x23))
def m_X4_fewestToShut_L82 (fu : Nat) (M : Mem) (q0 : Nat) : Nat → Int32 → Int32 → Option (Int32)
  | 0, _, _ => none
  | n + 1, z2, z3 =>
  if 108 ≤ z3 then
    (some z2)
  else
    (chk (inb z3 (alen (q0 + 1))) <|
    mlet ((M (q0 + 1) z3.toNatClampNeg)) fun x30 =>
    mlet (mmin z2 x30) fun x31 =>
    mlet (z3 + 1) fun x32 =>
    m_X4_fewestToShut_L82 fu M q0 n x31 x32)
def m_X4_fewestToShut (fu : Nat) (M : Mem) (a0 : Nat) (a1 : Nat) : Option (Mem × Int32) :=
  cb1 (m_X4_startAnew fu M a0) fun M5 =>
  cb1 (m_X4_fewestToShut_L6 fu a0 a1 fu M5 0) <|
  fun M13 =>
  cb1 (m_X4_fewestToShut_L27 fu a0 a1 fu M13 0) <|
  fun M26 =>
  cb1 (m_X4_fewestToShut_L82 fu M26 a0 fu 9 96) <|
  fun x35 =>
  some (M26, x35)
def m_X4_fewestSteps_L73 (fu : Nat) (q0 : Nat) (q1 : Nat) (y3 : Int32) (y4 : Int32) (y5 : Int32) : Nat → Mem → Int32 → Option (Mem)
  | 0, _, _ => none
  | n + 1, M, z6 =>
  if 4 ≤ z6 then
    (some M)
  else
    (cb1 (m_X3_next fu M y5 z6) fun r25 =>
    cb1 (m_X3_isFree fu M q1 r25) fun r27 =>
    if r27 = 0 then
    (mlet (z6 + 1) fun x29 =>
    m_X4_fewestSteps_L73 fu q0 q1 y3 y4 y5 n M x29)
  else
    (chk (inb r25 (alen (q0 + 1))) <|
    if (M (q0 + 1) r25.toNatClampNeg) = (-1) then
    (chk (inb y5 (alen (q0 + 1))) <|
    cb1 (m_X4_putLast fu M q0 r25 ((M (q0 + 1) y5.toNatClampNeg) + 1)) fun M38 =>
    mlet (z6 + 1) fun x39 =>
    m_X4_fewestSteps_L73 fu q0 q1 y3 y4 y5 n M38 x39)
  else
    (mlet (z6 + 1) fun x33 =>
    m_X4_fewestSteps_L73 fu q0 q1 y3 y4 y5 n M x33)))
def m_X4_fewestSteps_L31 (fu : Nat) (q0 : Nat) (q1 : Nat) (y3 : Int32) : Nat → Mem → Int32 → Option (Mem)
  | 0, _, _ => none
  | n + 1, M, z4 =>
  if 108 ≤ z4 then
    (some M)
  else
    (if (M q0 3) ≤ (M q0 2) then
    (some M)
  else
    (chk (inb (M q0 2) (alen (q0 + 2))) <|
    mlet ((M (q0 + 2) (M q0 2).toNatClampNeg)) fun x21 =>
    mlet (mst M q0 2 ((M q0 2) + 1)) fun M22 =>
    cb1 (m_X4_fewestSteps_L73 fu q0 q1 y3 z4 x21 fu M22 0) <|
    fun M42 =>
    mlet (z4 + 1) fun x43 =>
    m_X4_fewestSteps_L31 fu q0 q1 y3 n M42 x43))
def m_X4_fewestSteps (fu : Nat) (M : Mem) (a0 : Nat) (a1 : Nat) (x2 : Int32) (x3 : Int32) : Option (Mem × Int32) :=
  cb1 (m_X3_isFree fu M a1 x2) fun r6 =>
  if r6 = 0 then
  (some (M, (-1)))
else
  (cb1 (m_X3_isFree fu M a1 x3) fun r9 =>
  if r9 = 0 then
  (some (M, (-1)))
else
  (cb1 (m_X4_startAnew fu M a0) fun M13 =>
  cb1 (m_X4_putLast fu M13 a0 x2 0) fun M16 =>
  cb1 (m_X4_fewestSteps_L31 fu a0 a1 x3 fu M16 0) <|
  fun M46 =>
  chk (inb x3 (alen (a0 + 1))) <|
  some (M46, (M46 (a0 + 1) x3.toNatClampNeg))))
def m_J6_signum_0f7a4 (fu : Nat) (M : Mem) (x0 : Int32) : Option (Int32) :=
  some ((x0 >>> (31 &&& 31)) ||| ((((-x0)).toUInt32 >>> ((31 : Int32).toUInt32 &&& Int32.toUInt32 31)).toInt32))
def m_X7_isIn (fu : Nat) (M : Mem) (x0 : Int32) (x1 : Int32) (x2 : Int32) : Option (Int32) :=
  if x0 < x1 then
  (some 0)
else
  (if x2 < x0 then
  (some 0)
else
  (some 1))
def m_X7_isCell (fu : Nat) (M : Mem) (x0 : Int32) (x1 : Int32) : Option (Int32) :=
  cb1 (m_X7_isIn fu M x0 0 11) fun r4 =>
  if r4 = 0 then
  (some 0)
else
  (cb1 (m_X7_isIn fu M x1 0 8) fun r7 =>
  if r7 = 0 then
  (some 0)
else
  (some 1))
def m_X7_beside (fu : Nat) (M : Mem) (x0 : Int32) (x1 : Int32) : Option (Int32) :=
  chk (inb x1 4) <|
  mlet (((x0 - x0 / 12 * 12) + (vX x1))) fun x4 =>
  chk (inb x1 4) <|
  mlet (((x0 / 12) + (vY x1))) fun x6 =>
  cb1 (m_X7_isCell fu M x4 x6) fun r8 =>
  if r8 = 0 then
  (some (-1))
else
  (some ((12 * x6) + x4))
def m_X6_copy (fu : Nat) (M : Mem) (a0 : Nat) (a1 : Nat) (a2 : Nat) : Option (Mem) :=
  chk (cpok 0 0 (Int32.ofNat (alen a1)) (alen a1) (alen a2)) <|
  mlet (mcp M a1 a2 (0 : Int32).toNatClampNeg (0 : Int32).toNatClampNeg (Int32.ofNat (alen a1)).toNatClampNeg) fun M5 =>
  some M5
def m_X6_become (fu : Nat) (M : Mem) (a0 : Nat) (a1 : Nat) : Option (Mem) :=
  mlet (mst M a0 0 (M a1 0)) fun M3 =>
  cb1 (m_X6_copy fu M3 a0 (a1 + 1) (a0 + 1)) fun M8 =>
  cb1 (m_X6_copy fu M8 a0 (a1 + 2) (a0 + 2)) fun M13 =>
  cb1 (m_X6_copy fu M13 a0 (a1 + 3) (a0 + 3)) fun M18 =>
  cb1 (m_X6_copy fu M18 a0 (a1 + 4) (a0 + 4)) fun M23 =>
  cb1 (m_X6_copy fu M23 a0 (a1 + 5) (a0 + 5)) fun M28 =>
  cb1 (m_X6_copy fu M28 a0 (a1 + 6) (a0 + 6)) fun M33 =>
  cb1 (m_X6_copy fu M33 a0 (a1 + 7) (a0 + 7)) fun M38 =>
  cb1 (m_X6_copy fu M38 a0 (a1 + 8) (a0 + 8)) fun M43 =>
  cb1 (m_X6_copy fu M43 a0 (a1 + 9) (a0 + 9)) fun M48 =>
  some M48
def m_X6_isBusy_L2 (fu : Nat) (M : Mem) (q0 : Nat) (y1 : Int32) : Nat → Int32 → Option ((Unit) ⊕ (Unit))
  | 0, _ => none
  | n + 1, z2 =>
  if (M 44 1) ≤ z2 then
    (some (Sum.inl ()))
  else
    (chk (inb z2 (alen (q0 + 3))) <|
    if (M (q0 + 3) z2.toNatClampNeg) ≤ 0 then
    (mlet (z2 + 1) fun x8 =>
    m_X6_isBusy_L2 fu M q0 y1 n x8)
  else
    (chk (inb z2 (alen (q0 + 2))) <|
    if (M (q0 + 2) z2.toNatClampNeg) = y1 then
    (some (Sum.inr ()))
  else
    (mlet (z2 + 1) fun x12 =>
    m_X6_isBusy_L2 fu M q0 y1 n x12)))
def m_X6_isBusy_L42 (fu : Nat) (M : Mem) (q0 : Nat) (y1 : Int32) : Nat → Int32 → Option ((Unit) ⊕ (Unit))
  | 0, _ => none
  | n + 1, z2 =>
  if (M 44 2) ≤ z2 then
    (some (Sum.inl ()))
  else
    (chk (inb z2 (alen (q0 + 8))) <|
    if (M (q0 + 8) z2.toNatClampNeg) = y1 then
    (some (Sum.inr ()))
  else
    (mlet (z2 + 1) fun x20 =>
    m_X6_isBusy_L42 fu M q0 y1 n x20))
def m_X6_isBusy (fu : Nat) (M : Mem) (a0 : Nat) (x1 : Int32) : Option (Int32) :=
  cb1 (m_X6_isBusy_L2 fu M a0 x1 fu 0) <|
  Sum.elim (fun _ =>
  cb1 (m_X6_isBusy_L42 fu M a0 x1 fu 0) <|
  Sum.elim (fun _ =>
  some 0) (fun _ =>
  some 1)) (fun _ =>
  some 1)
def m_X6_isLane (fu : Nat) (M : Mem) (a0 : Nat) (x1 : Int32) : Option (Int32) :=
  if x1 = (-1) then
  (some 0)
else
  (chk (inb x1 (alen (a0 + 1))) <|
  if (M (a0 + 1) x1.toNatClampNeg) = (-1) then
  (some 0)
else
  (some 1))
def m_X6_goes (fu : Nat) (M : Mem) (a0 : Nat) (x1 : Int32) (x2 : Int32) (x3 : Int32) : Option (Mem × Int32) :=
  cb1 (m_X6_isLane fu M a0 x2) fun r6 =>
  if r6 = 0 then
  (some (M, 0))
else
  (chk (inb x2 (alen (a0 + 1))) <|
  mlet ((M (a0 + 1) x2.toNatClampNeg)) fun x10 =>
  if x10 ≤ 0 then
  (chk (inb x1 (alen (a0 + 2))) <|
  mlet (mst M (a0 + 2) x1.toNatClampNeg x2) fun M14 =>
  some (M14, 1))
else
  (chk (inb x1 (alen (a0 + 3))) <|
  if (M (a0 + 3) x1.toNatClampNeg) < (2 * x10) then
  (some (M, 0))
else
  (cb1 (m_X6_isLane fu M a0 x3) fun r19 =>
  if r19 = 0 then
  (some (M, 0))
else
  (chk (inb x3 (alen (a0 + 1))) <|
  if (3 - x10) < (M (a0 + 1) x3.toNatClampNeg) then
  (some (M, 0))
else
  (cb1 (m_X6_isBusy fu M a0 x3) fun r25 =>
  if r25 = 0 then
  (chk (inb x3 (alen (a0 + 1))) <|
  chk (inb x3 (alen (a0 + 1))) <|
  mlet (mst M (a0 + 1) x3.toNatClampNeg ((M (a0 + 1) x3.toNatClampNeg) + x10)) fun M30 =>
  chk (inb x2 (alen (a0 + 1))) <|
  mlet (mst M30 (a0 + 1) x2.toNatClampNeg 0) fun M33 =>
  chk (inb x1 (alen (a0 + 2))) <|
  mlet (mst M33 (a0 + 2) x1.toNatClampNeg x2) fun M36 =>
  some (M36, 1))
else
  (some (M, 0)))))))
def m_X6_raises (fu : Nat) (M : Mem) (a0 : Nat) (x1 : Int32) (x2 : Int32) : Option (Mem × Int32) :=
  chk (inb x1 (alen (a0 + 3))) <|
  if (M (a0 + 3) x1.toNatClampNeg) < 3 then
  (some (M, 0))
else
  (cb1 (m_X6_isLane fu M a0 x2) fun r8 =>
  if r8 = 0 then
  (some (M, 0))
else
  (chk (inb x2 (alen (a0 + 1))) <|
  if (M (a0 + 1) x2.toNatClampNeg) = 3 then
  (some (M, 0))
else
  (cb1 (m_X6_isBusy fu M a0 x2) fun r14 =>
  if r14 = 0 then
  (chk (inb x2 (alen (a0 + 1))) <|
  chk (inb x2 (alen (a0 + 1))) <|
  mlet (mst M (a0 + 1) x2.toNatClampNeg ((M (a0 + 1) x2.toNatClampNeg) + 1)) fun M19 =>
  some (M19, 1))
else
  (some (M, 0)))))
def m_X6_pulls (fu : Nat) (M : Mem) (a0 : Nat) (x1 : Int32) : Option (Mem × Int32) :=
  cb1 (m_X6_isLane fu M a0 x1) fun r4 =>
  if r4 = 0 then
  (some (M, 0))
else
  (chk (inb x1 (alen (a0 + 1))) <|
  if (M (a0 + 1) x1.toNatClampNeg) = 0 then
  (some (M, 0))
else
  (chk (inb x1 (alen (a0 + 1))) <|
  chk (inb x1 (alen (a0 + 1))) <|
  mlet (mst M (a0 + 1) x1.toNatClampNeg ((M (a0 + 1) x1.toNatClampNeg) - 1)) fun M12 =>
  some (M12, 1)))
def m_X6_carriesOut (fu : Nat) (M : Mem) (a0 : Nat) (x1 : Int32) (x2 : Int32) : Option (Mem × Int32) :=
  chk (inb x1 (alen (a0 + 2))) <|
  cb1 (m_X7_beside fu M (M (a0 + 2) x1.toNatClampNeg) (x2 - x2 / 4 * 4)) fun r7 =>
  if x2 ≤ 7 then
  (if x2 ≤ 3 then
  (if r7 = (-1) then
  (cb2 (m_X6_goes fu M a0 x1 r7 (-1)) fun M19 r18 =>
  chk (isb r18) <|
  some (M19, r18))
else
  (cb1 (m_X7_beside fu M r7 x2) fun r12 =>
  cb2 (m_X6_goes fu M a0 x1 r7 r12) fun M15 r14 =>
  chk (isb r14) <|
  some (M15, r14)))
else
  (cb2 (m_X6_raises fu M a0 x1 r7) fun M23 r22 =>
  chk (isb r22) <|
  some (M23, r22)))
else
  (cb2 (m_X6_pulls fu M a0 r7) fun M27 r26 =>
  chk (isb r26) <|
  some (M27, r26))
def m_X6_act (fu : Nat) (M : Mem) (a0 : Nat) (x1 : Int32) : Option (Mem) :=
  chk (inb x1 (alen (a0 + 3))) <|
  if (M (a0 + 3) x1.toNatClampNeg) = 0 then
  (some M)
else
  (chk (inb x1 (alen (a0 + 5))) <|
  if (M (a0 + 5) x1.toNatClampNeg) = 0 then
  (some M)
else
  (chk (inb (24 * x1) (alen (a0 + 6))) <|
  mlet ((M (a0 + 6) (24 * x1).toNatClampNeg)) fun x11 =>
  chk (inb x1 (alen (a0 + 5))) <|
  chk (inb x1 (alen (a0 + 5))) <|
  mlet (mst M (a0 + 5) x1.toNatClampNeg ((M (a0 + 5) x1.toNatClampNeg) - 1)) fun M15 =>
  chk (inb x1 (alen (a0 + 5))) <|
  chk (cpok ((24 * x1) + 1) (24 * x1) (M15 (a0 + 5) x1.toNatClampNeg) (alen (a0 + 6)) (alen (a0 + 6))) <|
  mlet (mcp M15 (a0 + 6) (a0 + 6) ((24 * x1) + 1).toNatClampNeg (24 * x1).toNatClampNeg (M15 (a0 + 5) x1.toNatClampNeg).toNatClampNeg) fun M21 =>
  cb2 (m_X6_carriesOut fu M21 a0 x1 x11) fun M24 r23 =>
  if r23 = 0 then
  (chk (inb x1 (alen (a0 + 7))) <|
  chk (inb x1 (alen (a0 + 7))) <|
  mlet (mst M24 (a0 + 7) x1.toNatClampNeg ((M24 (a0 + 7) x1.toNatClampNeg) + 1)) fun M29 =>
  some M29)
else
  (some M24)))
def m_X6_patrol (fu : Nat) (M : Mem) (a0 : Nat) (x1 : Int32) : Option (Mem) :=
  chk (inb x1 (alen (a0 + 8))) <|
  chk (inb x1 (alen (a0 + 9))) <|
  chk (inb ((12 * x1) + (M (a0 + 9) x1.toNatClampNeg)) (alen (44 + 2))) <|
  cb1 (m_X7_beside fu M (M (a0 + 8) x1.toNatClampNeg) (M (44 + 2) ((12 * x1) + (M (a0 + 9) x1.toNatClampNeg)).toNatClampNeg)) fun r11 =>
  cb1 (m_X6_isLane fu M a0 r11) fun r13 =>
  if r13 = 0 then
  (chk (inb x1 (alen (a0 + 9))) <|
  chk (inb x1 (alen (44 + 1))) <|
  chk (decide (¬ (M (44 + 1) x1.toNatClampNeg) = 0)) <|
  mlet (((M (a0 + 9) x1.toNatClampNeg) + 1)) fun x22 =>
  chk (inb x1 (alen (a0 + 9))) <|
  mlet (mst M (a0 + 9) x1.toNatClampNeg (x22 - x22 / (M (44 + 1) x1.toNatClampNeg) * (M (44 + 1) x1.toNatClampNeg))) fun M24 =>
  some M24)
else
  (chk (inb r11 (alen (a0 + 1))) <|
  if (M (a0 + 1) r11.toNatClampNeg) = 0 then
  (chk (inb x1 (alen (a0 + 8))) <|
  mlet (mst M (a0 + 8) x1.toNatClampNeg r11) fun M40 =>
  chk (inb x1 (alen (a0 + 9))) <|
  chk (inb x1 (alen (44 + 1))) <|
  chk (decide (¬ (M40 (44 + 1) x1.toNatClampNeg) = 0)) <|
  mlet (((M40 (a0 + 9) x1.toNatClampNeg) + 1)) fun x48 =>
  chk (inb x1 (alen (a0 + 9))) <|
  mlet (mst M40 (a0 + 9) x1.toNatClampNeg (x48 - x48 / (M40 (44 + 1) x1.toNatClampNeg) * (M40 (44 + 1) x1.toNatClampNeg))) fun M50 =>
  some M50)
else
  (chk (inb x1 (alen (a0 + 9))) <|
  chk (inb x1 (alen (44 + 1))) <|
  chk (decide (¬ (M (44 + 1) x1.toNatClampNeg) = 0)) <|
  mlet (((M (a0 + 9) x1.toNatClampNeg) + 1)) fun x35 =>
  chk (inb x1 (alen (a0 + 9))) <|
  mlet (mst M (a0 + 9) x1.toNatClampNeg (x35 - x35 / (M (44 + 1) x1.toNatClampNeg) * (M (44 + 1) x1.toNatClampNeg))) fun M37 =>
  some M37))
def m_X6_sees_L113 (fu : Nat) (M : Mem) (q0 : Nat) (y1 : Int32) (y5 : Int32) (y6 : Int32) : Nat → Int32 → Option ((Unit) ⊕ (Unit))
  | 0, _ => none
  | n + 1, z7 =>
  if y5 ≤ z7 then
    (some (Sum.inl ()))
  else
    (chk (inb y1 (alen (q0 + 8))) <|
    chk (inb ((M (q0 + 8) y1.toNatClampNeg) + (z7 * y6)) (alen (q0 + 1))) <|
    if (M (q0 + 1) ((M (q0 + 8) y1.toNatClampNeg) + (z7 * y6)).toNatClampNeg) = 0 then
    (mlet (z7 + 1) fun x38 =>
    m_X6_sees_L113 fu M q0 y1 y5 y6 n x38)
  else
    (some (Sum.inr ())))
def m_X6_sees (fu : Nat) (M : Mem) (a0 : Nat) (x1 : Int32) (x2 : Int32) : Option (Int32) :=
  chk (inb x2 (alen (a0 + 3))) <|
  if (M (a0 + 3) x2.toNatClampNeg) = 0 then
  (some 0)
else
  (chk (inb x2 (alen (a0 + 2))) <|
  mlet ((M (a0 + 2) x2.toNatClampNeg)) fun x9 =>
  chk (inb x1 (alen (a0 + 8))) <|
  mlet ((M (a0 + 8) x1.toNatClampNeg)) fun x12 =>
  mlet (((x9 - x9 / 12 * 12) - (x12 - x12 / 12 * 12))) fun x13 =>
  chk (inb x2 (alen (a0 + 2))) <|
  chk (inb x1 (alen (a0 + 8))) <|
  mlet ((((M (a0 + 2) x2.toNatClampNeg) / 12) - ((M (a0 + 8) x1.toNatClampNeg) / 12))) fun x18 =>
  mlet (mabs x13) fun x19 =>
  mlet (mabs x18) fun x20 =>
  mlet ((x19 + x20)) fun x21 =>
  if x13 = 0 then
  (chk (inb x2 (alen (a0 + 4))) <|
  if (M (a0 + 4) x2.toNatClampNeg) = 1 then
  (if x21 ≤ 4 then
  (cb1 (m_J6_signum_0f7a4 fu M x13) fun r43 =>
  cb1 (m_J6_signum_0f7a4 fu M x18) fun r45 =>
  mlet ((r43 + (12 * r45))) fun x46 =>
  cb1 (m_X6_sees_L113 fu M a0 x1 x21 x46 fu 1) <|
  Sum.elim (fun _ =>
  some 1) (fun _ =>
  some 0))
else
  (some 0))
else
  (if x21 ≤ 1 then
  (cb1 (m_J6_signum_0f7a4 fu M x13) fun r28 =>
  cb1 (m_J6_signum_0f7a4 fu M x18) fun r30 =>
  mlet ((r28 + (12 * r30))) fun x31 =>
  cb1 (m_X6_sees_L113 fu M a0 x1 x21 x31 fu 1) <|
  Sum.elim (fun _ =>
  some 1) (fun _ =>
  some 0))
else
  (some 0)))
else
  (if x18 = 0 then
  (chk (inb x2 (alen (a0 + 4))) <|
  if (M (a0 + 4) x2.toNatClampNeg) = 1 then
  (if x21 ≤ 4 then
  (cb1 (m_J6_signum_0f7a4 fu M x13) fun r63 =>
  cb1 (m_J6_signum_0f7a4 fu M x18) fun r65 =>
  mlet ((r63 + (12 * r65))) fun x66 =>
  cb1 (m_X6_sees_L113 fu M a0 x1 x21 x66 fu 1) <|
  Sum.elim (fun _ =>
  some 1) (fun _ =>
  some 0))
else
  (some 0))
else
  (if x21 ≤ 1 then
  (cb1 (m_J6_signum_0f7a4 fu M x13) fun r55 =>
  cb1 (m_J6_signum_0f7a4 fu M x18) fun r57 =>
  mlet ((r55 + (12 * r57))) fun x58 =>
  cb1 (m_X6_sees_L113 fu M a0 x1 x21 x58 fu 1) <|
  Sum.elim (fun _ =>
  some 1) (fun _ =>
  some 0))
else
  (some 0)))
else
  (some 0)))
def m_X6_seenBy_L4 (fu : Nat) (M : Mem) (q0 : Nat) (y1 : Int32) : Nat → Int32 → Int32 → Option (Int32)
  | 0, _, _ => none
  | n + 1, z2, z3 =>
  if (M 44 2) ≤ z3 then
    (some z2)
  else
    (cb1 (m_X6_sees fu M q0 z3 y1) fun r6 =>
    if r6 = 0 then
    (mlet ((z2 + 0)) fun x8 =>
    mlet (z3 + 1) fun x9 =>
    m_X6_seenBy_L4 fu M q0 y1 n x8 x9)
  else
    (mlet ((z2 + 1)) fun x10 =>
    mlet (z3 + 1) fun x11 =>
    m_X6_seenBy_L4 fu M q0 y1 n x10 x11))
def m_X6_seenBy (fu : Nat) (M : Mem) (a0 : Nat) (x1 : Int32) : Option (Int32) :=
  cb1 (m_X6_seenBy_L4 fu M a0 x1 fu 0 0) <|
  fun x14 =>
  some x14
def m_X6_pass_L2 (fu : Nat) (q0 : Nat) : Nat → Mem → Int32 → Option (Mem)
  | 0, _, _ => none
  | n + 1, M, z1 =>
  if (M 44 1) ≤ z1 then
    (some M)
  else
    (cb1 (m_X6_act fu M q0 z1) fun M6 =>
    mlet (z1 + 1) fun x7 =>
    m_X6_pass_L2 fu q0 n M6 x7)
def m_X6_pass_L26 (fu : Nat) (q0 : Nat) : Nat → Mem → Int32 → Option (Mem)
  | 0, _, _ => none
  | n + 1, M, z1 =>
  if (M 44 2) ≤ z1 then
    (some M)
  else
    (cb1 (m_X6_patrol fu M q0 z1) fun M15 =>
    mlet (z1 + 1) fun x16 =>
    m_X6_pass_L26 fu q0 n M15 x16)
def m_X6_pass_L50 (fu : Nat) (q0 : Nat) : Nat → Mem → Int32 → Option (Mem)
  | 0, _, _ => none
  | n + 1, M, z1 =>
  if (M 44 1) ≤ z1 then
    (some M)
  else
    (chk (inb z1 (alen (q0 + 3))) <|
    cb1 (m_X6_seenBy fu M q0 z1) fun r26 =>
    mlet (((M (q0 + 3) z1.toNatClampNeg) - r26)) fun x27 =>
    mlet (mmax 0 x27) fun x28 =>
    chk (inb z1 (alen (q0 + 3))) <|
    mlet (mst M (q0 + 3) z1.toNatClampNeg x28) fun M30 =>
    mlet (z1 + 1) fun x31 =>
    m_X6_pass_L50 fu q0 n M30 x31)
def m_X6_pass (fu : Nat) (M : Mem) (a0 : Nat) : Option (Mem) :=
  cb1 (m_X6_pass_L2 fu a0 fu M 0) <|
  fun M10 =>
  cb1 (m_X6_pass_L26 fu a0 fu M10 0) <|
  fun M19 =>
  cb1 (m_X6_pass_L50 fu a0 fu M19 0) <|
  fun M34 =>
  mlet (mst M34 a0 0 ((M34 a0 0) + 1)) fun M35 =>
  some M35
def m_X6_allPeople_L4 (fu : Nat) (M : Mem) (q0 : Nat) : Nat → Int32 → Int32 → Option (Int32)
  | 0, _, _ => none
  | n + 1, z1, z2 =>
  if (M 44 1) ≤ z2 then
    (some z1)
  else
    (chk (inb z2 (alen (q0 + 3))) <|
    mlet ((z1 + (M (q0 + 3) z2.toNatClampNeg))) fun x6 =>
    mlet (z2 + 1) fun x7 =>
    m_X6_allPeople_L4 fu M q0 n x6 x7)
def m_X6_allPeople (fu : Nat) (M : Mem) (a0 : Nat) : Option (Int32) :=
  cb1 (m_X6_allPeople_L4 fu M a0 fu 0 0) <|
  fun x10 =>
  some x10
def m_X6_barricades_L13 (fu : Nat) (M : Mem) (q2 : Nat) (y3 : Int32) : Nat → Int32 → Int32 → Option (Int32)
  | 0, _, _ => none
  | n + 1, z1, z4 =>
  if y3 ≤ z4 then
    (some z1)
  else
    (chk (inb z4 (alen q2)) <|
    mlet ((M q2 z4.toNatClampNeg)) fun x6 =>
    mlet (mmax 0 x6) fun x7 =>
    mlet ((z1 + x7)) fun x8 =>
    mlet (z4 + 1) fun x9 =>
    m_X6_barricades_L13 fu M q2 y3 n x8 x9)
def m_X6_barricades (fu : Nat) (M : Mem) (a0 : Nat) : Option (Int32) :=
  mlet ((Int32.ofNat (alen (a0 + 1)))) fun x3 =>
  cb1 (m_X6_barricades_L13 fu M (a0 + 1) x3 fu 0 0) <|
  fun x12 =>
  some x12
def m_X6_cost (fu : Nat) (M : Mem) (a0 : Nat) (x1 : Int32) : Option (Int32) :=
  chk (inb x1 (alen (a0 + 1))) <|
  if (M (a0 + 1) x1.toNatClampNeg) = 0 then
  (some 1)
else
  (some 0)
def m_X6_leastBeside_L46 (fu : Nat) (M : Mem) (q0 : Nat) (y2 : Int32) (y3 : Int32) (y5 : Int32) : Nat → Int32 → Int32 → Option (Int32)
  | 0, _, _ => none
  | n + 1, z4, z6 =>
  mlet ((y3 + 1)) fun x12 =>
    mlet (mmin 8 x12) fun x13 =>
    if x13 < z6 then
    (some z4)
  else
    (chk (inb ((12 * z6) + y5) (alen (44 + 3))) <|
    mlet ((M (44 + 3) ((12 * z6) + y5).toNatClampNeg)) fun x18 =>
    mlet (mmin z4 x18) fun x19 =>
    mlet (z6 + 1) fun x20 =>
    m_X6_leastBeside_L46 fu M q0 y2 y3 y5 n x19 x20)
def m_X6_leastBeside_L24 (fu : Nat) (M : Mem) (q0 : Nat) (y2 : Int32) (y3 : Int32) : Nat → Int32 → Int32 → Option (Int32)
  | 0, _, _ => none
  | n + 1, z4, z5 =>
  mlet ((y2 + 1)) fun x7 =>
    mlet (mmin 11 x7) fun x8 =>
    if x8 < z5 then
    (some z4)
  else
    (mlet ((y3 - 1)) fun x10 =>
    mlet (mmax 0 x10) fun x11 =>
    cb1 (m_X6_leastBeside_L46 fu M q0 y2 y3 z5 fu z4 x11) <|
    fun x23 =>
    mlet (z5 + 1) fun x24 =>
    m_X6_leastBeside_L24 fu M q0 y2 y3 n x23 x24)
def m_X6_leastBeside (fu : Nat) (M : Mem) (a0 : Nat) (x1 : Int32) : Option (Int32) :=
  mlet ((x1 - x1 / 12 * 12)) fun x3 =>
  mlet ((x1 / 12)) fun x4 =>
  mlet ((x3 - 1)) fun x5 =>
  mlet (mmax 0 x5) fun x6 =>
  cb1 (m_X6_leastBeside_L24 fu M a0 x3 x4 fu 9999 x6) <|
  fun x27 =>
  some x27
def m_X6_shuts_L2 (fu : Nat) (q0 : Nat) : Nat → Mem → Int32 → Option (Mem)
  | 0, _, _ => none
  | n + 1, M, z1 =>
  if 108 ≤ z1 then
    (some M)
  else
    (if 12 ≤ z1 then
    (chk (inb z1 (alen (44 + 3))) <|
    mlet (mst M (44 + 3) z1.toNatClampNeg 9999) fun M7 =>
    mlet (z1 + 1) fun x8 =>
    m_X6_shuts_L2 fu q0 n M7 x8)
  else
    (cb1 (m_X6_cost fu M q0 z1) fun r10 =>
    chk (inb z1 (alen (44 + 3))) <|
    mlet (mst M (44 + 3) z1.toNatClampNeg r10) fun M12 =>
    mlet (z1 + 1) fun x13 =>
    m_X6_shuts_L2 fu q0 n M12 x13))
def m_X6_shuts_L50 (fu : Nat) (q0 : Nat) : Nat → Mem → Int32 → Int32 → Option (Mem × Int32)
  | 0, _, _, _ => none
  | n + 1, M, z1, z2 =>
  if 108 ≤ z2 then
    (some (M, z1))
  else
    (chk (inb z2 (alen (44 + 3))) <|
    cb1 (m_X6_leastBeside fu M q0 z2) fun r23 =>
    cb1 (m_X6_cost fu M q0 z2) fun r25 =>
    mlet ((M (44 + 3) z2.toNatClampNeg)) fun x26 =>
    mlet ((r23 + r25)) fun x27 =>
    mlet (mmin x26 x27) fun x28 =>
    chk (inb z2 (alen (44 + 3))) <|
    if (M (44 + 3) z2.toNatClampNeg) ≤ x28 then
    (mlet ((z1 ||| 0)) fun x33 =>
    chk (inb z2 (alen (44 + 3))) <|
    mlet (mst M (44 + 3) z2.toNatClampNeg x28) fun M37 =>
    mlet (z2 + 1) fun x38 =>
    m_X6_shuts_L50 fu q0 n M37 x33 x38)
  else
    (mlet ((z1 ||| 1)) fun x39 =>
    chk (inb z2 (alen (44 + 3))) <|
    mlet (mst M (44 + 3) z2.toNatClampNeg x28) fun M43 =>
    mlet (z2 + 1) fun x44 =>
    m_X6_shuts_L50 fu q0 n M43 x39 x44))
def m_X6_shuts_L42 (fu : Nat) (q0 : Nat) : Nat → Mem → Int32 → Option (Mem)
  | 0, _, _ => none
  | n + 1, M, z1 =>
  if z1 = 0 then
    (some M)
  else
    (cb1 (m_X6_shuts_L50 fu q0 fu M 0 0) <|
    up2 fun M47 x48 =>
    m_X6_shuts_L42 fu q0 n M47 x48)
def m_X6_shuts_L127 (fu : Nat) (M : Mem) (q0 : Nat) : Nat → Int32 → Int32 → Option (Int32)
  | 0, _, _ => none
  | n + 1, z2, z3 =>
  if 108 ≤ z3 then
    (some z2)
  else
    (chk (inb z3 (alen (44 + 3))) <|
    mlet ((M (44 + 3) z3.toNatClampNeg)) fun x56 =>
    mlet (mmin z2 x56) fun x57 =>
    mlet (z3 + 1) fun x58 =>
    m_X6_shuts_L127 fu M q0 n x57 x58)
def m_X6_shuts (fu : Nat) (M : Mem) (a0 : Nat) : Option (Mem × Int32) :=
  cb1 (m_X6_shuts_L2 fu a0 fu M 0) <|
  fun M16 =>
  cb1 (m_X6_shuts_L42 fu a0 fu M16 1) <|
  fun M51 =>
  cb1 (m_X6_shuts_L127 fu M51 a0 fu 9999 96) <|
  fun x61 =>
  some (M51, x61)
def m_X7_thrown (fu : Nat) (M : Mem) (a0 : Nat) : Option (Int32) :=
  some (M a0 0)
def m_X7_no (fu : Nat) (M : Mem) (a0 : Nat) (x1 : Int32) : Option (Mem × Int32) :=
  mlet (mst M a0 0 x1) fun M3 =>
  some (M3, 0)
def m_X7_isCrowd (fu : Nat) (M : Mem) (a0 : Nat) (x1 : Int32) : Option (Int32) :=
  cb1 (m_X7_isIn fu M x1 0 ((M a0 1) - 1)) fun r4 =>
  chk (isb r4) <|
  some r4
def m_X7_isPatrol (fu : Nat) (M : Mem) (a0 : Nat) (x1 : Int32) : Option (Int32) :=
  cb1 (m_X7_isIn fu M x1 0 ((M a0 2) - 1)) fun r4 =>
  chk (isb r4) <|
  some r4
def m_X7_house (fu : Nat) (M : Mem) (a0 : Nat) (x1 : Int32) (x2 : Int32) : Option (Mem × Int32) :=
  mlet (mst M a0 0 0) fun M4 =>
  cb1 (m_X7_isCell fu M4 x1 x2) fun r6 =>
  if r6 = 0 then
  (cb2 (m_X7_no fu M4 a0 1) fun M45 r44 =>
  if r44 = 0 then
  (some (M45, 0))
else
  (some (M45, 1)))
else
  (mlet (((12 * x2) + x1)) fun x8 =>
  chk (inb x8 (alen (49 + 1))) <|
  if 0 < (M4 (49 + 1) x8.toNatClampNeg) then
  (cb2 (m_X7_no fu M4 a0 2) fun M15 r14 =>
  if r14 = 0 then
  (some (M15, 0))
else
  (some (M15, 1)))
else
  (cb1 (m_X6_isBusy fu M4 49 x8) fun r19 =>
  if r19 = 0 then
  (chk (inb x8 (alen (49 + 1))) <|
  if (M4 (49 + 1) x8.toNatClampNeg) = (-1) then
  (chk (inb x8 (alen (49 + 1))) <|
  mlet (mst M4 (49 + 1) x8.toNatClampNeg 0) fun M34 =>
  chk (inb x8 (alen (49 + 1))) <|
  if (M34 (49 + 1) x8.toNatClampNeg) = (-1) then
  (some (M34, 1))
else
  (some (M34, 0)))
else
  (chk (inb x8 (alen (49 + 1))) <|
  mlet (mst M4 (49 + 1) x8.toNatClampNeg (-1)) fun M28 =>
  chk (inb x8 (alen (49 + 1))) <|
  if (M28 (49 + 1) x8.toNatClampNeg) = (-1) then
  (some (M28, 1))
else
  (some (M28, 0))))
else
  (cb2 (m_X7_no fu M4 a0 2) fun M41 r40 =>
  if r40 = 0 then
  (some (M41, 0))
else
  (some (M41, 1)))))
def m_X7_block (fu : Nat) (M : Mem) (a0 : Nat) (x1 : Int32) (x2 : Int32) (x3 : Int32) : Option (Mem × Int32) :=
  mlet (mst M a0 0 0) fun M5 =>
  cb1 (m_X7_isCell fu M5 x1 x2) fun r7 =>
  if r7 = 0 then
  (cb2 (m_X7_no fu M5 a0 1) fun M40 r39 =>
  some (M40, r39))
else
  (cb1 (m_X7_isIn fu M5 x3 0 3) fun r10 =>
  if r10 = 0 then
  (cb2 (m_X7_no fu M5 a0 2) fun M37 r36 =>
  some (M37, r36))
else
  (mlet (((12 * x2) + x1)) fun x12 =>
  chk (inb x12 (alen (49 + 1))) <|
  if (M5 (49 + 1) x12.toNatClampNeg) = (-1) then
  (cb2 (m_X7_no fu M5 a0 3) fun M19 r18 =>
  some (M19, r18))
else
  (cb1 (m_X6_isBusy fu M5 49 x12) fun r22 =>
  if r22 = 0 then
  (chk (inb x12 (alen (49 + 1))) <|
  mlet ((M5 (49 + 1) x12.toNatClampNeg)) fun x27 =>
  chk (inb x12 (alen (49 + 1))) <|
  mlet (mst M5 (49 + 1) x12.toNatClampNeg x3) fun M31 =>
  some (M31, x27))
else
  (cb2 (m_X7_no fu M5 a0 3) fun M34 r33 =>
  some (M34, r33)))))
def m_X7_cell (fu : Nat) (M : Mem) (a0 : Nat) (x1 : Int32) (x2 : Int32) : Option (Mem × Int32) :=
  mlet (mst M a0 0 0) fun M4 =>
  cb1 (m_X7_isCell fu M4 x1 x2) fun r6 =>
  if r6 = 0 then
  (cb2 (m_X7_no fu M4 a0 1) fun M10 r9 =>
  some (M10, r9))
else
  (chk (inb ((12 * x2) + x1) (alen (49 + 1))) <|
  some (M4, (M4 (49 + 1) ((12 * x2) + x1).toNatClampNeg)))
def m_X7_gather (fu : Nat) (M : Mem) (a0 : Nat) (x1 : Int32) (x2 : Int32) (x3 : Int32) : Option (Mem × Int32) :=
  mlet (mst M a0 0 0) fun M5 =>
  cb1 (m_X7_isCell fu M5 x1 x2) fun r7 =>
  if r7 = 0 then
  (cb2 (m_X7_no fu M5 a0 1) fun M41 r40 =>
  some (M41, r40))
else
  (cb1 (m_X7_isIn fu M5 x3 1 9) fun r10 =>
  if r10 = 0 then
  (cb2 (m_X7_no fu M5 a0 2) fun M38 r37 =>
  some (M38, r37))
else
  (if (M5 a0 1) = 6 then
  (cb2 (m_X7_no fu M5 a0 3) fun M15 r14 =>
  some (M15, r14))
else
  (chk (inb ((12 * x2) + x1) (alen (49 + 1))) <|
  if (M5 (49 + 1) ((12 * x2) + x1).toNatClampNeg) = 0 then
  (chk (inb (M5 a0 1) (alen (49 + 2))) <|
  mlet (mst M5 (49 + 2) (M5 a0 1).toNatClampNeg ((12 * x2) + x1)) fun M23 =>
  chk (inb (M23 a0 1) (alen (49 + 3))) <|
  mlet (mst M23 (49 + 3) (M23 a0 1).toNatClampNeg x3) fun M27 =>
  chk (inb (M27 a0 1) (alen (49 + 4))) <|
  mlet (mst M27 (49 + 4) (M27 a0 1).toNatClampNeg 1) fun M31 =>
  mlet (mst M31 a0 1 ((M31 a0 1) + 1)) fun M32 =>
  some (M32, ((M32 a0 1) - 1)))
else
  (cb2 (m_X7_no fu M5 a0 3) fun M35 r34 =>
  some (M35, r34)))))
def m_X7_order (fu : Nat) (M : Mem) (a0 : Nat) (x1 : Int32) (x2 : Int32) : Option (Mem × Int32) :=
  mlet (mst M a0 0 0) fun M4 =>
  cb1 (m_X7_isCrowd fu M4 a0 x1) fun r6 =>
  if r6 = 0 then
  (cb2 (m_X7_no fu M4 a0 1) fun M45 r44 =>
  some (M45, r44))
else
  (cb1 (m_X7_isIn fu M4 x2 0 11) fun r9 =>
  if r9 = 0 then
  (cb2 (m_X7_no fu M4 a0 2) fun M42 r41 =>
  some (M42, r41))
else
  (chk (inb x1 (alen (49 + 3))) <|
  if (M4 (49 + 3) x1.toNatClampNeg) = 0 then
  (cb2 (m_X7_no fu M4 a0 3) fun M17 r16 =>
  some (M17, r16))
else
  (chk (inb x1 (alen (49 + 5))) <|
  if (M4 (49 + 5) x1.toNatClampNeg) = 24 then
  (cb2 (m_X7_no fu M4 a0 3) fun M39 r38 =>
  some (M39, r38))
else
  (chk (inb x1 (alen (49 + 5))) <|
  chk (inb ((24 * x1) + (M4 (49 + 5) x1.toNatClampNeg)) (alen (49 + 6))) <|
  mlet (mst M4 (49 + 6) ((24 * x1) + (M4 (49 + 5) x1.toNatClampNeg)).toNatClampNeg x2) fun M28 =>
  chk (inb x1 (alen (49 + 5))) <|
  chk (inb x1 (alen (49 + 5))) <|
  mlet (mst M28 (49 + 5) x1.toNatClampNeg ((M28 (49 + 5) x1.toNatClampNeg) + 1)) fun M33 =>
  chk (inb x1 (alen (49 + 5))) <|
  some (M33, (M33 (49 + 5) x1.toNatClampNeg))))))
def m_X7_torch (fu : Nat) (M : Mem) (a0 : Nat) (x1 : Int32) : Option (Mem × Int32) :=
  mlet (mst M a0 0 0) fun M3 =>
  cb1 (m_X7_isCrowd fu M3 a0 x1) fun r5 =>
  if r5 = 0 then
  (cb2 (m_X7_no fu M3 a0 1) fun M28 r27 =>
  if r27 = 0 then
  (some (M28, 0))
else
  (some (M28, 1)))
else
  (chk (inb x1 (alen (49 + 3))) <|
  if (M3 (49 + 3) x1.toNatClampNeg) = 0 then
  (cb2 (m_X7_no fu M3 a0 2) fun M24 r23 =>
  if r23 = 0 then
  (some (M24, 0))
else
  (some (M24, 1)))
else
  (chk (inb x1 (alen (49 + 4))) <|
  chk (inb x1 (alen (49 + 4))) <|
  mlet (mst M3 (49 + 4) x1.toNatClampNeg (1 - (M3 (49 + 4) x1.toNatClampNeg))) fun M17 =>
  chk (inb x1 (alen (49 + 4))) <|
  if (M17 (49 + 4) x1.toNatClampNeg) = 1 then
  (some (M17, 1))
else
  (some (M17, 0))))
def m_X7_patrol_L113 (fu : Nat) (q0 : Nat) (y3 : Int32) (y4 : Int32) : Nat → Mem → Int32 → Option (Mem)
  | 0, _, _ => none
  | n + 1, M, z5 =>
  if y3 ≤ z5 then
    (some M)
  else
    (chk (inb ((12 * (M q0 2)) + z5) (alen (q0 + 2))) <|
    mlet (mst M (q0 + 2) ((12 * (M q0 2)) + z5).toNatClampNeg ((y4 >>> ((2 * z5) &&& 31)) &&& 3)) fun M37 =>
    mlet (z5 + 1) fun x38 =>
    m_X7_patrol_L113 fu q0 y3 y4 n M37 x38)
def m_X7_patrol (fu : Nat) (M : Mem) (a0 : Nat) (x1 : Int32) (x2 : Int32) (x3 : Int32) (x4 : Int32) : Option (Mem × Int32) :=
  mlet (mst M a0 0 0) fun M6 =>
  cb1 (m_X7_isCell fu M6 x1 x2) fun r8 =>
  if r8 = 0 then
  (cb2 (m_X7_no fu M6 a0 1) fun M51 r50 =>
  some (M51, r50))
else
  (cb1 (m_X7_isIn fu M6 x3 1 12) fun r11 =>
  if r11 = 0 then
  (cb2 (m_X7_no fu M6 a0 2) fun M15 r14 =>
  some (M15, r14))
else
  (cb1 (m_X7_isIn fu M6 x4 0 ((1 <<< ((2 * x3) &&& 31)) - 1)) fun r17 =>
  if r17 = 0 then
  (cb2 (m_X7_no fu M6 a0 2) fun M48 r47 =>
  some (M48, r47))
else
  (if (M6 a0 2) = 3 then
  (cb2 (m_X7_no fu M6 a0 3) fun M22 r21 =>
  some (M22, r21))
else
  (chk (inb ((12 * x2) + x1) (alen (49 + 1))) <|
  if (M6 (49 + 1) ((12 * x2) + x1).toNatClampNeg) = 0 then
  (chk (inb (M6 a0 2) (alen (49 + 8))) <|
  mlet (mst M6 (49 + 8) (M6 a0 2).toNatClampNeg ((12 * x2) + x1)) fun M30 =>
  chk (inb (M30 a0 2) (alen (a0 + 1))) <|
  mlet (mst M30 (a0 + 1) (M30 a0 2).toNatClampNeg x3) fun M33 =>
  cb1 (m_X7_patrol_L113 fu a0 x3 x4 fu M33 0) <|
  fun M41 =>
  mlet (mst M41 a0 2 ((M41 a0 2) + 1)) fun M42 =>
  some (M42, ((M42 a0 2) - 1)))
else
  (cb2 (m_X7_no fu M6 a0 3) fun M45 r44 =>
  some (M45, r44))))))
def m_X7_crowdTold (fu : Nat) (M : Mem) (a0 : Nat) (x1 : Int32) (x2 : Int32) : Option (Int32) :=
  if x2 = 0 then
  (chk (inb x1 (alen (49 + 2))) <|
  mlet ((M (49 + 2) x1.toNatClampNeg)) fun x8 =>
  some (x8 - x8 / 12 * 12))
else if x2 = 1 then
  (chk (inb x1 (alen (49 + 2))) <|
  some ((M (49 + 2) x1.toNatClampNeg) / 12))
else if x2 = 2 then
  (chk (inb x1 (alen (49 + 3))) <|
  some (M (49 + 3) x1.toNatClampNeg))
else if x2 = 3 then
  (chk (inb x1 (alen (49 + 4))) <|
  some (M (49 + 4) x1.toNatClampNeg))
else if x2 = 4 then
  (chk (inb x1 (alen (49 + 5))) <|
  some (M (49 + 5) x1.toNatClampNeg))
else if x2 = 5 then
  (chk (inb x1 (alen (49 + 5))) <|
  if (M (49 + 5) x1.toNatClampNeg) = 0 then
  (some (-1))
else
  (chk (inb (24 * x1) (alen (49 + 6))) <|
  some (M (49 + 6) (24 * x1).toNatClampNeg)))
else if x2 = 6 then
  (chk (inb x1 (alen (49 + 7))) <|
  some (M (49 + 7) x1.toNatClampNeg))
else 
  (cb1 (m_X6_seenBy fu M 49 x1) fun r39 =>
  some r39)
def m_X7_crowd (fu : Nat) (M : Mem) (a0 : Nat) (x1 : Int32) (x2 : Int32) : Option (Mem × Int32) :=
  mlet (mst M a0 0 0) fun M4 =>
  cb1 (m_X7_isCrowd fu M4 a0 x1) fun r6 =>
  if r6 = 0 then
  (cb2 (m_X7_no fu M4 a0 1) fun M10 r9 =>
  some (M10, r9))
else
  (cb1 (m_X7_isIn fu M4 x2 0 7) fun r12 =>
  if r12 = 0 then
  (cb2 (m_X7_no fu M4 a0 1) fun M16 r15 =>
  some (M16, r15))
else
  (cb1 (m_X7_crowdTold fu M4 a0 x1 x2) fun r18 =>
  some (M4, r18)))
def m_X7_guardTold_L5 (fu : Nat) (M : Mem) (q0 : Nat) (y1 : Int32) (y2 : Int32) : Nat → Int32 → Int32 → Option (Int32)
  | 0, _, _ => none
  | n + 1, z3, z4 =>
  if (M q0 1) ≤ z4 then
    (some z3)
  else
    (cb1 (m_X6_sees fu M 49 y1 z4) fun r7 =>
    if r7 = 0 then
    (mlet ((z3 + 0)) fun x9 =>
    mlet (z4 + 1) fun x10 =>
    m_X7_guardTold_L5 fu M q0 y1 y2 n x9 x10)
  else
    (mlet ((z3 + 1)) fun x11 =>
    mlet (z4 + 1) fun x12 =>
    m_X7_guardTold_L5 fu M q0 y1 y2 n x11 x12))
def m_X7_guardTold (fu : Nat) (M : Mem) (a0 : Nat) (x1 : Int32) (x2 : Int32) : Option (Int32) :=
  cb1 (m_X7_guardTold_L5 fu M a0 x1 x2 fu 0 0) <|
  fun x15 =>
  if x2 = 0 then
  (chk (inb x1 (alen (49 + 8))) <|
  mlet ((M (49 + 8) x1.toNatClampNeg)) fun x30 =>
  some (x30 - x30 / 12 * 12))
else
  (if x2 = 1 then
  (chk (inb x1 (alen (49 + 8))) <|
  some ((M (49 + 8) x1.toNatClampNeg) / 12))
else
  (if x2 = 2 then
  (chk (inb x1 (alen (49 + 9))) <|
  chk (inb ((12 * x1) + (M (49 + 9) x1.toNatClampNeg)) (alen (a0 + 2))) <|
  some (M (a0 + 2) ((12 * x1) + (M (49 + 9) x1.toNatClampNeg)).toNatClampNeg))
else
  (some x15)))
def m_X7_guard (fu : Nat) (M : Mem) (a0 : Nat) (x1 : Int32) (x2 : Int32) : Option (Mem × Int32) :=
  mlet (mst M a0 0 0) fun M4 =>
  cb1 (m_X7_isPatrol fu M4 a0 x1) fun r6 =>
  if r6 = 0 then
  (cb2 (m_X7_no fu M4 a0 1) fun M10 r9 =>
  some (M10, r9))
else
  (cb1 (m_X7_isIn fu M4 x2 0 3) fun r12 =>
  if r12 = 0 then
  (cb2 (m_X7_no fu M4 a0 1) fun M16 r15 =>
  some (M16, r15))
else
  (cb1 (m_X7_guardTold fu M4 a0 x1 x2) fun r18 =>
  some (M4, r18)))
def m_X7_sees (fu : Nat) (M : Mem) (a0 : Nat) (x1 : Int32) (x2 : Int32) : Option (Mem × Int32) :=
  mlet (mst M a0 0 0) fun M4 =>
  cb1 (m_X7_isPatrol fu M4 a0 x1) fun r6 =>
  if r6 = 0 then
  (cb2 (m_X7_no fu M4 a0 1) fun M10 r9 =>
  if r9 = 0 then
  (some (M10, 0))
else
  (some (M10, 1)))
else
  (cb1 (m_X7_isCrowd fu M4 a0 x2) fun r13 =>
  if r13 = 0 then
  (cb2 (m_X7_no fu M4 a0 1) fun M17 r16 =>
  if r16 = 0 then
  (some (M17, 0))
else
  (some (M17, 1)))
else
  (cb1 (m_X6_sees fu M4 49 x1 x2) fun r21 =>
  chk (isb r21) <|
  some (M4, r21)))
def m_X7_left_L4 (fu : Nat) (M : Mem) (q0 : Nat) : Nat → Int32 → Int32 → Option (Int32)
  | 0, _, _ => none
  | n + 1, z1, z2 =>
  if (M q0 1) ≤ z2 then
    (some z1)
  else
    (chk (inb z2 (alen (49 + 3))) <|
    if (M (49 + 3) z2.toNatClampNeg) ≤ 0 then
    (mlet ((z1 + 0)) fun x7 =>
    mlet (z2 + 1) fun x8 =>
    m_X7_left_L4 fu M q0 n x7 x8)
  else
    (mlet ((z1 + 1)) fun x9 =>
    mlet (z2 + 1) fun x10 =>
    m_X7_left_L4 fu M q0 n x9 x10))
def m_X7_left (fu : Nat) (M : Mem) (a0 : Nat) : Option (Int32) :=
  cb1 (m_X7_left_L4 fu M a0 fu 0 0) <|
  fun x13 =>
  some x13
def m_X7_way_L76 (fu : Nat) (q0 : Nat) (y5 : Int32) (y6 : Int32) : Nat → Mem → Int32 → Option (Mem)
  | 0, _, _ => none
  | n + 1, M, z7 =>
  if 108 ≤ z7 then
    (some M)
  else
    (chk (inb z7 (alen (q0 + 3))) <|
    mlet (mst M (q0 + 3) z7.toNatClampNeg 9999) fun M29 =>
    mlet (z7 + 1) fun x30 =>
    m_X7_way_L76 fu q0 y5 y6 n M29 x30)
def m_X7_way_L121 (fu : Nat) (q0 : Nat) (y6 : Int32) : Nat → Mem → Int32 → Int32 → Option (Mem)
  | 0, _, _, _ => none
  | n + 1, M, z7, z8 =>
  if (4 * z7) ≤ z8 then
    (some M)
  else
    (chk (inb (z8 / 4) (alen (q0 + 4))) <|
    cb1 (m_X7_beside fu M (M (q0 + 4) (z8 / 4).toNatClampNeg) (z8 - z8 / 4 * 4)) fun r44 =>
    if r44 = (-1) then
    (mlet (z8 + 1) fun x46 =>
    m_X7_way_L121 fu q0 y6 n M z7 x46)
  else
    (chk (inb r44 (alen (49 + 1))) <|
    if (M (49 + 1) r44.toNatClampNeg) = 0 then
    (chk (inb r44 (alen (q0 + 3))) <|
    if 9999 ≤ (M (q0 + 3) r44.toNatClampNeg) then
    (chk (inb (z8 / 4) (alen (q0 + 4))) <|
    chk (inb (M (q0 + 4) (z8 / 4).toNatClampNeg) (alen (q0 + 3))) <|
    chk (inb r44 (alen (q0 + 3))) <|
    mlet (mst M (q0 + 3) r44.toNatClampNeg ((M (q0 + 3) (M (q0 + 4) (z8 / 4).toNatClampNeg).toNatClampNeg) + 1)) fun M61 =>
    chk (inb z7 (alen (q0 + 4))) <|
    mlet (mst M61 (q0 + 4) z7.toNatClampNeg r44) fun M64 =>
    mlet (z7 + 1) fun x65 =>
    mlet (z8 + 1) fun x66 =>
    m_X7_way_L121 fu q0 y6 n M64 x65 x66)
  else
    (mlet (z8 + 1) fun x67 =>
    m_X7_way_L121 fu q0 y6 n M z7 x67))
  else
    (mlet (z8 + 1) fun x51 =>
    m_X7_way_L121 fu q0 y6 n M z7 x51)))
def m_X7_way (fu : Nat) (M : Mem) (a0 : Nat) (x1 : Int32) (x2 : Int32) (x3 : Int32) (x4 : Int32) : Option (Mem × Int32) :=
  mlet (mst M a0 0 0) fun M6 =>
  cb1 (m_X7_isCell fu M6 x1 x2) fun r8 =>
  if r8 = 0 then
  (cb2 (m_X7_no fu M6 a0 1) fun M12 r11 =>
  some (M12, r11))
else
  (cb1 (m_X7_isCell fu M6 x3 x4) fun r14 =>
  if r14 = 0 then
  (cb2 (m_X7_no fu M6 a0 1) fun M78 r77 =>
  some (M78, r77))
else
  (mlet (((12 * x2) + x1)) fun x16 =>
  mlet (((12 * x4) + x3)) fun x17 =>
  chk (inb x16 (alen (49 + 1))) <|
  if (M6 (49 + 1) x16.toNatClampNeg) = 0 then
  (chk (inb x17 (alen (49 + 1))) <|
  if (M6 (49 + 1) x17.toNatClampNeg) = 0 then
  (cb1 (m_X7_way_L76 fu a0 x16 x17 fu M6 0) <|
  fun M33 =>
  chk (inb x16 (alen (a0 + 3))) <|
  mlet (mst M33 (a0 + 3) x16.toNatClampNeg 0) fun M36 =>
  chk (inb 0 (alen (a0 + 4))) <|
  mlet (mst M36 (a0 + 4) (0 : Int32).toNatClampNeg x16) fun M39 =>
  cb1 (m_X7_way_L121 fu a0 x17 fu M39 1 0) <|
  fun M70 =>
  chk (inb x17 (alen (a0 + 3))) <|
  if (M70 (a0 + 3) x17.toNatClampNeg) = 9999 then
  (some (M70, (-1)))
else
  (chk (inb x17 (alen (a0 + 3))) <|
  some (M70, (M70 (a0 + 3) x17.toNatClampNeg))))
else
  (some (M6, (-1))))
else
  (some (M6, (-1)))))
def m_X7_shuts (fu : Nat) (M : Mem) (a0 : Nat) : Option (Mem × Int32) :=
  mlet (mst M a0 0 0) fun M2 =>
  cb2 (m_X6_shuts fu M2 49) fun M6 r5 =>
  some (M6, r5)
def m_X7_pass_L31 (fu : Nat) (q0 : Nat) (y1 : Int32) (y2 : Int32) : Nat → Mem → Int32 → Option (Mem)
  | 0, _, _ => none
  | n + 1, M, z3 =>
  if y1 ≤ z3 then
    (some M)
  else
    (cb1 (m_X6_pass fu M 49) fun M14 =>
    mlet (z3 + 1) fun x15 =>
    m_X7_pass_L31 fu q0 y1 y2 n M14 x15)
def m_X7_pass (fu : Nat) (M : Mem) (a0 : Nat) (x1 : Int32) : Option (Mem × Int32) :=
  mlet (mst M a0 0 0) fun M3 =>
  cb1 (m_X7_isIn fu M3 x1 1 60) fun r5 =>
  if r5 = 0 then
  (cb2 (m_X7_no fu M3 a0 1) fun M24 r23 =>
  some (M24, r23))
else
  (cb1 (m_X6_allPeople fu M3 49) fun r9 =>
  cb1 (m_X7_pass_L31 fu a0 x1 r9 fu M3 0) <|
  fun M18 =>
  cb1 (m_X6_allPeople fu M18 49) fun r21 =>
  some (M18, (r9 - r21)))
def m_X7_foresee_L49 (fu : Nat) (q0 : Nat) (y1 : Int32) (y2 : Int32) : Nat → Mem → Int32 → Option (Mem)
  | 0, _, _ => none
  | n + 1, M, z3 =>
  if y1 ≤ z3 then
    (some M)
  else
    (cb1 (m_X6_pass fu M 59) fun M20 =>
    mlet (z3 + 1) fun x21 =>
    m_X7_foresee_L49 fu q0 y1 y2 n M20 x21)
def m_X7_foresee (fu : Nat) (M : Mem) (a0 : Nat) (x1 : Int32) (x2 : Int32) : Option (Mem × Int32) :=
  mlet (mst M a0 0 0) fun M4 =>
  cb1 (m_X7_isIn fu M4 x1 1 60) fun r6 =>
  if r6 = 0 then
  (cb2 (m_X7_no fu M4 a0 1) fun M42 r41 =>
  some (M42, r41))
else
  (cb1 (m_X7_isIn fu M4 x2 0 2) fun r9 =>
  if r9 = 0 then
  (cb2 (m_X7_no fu M4 a0 2) fun M39 r38 =>
  some (M39, r38))
else
  (cb1 (m_X6_become fu M4 59 49) fun M15 =>
  cb1 (m_X7_foresee_L49 fu a0 x1 x2 fu M15 0) <|
  fun M24 =>
  if x2 = 0 then
  (cb1 (m_X6_allPeople fu M24 59) fun r36 =>
  some (M24, r36))
else
  (if x2 = 1 then
  (cb1 (m_X6_barricades fu M24 59) fun r33 =>
  some (M24, r33))
else
  (cb2 (m_X6_shuts fu M24 59) fun M30 r29 =>
  some (M30, r29)))))
def m_X7_advise_L42 (fu : Nat) (q0 : Nat) (y1 : Int32) : Nat → Mem → Int32 → Int32 → Int32 → Option (Mem × Int32)
  | 0, _, _, _, _ => none
  | n + 1, M, z2, z3, z4 =>
  if 12 ≤ z4 then
    (some (M, z2))
  else
    (cb1 (m_X6_become fu M 59 49) fun M16 =>
    chk (inb y1 (alen (59 + 5))) <|
    mlet (mst M16 (59 + 5) y1.toNatClampNeg 1) fun M20 =>
    chk (inb (24 * y1) (alen (59 + 6))) <|
    mlet (mst M20 (59 + 6) (24 * y1).toNatClampNeg z4) fun M24 =>
    cb1 (m_X6_pass fu M24 59) fun M28 =>
    cb2 (m_X6_shuts fu M28 59) fun M32 r31 =>
    if r31 < z3 then
    (mlet (z4 + 1) fun x34 =>
    m_X7_advise_L42 fu q0 y1 n M32 z4 r31 x34)
  else
    (mlet (z4 + 1) fun x35 =>
    m_X7_advise_L42 fu q0 y1 n M32 z2 z3 x35))
def m_X7_advise (fu : Nat) (M : Mem) (a0 : Nat) (x1 : Int32) : Option (Mem × Int32) :=
  mlet (mst M a0 0 0) fun M3 =>
  cb1 (m_X7_isCrowd fu M3 a0 x1) fun r5 =>
  if r5 = 0 then
  (cb2 (m_X7_no fu M3 a0 1) fun M42 r41 =>
  some (M42, r41))
else
  (chk (inb x1 (alen (49 + 3))) <|
  if (M3 (49 + 3) x1.toNatClampNeg) = 0 then
  (some (M3, (-1)))
else
  (cb1 (m_X7_advise_L42 fu a0 x1 fu M3 (-1) 9999 0) <|
  up2 fun M38 x39 =>
  some (M38, x39)))
def m_X5_shuts (fu : Nat) (M : Mem) (a0 : Nat) : Option (Mem × Int32) :=
  cb2 (m_X4_fewestToShut fu M 41 (0 + 1)) fun M7 r6 =>
  some (M7, r6)
def m_X5_shutsBehind (fu : Nat) (M : Mem) (a0 : Nat) (x1 : Int32) (x2 : Int32) : Option (Mem × Int32) :=
  cb1 (m_X1_become fu M 20 0) fun M8 =>
  chk (inb x1 6) <|
  mlet (mst M8 (elC (20 + 3) x1) 4 0) fun M13 =>
  chk (inb x1 6) <|
  cb1 (m_X0_addOrder fu M13 (elC (20 + 3) x1) x2) fun M20 =>
  cb1 (m_X1_goOn fu M20 20 1) fun M24 =>
  cb2 (m_X4_fewestToShut fu M24 41 (20 + 1)) fun M30 r29 =>
  some (M30, r29)
def m_X5_digest_L6 (fu : Nat) (M : Mem) (q0 : Nat) : Nat → Int64 → Int32 → Option (Int64)
  | 0, _, _ => none
  | n + 1, z1, z3 =>
  if 8 ≤ z3 then
    (some z1)
  else
    (cb1 (m_X1_total fu M 0 z3) fun r5 =>
    mlet (((z1 * 31) + ((r5 : Int32).toInt64))) fun x6 =>
    mlet (z3 + 1) fun x7 =>
    m_X5_digest_L6 fu M q0 n x6 x7)
def m_X5_digest_L48 (fu : Nat) (M : Mem) (q0 : Nat) : Nat → Int64 → Int32 → Option (Int64)
  | 0, _, _ => none
  | n + 1, z1, z3 =>
  if (M 0 2) ≤ z3 then
    (some z1)
  else
    (chk (inb z3 6) <|
    cb1 (m_X1_addCrowdTo fu M 0 z1 (elC (0 + 3) z3)) fun r23 =>
    mlet (z3 + 1) fun x24 =>
    m_X5_digest_L48 fu M q0 n r23 x24)
def m_X5_digest_L85 (fu : Nat) (M : Mem) (q0 : Nat) : Nat → Int64 → Int32 → Option (Int64)
  | 0, _, _ => none
  | n + 1, z1, z3 =>
  if (M 0 4) ≤ z3 then
    (some z1)
  else
    (chk (inb z3 3) <|
    cb1 (m_X1_addPatrolTo fu M 0 z1 (elP (0 + 4) z3)) fun r36 =>
    mlet (z3 + 1) fun x37 =>
    m_X5_digest_L85 fu M q0 n r36 x37)
def m_X5_digest (fu : Nat) (M : Mem) (a0 : Nat) : Option (Int64) :=
  cb1 (m_X5_digest_L6 fu M a0 fu 997 0) <|
  fun x10 =>
  cb1 (m_X3_addCellsTo fu M (0 + 1) x10) fun r14 =>
  cb1 (m_X5_digest_L48 fu M a0 fu r14 0) <|
  fun x27 =>
  cb1 (m_X5_digest_L85 fu M a0 fu x27 0) <|
  fun x40 =>
  some x40
def m_X5_placeOf (fu : Nat) (M : Mem) (x0 : Int32) (x1 : Int32) : Option (Nat ⊕ (Int32)) :=
  if x0 < 0 then
  (some (Sum.inl 1))
else
  (if 12 ≤ x0 then
  (some (Sum.inl 1))
else
  (if x1 < 0 then
  (some (Sum.inl 1))
else
  (if x1 < 9 then
  (some (Sum.inr ((12 * x1) + x0)))
else
  (some (Sum.inl 1)))))
def m_X5_needCrowd (fu : Nat) (M : Mem) (a0 : Nat) (x1 : Int32) : Option (Nat ⊕ (Unit)) :=
  if x1 < 0 then
  (some (Sum.inl 1))
else
  (if x1 < (M 0 2) then
  (some (Sum.inr ()))
else
  (some (Sum.inl 1)))
def m_X5_needPatrol (fu : Nat) (M : Mem) (a0 : Nat) (x1 : Int32) : Option (Nat ⊕ (Unit)) :=
  if x1 < 0 then
  (some (Sum.inl 1))
else
  (if x1 < (M 0 4) then
  (some (Sum.inr ()))
else
  (some (Sum.inl 1)))
def m_X5_needWhat (fu : Nat) (M : Mem) (x0 : Int32) (x1 : Int32) : Option (Nat ⊕ (Unit)) :=
  if x0 < 0 then
  (some (Sum.inl 1))
else
  (if x0 < x1 then
  (some (Sum.inr ()))
else
  (some (Sum.inl 1)))
def m_X5_needSteps (fu : Nat) (M : Mem) (x0 : Int32) : Option (Nat ⊕ (Unit)) :=
  if x0 < 1 then
  (some (Sum.inl 3))
else
  (if x0 ≤ 60 then
  (some (Sum.inr ()))
else
  (some (Sum.inl 3)))
def m_X5_house (fu : Nat) (M : Mem) (a0 : Nat) (x1 : Int32) (x2 : Int32) : Option (Nat ⊕ (Mem × Int32)) :=
  xb (m_X5_placeOf fu M x1 x2) fun r9 =>
  cb1 (m_X3_at fu M (0 + 1) r9) fun r13 =>
  if 0 < r13 then
  (some (Sum.inl 2))
else
  (cb1 (m_X1_isTaken fu M 0 r9) fun r17 =>
  if r17 = 0 then
  (if r13 = (-1) then
  (cb1 (m_X3_put fu M (0 + 1) r9 0) fun M25 =>
  some (Sum.inr (M25, 0)))
else
  (cb1 (m_X3_put fu M (0 + 1) r9 (-1)) fun M31 =>
  some (Sum.inr (M31, 1))))
else
  (some (Sum.inl 2)))
def m_X5_block (fu : Nat) (M : Mem) (a0 : Nat) (x1 : Int32) (x2 : Int32) (x3 : Int32) : Option (Nat ⊕ (Mem × Int32)) :=
  xb (m_X5_placeOf fu M x1 x2) fun r10 =>
  if x3 < 0 then
  (some (Sum.inl 3))
else
  (if x3 ≤ 3 then
  (cb1 (m_X3_at fu M (0 + 1) r10) fun r16 =>
  if r16 = (-1) then
  (some (Sum.inl 2))
else
  (cb1 (m_X1_isTaken fu M 0 r10) fun r20 =>
  if r20 = 0 then
  (cb1 (m_X3_put fu M (0 + 1) r10 x3) fun M26 =>
  some (Sum.inr (M26, r16)))
else
  (some (Sum.inl 2))))
else
  (some (Sum.inl 3)))
def m_X5_cell (fu : Nat) (M : Mem) (a0 : Nat) (x1 : Int32) (x2 : Int32) : Option (Nat ⊕ (Int32)) :=
  xb (m_X5_placeOf fu M x1 x2) fun r11 =>
  cb1 (m_X3_at fu M (0 + 1) r11) fun r13 =>
  some (Sum.inr r13)
def m_X5_gather (fu : Nat) (M : Mem) (a0 : Nat) (x1 : Int32) (x2 : Int32) (x3 : Int32) : Option (Nat ⊕ (Mem × Int32)) :=
  xb (m_X5_placeOf fu M x1 x2) fun r10 =>
  if x3 < 1 then
  (some (Sum.inl 3))
else
  (if x3 ≤ 9 then
  (if 6 ≤ (M 0 2) then
  (some (Sum.inl 2))
else
  (cb1 (m_X3_isFree fu M (0 + 1) r10) fun r18 =>
  if r18 = 0 then
  (some (Sum.inl 2))
else
  (cb2 (m_X1_addCrowd fu M 0 r10 x3) fun M23 r22 =>
  some (Sum.inr (M23, r22)))))
else
  (some (Sum.inl 3)))
def m_X5_order (fu : Nat) (M : Mem) (a0 : Nat) (x1 : Int32) (x2 : Int32) : Option (Nat ⊕ (Mem × Int32)) :=
  xb (m_X5_needCrowd fu M a0 x1) fun _ =>
  if x2 < 0 then
  (some (Sum.inl 3))
else
  (if x2 < 12 then
  (chk (inb x1 6) <|
  cb1 (m_X0_isScattered fu M (elC (0 + 3) x1)) fun r16 =>
  if r16 = 0 then
  (if (M (elC (0 + 3) x1) 4) < 24 then
  (cb1 (m_X0_addOrder fu M (elC (0 + 3) x1) x2) fun M21 =>
  some (Sum.inr (M21, (M21 (elC (0 + 3) x1) 4))))
else
  (some (Sum.inl 2)))
else
  (some (Sum.inl 2)))
else
  (some (Sum.inl 3)))
def m_X5_torch (fu : Nat) (M : Mem) (a0 : Nat) (x1 : Int32) : Option (Nat ⊕ (Mem × Int32)) :=
  xb (m_X5_needCrowd fu M a0 x1) fun _ =>
  chk (inb x1 6) <|
  cb1 (m_X0_isScattered fu M (elC (0 + 3) x1)) fun r13 =>
  if r13 = 0 then
  (if (M (elC (0 + 3) x1) 2) = 0 then
  (mlet (mst M (elC (0 + 3) x1) 2 1) fun M18 =>
  chk (isb (M18 (elC (0 + 3) x1) 2)) <|
  some (Sum.inr (M18, (M18 (elC (0 + 3) x1) 2))))
else
  (mlet (mst M (elC (0 + 3) x1) 2 0) fun M16 =>
  chk (isb (M16 (elC (0 + 3) x1) 2)) <|
  some (Sum.inr (M16, (M16 (elC (0 + 3) x1) 2)))))
else
  (some (Sum.inl 2))
def m_X5_patrol (fu : Nat) (M : Mem) (a0 : Nat) (x1 : Int32) (x2 : Int32) (x3 : Int32) (x4 : Int32) : Option (Nat ⊕ (Mem × Int32)) :=
  xb (m_X5_placeOf fu M x1 x2) fun r11 =>
  if x3 < 1 then
  (some (Sum.inl 3))
else
  (if 12 < x3 then
  (some (Sum.inl 3))
else
  (if x4 < 0 then
  (some (Sum.inl 3))
else
  (if x4 < (1 <<< ((2 * x3) &&& 31)) then
  (if 3 ≤ (M 0 4) then
  (some (Sum.inl 2))
else
  (cb1 (m_X3_isFree fu M (0 + 1) r11) fun r21 =>
  if r21 = 0 then
  (some (Sum.inl 2))
else
  (cb2 (m_X1_addPatrol fu M 0 r11 x3 x4) fun M26 r25 =>
  some (Sum.inr (M26, r25)))))
else
  (some (Sum.inl 3)))))
def m_X5_crowd (fu : Nat) (M : Mem) (a0 : Nat) (x1 : Int32) (x2 : Int32) : Option (Nat ⊕ (Int32)) :=
  xb (m_X5_needCrowd fu M a0 x1) fun _ =>
  xb (m_X5_needWhat fu M x2 8) fun _ =>
  chk (inb x1 6) <|
  cb1 (m_X1_crowdNumber fu M 0 (elC (0 + 3) x1) x2) fun r20 =>
  some (Sum.inr r20)
def m_X5_guard (fu : Nat) (M : Mem) (a0 : Nat) (x1 : Int32) (x2 : Int32) : Option (Nat ⊕ (Int32)) :=
  xb (m_X5_needPatrol fu M a0 x1) fun _ =>
  xb (m_X5_needWhat fu M x2 4) fun _ =>
  chk (inb x1 3) <|
  cb1 (m_X1_guardNumber fu M 0 (elP (0 + 4) x1) x2) fun r20 =>
  some (Sum.inr r20)
def m_X5_sees (fu : Nat) (M : Mem) (a0 : Nat) (x1 : Int32) (x2 : Int32) : Option (Nat ⊕ (Int32)) :=
  xb (m_X5_needPatrol fu M a0 x1) fun _ =>
  xb (m_X5_needCrowd fu M a0 x2) fun _ =>
  chk (inb x1 3) <|
  chk (inb x2 6) <|
  cb1 (m_X1_isSeen fu M 0 (elP (0 + 4) x1) (elC (0 + 3) x2)) fun r24 =>
  chk (isb r24) <|
  some (Sum.inr r24)
def m_X5_count (fu : Nat) (M : Mem) (a0 : Nat) (x1 : Int32) : Option (Nat ⊕ (Int32)) :=
  xb (m_X5_needWhat fu M x1 8) fun _ =>
  cb1 (m_X1_total fu M 0 x1) fun r10 =>
  some (Sum.inr r10)
def m_X5_way (fu : Nat) (M : Mem) (a0 : Nat) (x1 : Int32) (x2 : Int32) (x3 : Int32) (x4 : Int32) : Option (Nat ⊕ (Mem × Int32)) :=
  xb (m_X5_placeOf fu M x1 x2) fun r14 =>
  xb (m_X5_placeOf fu M x3 x4) fun r20 =>
  cb2 (m_X4_fewestSteps fu M 41 (0 + 1) r14 r20) fun M23 r22 =>
  some (Sum.inr (M23, r22))
def m_X5_pass (fu : Nat) (M : Mem) (a0 : Nat) (x1 : Int32) : Option (Nat ⊕ (Mem × Int32)) :=
  xb (m_X5_needSteps fu M x1) fun _ =>
  cb1 (m_X1_peopleLeft fu M 0) fun r10 =>
  cb1 (m_X1_goOn fu M 0 x1) fun M14 =>
  cb1 (m_X1_peopleLeft fu M14 0) fun r17 =>
  some (Sum.inr (M14, (r10 - r17)))
def m_X5_foresee (fu : Nat) (M : Mem) (a0 : Nat) (x1 : Int32) (x2 : Int32) : Option (Nat ⊕ (Mem × Int32)) :=
  xb (m_X5_needSteps fu M x1) fun _ =>
  xb (m_X5_needWhat fu M x2 3) fun _ =>
  cb1 (m_X1_become fu M 20 0) fun M18 =>
  cb1 (m_X1_goOn fu M18 20 x1) fun M22 =>
  if x2 = 0 then
  (cb1 (m_X1_peopleLeft fu M22 20) fun r26 =>
  some (Sum.inr (M22, r26)))
else if x2 = 1 then
  (cb1 (m_X3_barricades fu M22 (20 + 1)) fun r31 =>
  some (Sum.inr (M22, r31)))
else 
  (cb2 (m_X4_fewestToShut fu M22 41 (20 + 1)) fun M37 r36 =>
  some (Sum.inr (M37, r36)))
def m_X5_advise_L30 (fu : Nat) (q0 : Nat) (y1 : Int32) : Nat → Mem → Int32 → Int32 → Int32 → Option (Mem × Int32)
  | 0, _, _, _, _ => none
  | n + 1, M, z2, z3, z4 =>
  if 12 ≤ z4 then
    (some (M, z2))
  else
    (cb2 (m_X5_shutsBehind fu M q0 y1 z4) fun M18 r17 =>
    if z3 ≤ r17 then
    (mlet (z4 + 1) fun x20 =>
    m_X5_advise_L30 fu q0 y1 n M18 z2 z3 x20)
  else
    (mlet (z4 + 1) fun x21 =>
    m_X5_advise_L30 fu q0 y1 n M18 z4 r17 x21))
def m_X5_advise (fu : Nat) (M : Mem) (a0 : Nat) (x1 : Int32) : Option (Nat ⊕ (Mem × Int32)) :=
  xb (m_X5_needCrowd fu M a0 x1) fun _ =>
  chk (inb x1 6) <|
  cb1 (m_X0_isScattered fu M (elC (0 + 3) x1)) fun r13 =>
  if r13 = 0 then
  (cb1 (m_X5_advise_L30 fu a0 x1 fu M (-1) 108 0) <|
  up2 fun M24 x25 =>
  some (Sum.inr (M24, x25)))
else
  (some (Sum.inr (M, (-1))))
def m_X5_mean (fu : Nat) (M : Mem) (a0 : Nat) : Option (UInt64) :=
  cb1 (m_X1_crowdsLeft fu M 0) fun r4 =>
  if r4 = 0 then
  (some (FP.dconst0))
else
  (cb1 (m_X1_peopleLeft fu M 0) fun r8 =>
  chk (dok (FP.i2d r8) (FP.i2d r4)) <|
  some (FP.ddiv (FP.i2d r8) (FP.i2d r4)))
def m_X7_counted_L24 (fu : Nat) (M : Mem) (q0 : Nat) (y1 : Int32) (y4 : Int32) (q5 : Nat) (y6 : Int32) : Nat → Int32 → Int32 → Int32 → Option (Int32 × Int32)
  | 0, _, _, _ => none
  | n + 1, z2, z3, z7 =>
  if y6 ≤ z7 then
    (some (z2, z3))
  else
    (chk (inb z7 (alen q5)) <|
    mlet ((M q5 z7.toNatClampNeg)) fun x8 =>
    if x8 = (-1) then
    (mlet ((z2 + 1)) fun x16 =>
    if x8 = 0 then
    (mlet ((z3 + 1)) fun x20 =>
    mlet (z7 + 1) fun x21 =>
    m_X7_counted_L24 fu M q0 y1 y4 q5 y6 n x16 x20 x21)
  else
    (mlet ((z3 + 0)) fun x18 =>
    mlet (z7 + 1) fun x19 =>
    m_X7_counted_L24 fu M q0 y1 y4 q5 y6 n x16 x18 x19))
  else
    (mlet ((z2 + 0)) fun x10 =>
    if x8 = 0 then
    (mlet ((z3 + 1)) fun x14 =>
    mlet (z7 + 1) fun x15 =>
    m_X7_counted_L24 fu M q0 y1 y4 q5 y6 n x10 x14 x15)
  else
    (mlet ((z3 + 0)) fun x12 =>
    mlet (z7 + 1) fun x13 =>
    m_X7_counted_L24 fu M q0 y1 y4 q5 y6 n x10 x12 x13)))
def m_X7_counted_L74 (fu : Nat) (M : Mem) (q0 : Nat) (y1 : Int32) (y2 : Int32) (y3 : Int32) : Nat → Int32 → Int32 → Option (Int32)
  | 0, _, _ => none
  | n + 1, z4, z5 =>
  if (M q0 1) ≤ z5 then
    (some z4)
  else
    (chk (inb z5 (alen (49 + 7))) <|
    mlet ((z4 + (M (49 + 7) z5.toNatClampNeg))) fun x30 =>
    mlet (z5 + 1) fun x31 =>
    m_X7_counted_L74 fu M q0 y1 y2 y3 n x30 x31)
def m_X7_counted (fu : Nat) (M : Mem) (a0 : Nat) (x1 : Int32) : Option (Int32) :=
  mlet ((Int32.ofNat (alen (49 + 1)))) fun x5 =>
  cb1 (m_X7_counted_L24 fu M a0 x1 0 (49 + 1) x5 fu 0 0 0) <|
  up2 fun x24 x25 =>
  cb1 (m_X7_counted_L74 fu M a0 x1 x24 x25 fu 0 0) <|
  fun x34 =>
  cb1 (m_X6_barricades fu M 49) fun r39 =>
  cb1 (m_X7_left fu M a0) fun r41 =>
  cb1 (m_X6_allPeople fu M 49) fun r44 =>
  chk (inb x1 8) <|
  some ((upd (upd (upd (upd (upd (upd (upd (upd (fun _ => 0) (0 : Int32).toNatClampNeg (M 49 0)) (1 : Int32).toNatClampNeg x24) (2 : Int32).toNatClampNeg r39) (3 : Int32).toNatClampNeg x25) (4 : Int32).toNatClampNeg r41) (5 : Int32).toNatClampNeg r44) (6 : Int32).toNatClampNeg (M a0 2)) (7 : Int32).toNatClampNeg x34) x1.toNatClampNeg)
def m_X7_count (fu : Nat) (M : Mem) (a0 : Nat) (x1 : Int32) : Option (Mem × Int32) :=
  mlet (mst M a0 0 0) fun M3 =>
  cb1 (m_X7_isIn fu M3 x1 0 7) fun r5 =>
  if r5 = 0 then
  (cb2 (m_X7_no fu M3 a0 1) fun M9 r8 =>
  some (M9, r8))
else
  (cb1 (m_X7_counted fu M3 a0 x1) fun r11 =>
  some (M3, r11))
def m_X7_mean (fu : Nat) (M : Mem) (a0 : Nat) : Option (Mem × UInt64) :=
  mlet (mst M a0 0 0) fun M2 =>
  cb1 (m_X7_left fu M2 a0) fun r4 =>
  if r4 = 0 then
  (some (M2, (FP.dconst0)))
else
  (cb1 (m_X6_allPeople fu M2 49) fun r8 =>
  cb1 (m_X7_left fu M2 a0) fun r10 =>
  chk (dok (FP.i2d r8) (FP.i2d r10)) <|
  some (M2, (FP.ddiv (FP.i2d r8) (FP.i2d r10))))
def m_X7_digest_L38 (fu : Nat) (M : Mem) (q0 : Nat) : Nat → Int64 → Int32 → Option (Int64)
  | 0, _, _ => none
  | n + 1, z1, z3 =>
  if 108 ≤ z3 then
    (some z1)
  else
    (chk (inb z3 (alen (49 + 1))) <|
    mlet (((z1 * 31) + (((M (49 + 1) z3.toNatClampNeg) : Int32).toInt64))) fun x40 =>
    mlet (z3 + 1) fun x41 =>
    m_X7_digest_L38 fu M q0 n x40 x41)
def m_X7_digest_L80 (fu : Nat) (M : Mem) (q0 : Nat) (y3 : Int32) : Nat → Int64 → Int32 → Option (Int64)
  | 0, _, _ => none
  | n + 1, z1, z4 =>
  if 7 < z4 then
    (some z1)
  else
    (cb1 (m_X7_crowdTold fu M q0 y3 z4) fun r48 =>
    mlet (((z1 * 31) + ((r48 : Int32).toInt64))) fun x49 =>
    mlet (z4 + 1) fun x50 =>
    m_X7_digest_L80 fu M q0 y3 n x49 x50)
def m_X7_digest_L111 (fu : Nat) (M : Mem) (q0 : Nat) (y3 : Int32) : Nat → Int64 → Int32 → Option (Int64)
  | 0, _, _ => none
  | n + 1, z1, z4 =>
  chk (inb y3 (alen (49 + 5))) <|
    if (M (49 + 5) y3.toNatClampNeg) ≤ z4 then
    (some z1)
  else
    (chk (inb ((24 * y3) + z4) (alen (49 + 6))) <|
    mlet (((z1 * 31) + (((M (49 + 6) ((24 * y3) + z4).toNatClampNeg) : Int32).toInt64))) fun x61 =>
    mlet (z4 + 1) fun x62 =>
    m_X7_digest_L111 fu M q0 y3 n x61 x62)
def m_X7_digest_L69 (fu : Nat) (M : Mem) (q0 : Nat) : Nat → Int64 → Int32 → Option (Int64)
  | 0, _, _ => none
  | n + 1, z1, z3 =>
  if (M q0 1) ≤ z3 then
    (some z1)
  else
    (cb1 (m_X7_digest_L80 fu M q0 z3 fu z1 0) <|
    fun x53 =>
    cb1 (m_X7_digest_L111 fu M q0 z3 fu x53 0) <|
    fun x65 =>
    mlet (z3 + 1) fun x66 =>
    m_X7_digest_L69 fu M q0 n x65 x66)
def m_X7_digest_L173 (fu : Nat) (M : Mem) (q0 : Nat) (y3 : Int32) : Nat → Int64 → Int32 → Option (Int64)
  | 0, _, _ => none
  | n + 1, z1, z4 =>
  if 3 < z4 then
    (some z1)
  else
    (cb1 (m_X7_guardTold fu M q0 y3 z4) fun r73 =>
    mlet (((z1 * 31) + ((r73 : Int32).toInt64))) fun x74 =>
    mlet (z4 + 1) fun x75 =>
    m_X7_digest_L173 fu M q0 y3 n x74 x75)
def m_X7_digest_L162 (fu : Nat) (M : Mem) (q0 : Nat) : Nat → Int64 → Int32 → Option (Int64)
  | 0, _, _ => none
  | n + 1, z1, z3 =>
  if (M q0 2) ≤ z3 then
    (some z1)
  else
    (cb1 (m_X7_digest_L173 fu M q0 z3 fu z1 0) <|
    fun x78 =>
    mlet (z3 + 1) fun x79 =>
    m_X7_digest_L162 fu M q0 n x78 x79)
def m_X7_digest (fu : Nat) (M : Mem) (a0 : Nat) : Option (Mem × Int64) :=
  mlet (mst M a0 0 0) fun M2 =>
  cb1 (m_X7_counted fu M2 a0 0) fun r5 =>
  mlet (((997 * 31) + ((r5 : Int32).toInt64))) fun x6 =>
  cb1 (m_X7_counted fu M2 a0 1) fun r9 =>
  mlet (((x6 * 31) + ((r9 : Int32).toInt64))) fun x10 =>
  cb1 (m_X7_counted fu M2 a0 2) fun r13 =>
  mlet (((x10 * 31) + ((r13 : Int32).toInt64))) fun x14 =>
  cb1 (m_X7_counted fu M2 a0 3) fun r17 =>
  mlet (((x14 * 31) + ((r17 : Int32).toInt64))) fun x18 =>
  cb1 (m_X7_counted fu M2 a0 4) fun r21 =>
  mlet (((x18 * 31) + ((r21 : Int32).toInt64))) fun x22 =>
  cb1 (m_X7_counted fu M2 a0 5) fun r25 =>
  mlet (((x22 * 31) + ((r25 : Int32).toInt64))) fun x26 =>
  cb1 (m_X7_counted fu M2 a0 6) fun r29 =>
  mlet (((x26 * 31) + ((r29 : Int32).toInt64))) fun x30 =>
  cb1 (m_X7_counted fu M2 a0 7) fun r33 =>
  mlet (((x30 * 31) + ((r33 : Int32).toInt64))) fun x34 =>
  cb1 (m_X7_digest_L38 fu M2 a0 fu x34 0) <|
  fun x44 =>
  cb1 (m_X7_digest_L69 fu M2 a0 fu x44 0) <|
  fun x69 =>
  cb1 (m_X7_digest_L162 fu M2 a0 fu x69 0) <|
  fun x82 =>
  some (M2, x82)
def m_L_house (fu : Nat) (M : Mem) (a0 : Nat) (x1 : Int32) (x2 : Int32) (a3 : Nat) : Option (Mem × Int32) :=
  lb (m_X5_house fu M a0 x1 x2) (fun k11 =>
  if k11 = 1 then
  (some (M, 1))
else if k11 = 2 then
  (some (M, 2))
else none) <|
  up2 fun M13 r10 =>
  if r10 = 0 then
  (mlet (mst M13 a3 0 0) fun M15 =>
  some (M15, 0))
else
  (mlet (mst M13 a3 0 1) fun M16 =>
  some (M16, 0))
def m_L_block (fu : Nat) (M : Mem) (a0 : Nat) (x1 : Int32) (x2 : Int32) (x3 : Int32) (a4 : Nat) : Option (Mem × Int32) :=
  lb (m_X5_block fu M a0 x1 x2 x3) (fun k12 =>
  if k12 = 1 then
  (some (M, 1))
else if k12 = 3 then
  (some (M, 2))
else if k12 = 2 then
  (some (M, 3))
else none) <|
  up2 fun M14 r11 =>
  mlet (mst M14 a4 0 r11) fun M15 =>
  some (M15, 0)
def m_L_cell (fu : Nat) (M : Mem) (a0 : Nat) (x1 : Int32) (x2 : Int32) (a3 : Nat) : Option (Mem × Int32) :=
  lb (m_X5_cell fu M a0 x1 x2) (fun k11 =>
  if k11 = 1 then
  (some (M, 1))
else none) <|
  fun r10 =>
  mlet (mst M a3 0 r10) fun M13 =>
  some (M13, 0)
def m_L_gather (fu : Nat) (M : Mem) (a0 : Nat) (x1 : Int32) (x2 : Int32) (x3 : Int32) (a4 : Nat) : Option (Mem × Int32) :=
  lb (m_X5_gather fu M a0 x1 x2 x3) (fun k12 =>
  if k12 = 1 then
  (some (M, 1))
else if k12 = 3 then
  (some (M, 2))
else if k12 = 2 then
  (some (M, 3))
else none) <|
  up2 fun M14 r11 =>
  mlet (mst M14 a4 0 r11) fun M15 =>
  some (M15, 0)
def m_L_order (fu : Nat) (M : Mem) (a0 : Nat) (x1 : Int32) (x2 : Int32) (a3 : Nat) : Option (Mem × Int32) :=
  lb (m_X5_order fu M a0 x1 x2) (fun k11 =>
  if k11 = 1 then
  (some (M, 1))
else if k11 = 3 then
  (some (M, 2))
else if k11 = 2 then
  (some (M, 3))
else none) <|
  up2 fun M13 r10 =>
  mlet (mst M13 a3 0 r10) fun M14 =>
  some (M14, 0)
def m_L_torch (fu : Nat) (M : Mem) (a0 : Nat) (x1 : Int32) (a2 : Nat) : Option (Mem × Int32) :=
  lb (m_X5_torch fu M a0 x1) (fun k10 =>
  if k10 = 1 then
  (some (M, 1))
else if k10 = 2 then
  (some (M, 2))
else none) <|
  up2 fun M12 r9 =>
  if r9 = 0 then
  (mlet (mst M12 a2 0 0) fun M14 =>
  some (M14, 0))
else
  (mlet (mst M12 a2 0 1) fun M15 =>
  some (M15, 0))
def m_L_patrol (fu : Nat) (M : Mem) (a0 : Nat) (x1 : Int32) (x2 : Int32) (x3 : Int32) (x4 : Int32) (a5 : Nat) : Option (Mem × Int32) :=
  lb (m_X5_patrol fu M a0 x1 x2 x3 x4) (fun k13 =>
  if k13 = 1 then
  (some (M, 1))
else if k13 = 3 then
  (some (M, 2))
else if k13 = 2 then
  (some (M, 3))
else none) <|
  up2 fun M15 r12 =>
  mlet (mst M15 a5 0 r12) fun M16 =>
  some (M16, 0)
def m_L_crowd (fu : Nat) (M : Mem) (a0 : Nat) (x1 : Int32) (x2 : Int32) (a3 : Nat) : Option (Mem × Int32) :=
  lb (m_X5_crowd fu M a0 x1 x2) (fun k11 =>
  if k11 = 1 then
  (some (M, 1))
else none) <|
  fun r10 =>
  mlet (mst M a3 0 r10) fun M13 =>
  some (M13, 0)
def m_L_guard (fu : Nat) (M : Mem) (a0 : Nat) (x1 : Int32) (x2 : Int32) (a3 : Nat) : Option (Mem × Int32) :=
  lb (m_X5_guard fu M a0 x1 x2) (fun k11 =>
  if k11 = 1 then
  (some (M, 1))
else none) <|
  fun r10 =>
  mlet (mst M a3 0 r10) fun M13 =>
  some (M13, 0)
def m_L_sees (fu : Nat) (M : Mem) (a0 : Nat) (x1 : Int32) (x2 : Int32) (a3 : Nat) : Option (Mem × Int32) :=
  lb (m_X5_sees fu M a0 x1 x2) (fun k11 =>
  if k11 = 1 then
  (some (M, 1))
else none) <|
  fun r10 =>
  if r10 = 0 then
  (mlet (mst M a3 0 0) fun M14 =>
  some (M14, 0))
else
  (mlet (mst M a3 0 1) fun M15 =>
  some (M15, 0))
def m_L_count (fu : Nat) (M : Mem) (a0 : Nat) (x1 : Int32) (a2 : Nat) : Option (Mem × Int32) :=
  lb (m_X5_count fu M a0 x1) (fun k10 =>
  if k10 = 1 then
  (some (M, 1))
else none) <|
  fun r9 =>
  mlet (mst M a2 0 r9) fun M12 =>
  some (M12, 0)
def m_L_way (fu : Nat) (M : Mem) (a0 : Nat) (x1 : Int32) (x2 : Int32) (x3 : Int32) (x4 : Int32) (a5 : Nat) : Option (Mem × Int32) :=
  lb (m_X5_way fu M a0 x1 x2 x3 x4) (fun k13 =>
  if k13 = 1 then
  (some (M, 1))
else none) <|
  up2 fun M15 r12 =>
  mlet (mst M15 a5 0 r12) fun M16 =>
  some (M16, 0)
def m_L_pass (fu : Nat) (M : Mem) (a0 : Nat) (x1 : Int32) (a2 : Nat) : Option (Mem × Int32) :=
  lb (m_X5_pass fu M a0 x1) (fun k10 =>
  if k10 = 3 then
  (some (M, 1))
else none) <|
  up2 fun M12 r9 =>
  mlet (mst M12 a2 0 r9) fun M13 =>
  some (M13, 0)
def m_L_foresee (fu : Nat) (M : Mem) (a0 : Nat) (x1 : Int32) (x2 : Int32) (a3 : Nat) : Option (Mem × Int32) :=
  lb (m_X5_foresee fu M a0 x1 x2) (fun k11 =>
  if k11 = 3 then
  (some (M, 1))
else if k11 = 1 then
  (some (M, 2))
else none) <|
  up2 fun M13 r10 =>
  mlet (mst M13 a3 0 r10) fun M14 =>
  some (M14, 0)
def m_L_advise (fu : Nat) (M : Mem) (a0 : Nat) (x1 : Int32) (a2 : Nat) : Option (Mem × Int32) :=
  lb (m_X5_advise fu M a0 x1) (fun k10 =>
  if k10 = 1 then
  (some (M, 1))
else none) <|
  up2 fun M12 r9 =>
  mlet (mst M12 a2 0 r9) fun M13 =>
  some (M13, 0)

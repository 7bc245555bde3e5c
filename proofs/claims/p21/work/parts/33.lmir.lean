/-! ===== the law: its own long methods, as functions; words ===== -/
def up5 {A B C E G J : Type} (f : A → B → C → E → G → J) (p : A × B × C × E × G) : J := f p.1 p.2.1 p.2.2.1 p.2.2.2.1 p.2.2.2.2
theorem up5_e {A B C E G J : Type} {f : A → B → C → E → G → J} {a : A} {b : B} {c : C} {d : E} {k : G} {z : J} (h : up5 f (a, b, c, d, k) = z) : f a b c d k = z := h
theorem kw141 {args : Array Value} {s : State} (h : KD s) : (Cond.methodLink RL 77 yX5_guard).before args s = true := va_Nw.use rfl (h _ (List.mem_append_right _ (List.mem_of_getElem? (i := 141) (by decide +kernel))) rfl)
theorem kw142 {args : Array Value} {s : State} (h : KD s) : (Cond.instanceMethod yX5_guard).before args s = true := va_Nw.use rfl (h _ (List.mem_append_right _ (List.mem_of_getElem? (i := 142) (by decide +kernel))) rfl)
theorem kw143 {args : Array Value} {s : State} (h : KD s) : (Cond.selects RX5 yX5_guard yX5_guard).before args s = true := va_Nw.use rfl (h _ (List.mem_append_right _ (List.mem_of_getElem? (i := 143) (by decide +kernel))) rfl)
theorem kw144 {args : Array Value} {s : State} (h : KD s) : (Cond.code yX5_guard cX5_guard 3 (some .int)).before args s = true := va_Nw.use rfl (h _ (List.mem_append_right _ (List.mem_of_getElem? (i := 144) (by decide +kernel))) rfl)
theorem kw163 {args : Array Value} {s : State} (h : KD s) : (Cond.methodLink RL 32 yX5_count).before args s = true := va_Nw.use rfl (h _ (List.mem_append_right _ (List.mem_of_getElem? (i := 163) (by decide +kernel))) rfl)
theorem kw164 {args : Array Value} {s : State} (h : KD s) : (Cond.instanceMethod yX5_count).before args s = true := va_Nw.use rfl (h _ (List.mem_append_right _ (List.mem_of_getElem? (i := 164) (by decide +kernel))) rfl)
theorem kw165 {args : Array Value} {s : State} (h : KD s) : (Cond.selects RX5 yX5_count yX5_count).before args s = true := va_Nw.use rfl (h _ (List.mem_append_right _ (List.mem_of_getElem? (i := 165) (by decide +kernel))) rfl)
theorem kw166 {args : Array Value} {s : State} (h : KD s) : (Cond.code yX5_count cX5_count 2 (some .int)).before args s = true := va_Nw.use rfl (h _ (List.mem_append_right _ (List.mem_of_getElem? (i := 166) (by decide +kernel))) rfl)
theorem kw191 {args : Array Value} {s : State} (h : KD s) : (Cond.methodLink RL 109 yX5_way).before args s = true := va_Nw.use rfl (h _ (List.mem_append_right _ (List.mem_of_getElem? (i := 191) (by decide +kernel))) rfl)
theorem kw192 {args : Array Value} {s : State} (h : KD s) : (Cond.instanceMethod yX5_way).before args s = true := va_Nw.use rfl (h _ (List.mem_append_right _ (List.mem_of_getElem? (i := 192) (by decide +kernel))) rfl)
theorem kw193 {args : Array Value} {s : State} (h : KD s) : (Cond.selects RX5 yX5_way yX5_way).before args s = true := va_Nw.use rfl (h _ (List.mem_append_right _ (List.mem_of_getElem? (i := 193) (by decide +kernel))) rfl)
theorem kw194 {args : Array Value} {s : State} (h : KD s) : (Cond.code yX5_way cX5_way 5 (some .int)).before args s = true := va_Nw.use rfl (h _ (List.mem_append_right _ (List.mem_of_getElem? (i := 194) (by decide +kernel))) rfl)
theorem kw219 {args : Array Value} {s : State} (h : KD s) : (Cond.methodLink RL 87 yX5_shuts).before args s = true := va_Nw.use rfl (h _ (List.mem_append_right _ (List.mem_of_getElem? (i := 219) (by decide +kernel))) rfl)
theorem kw220 {args : Array Value} {s : State} (h : KD s) : (Cond.instanceMethod yX5_shuts).before args s = true := va_Nw.use rfl (h _ (List.mem_append_right _ (List.mem_of_getElem? (i := 220) (by decide +kernel))) rfl)
theorem kw221 {args : Array Value} {s : State} (h : KD s) : (Cond.selects RX5 yX5_shuts yX5_shuts).before args s = true := va_Nw.use rfl (h _ (List.mem_append_right _ (List.mem_of_getElem? (i := 221) (by decide +kernel))) rfl)
theorem kw222 {args : Array Value} {s : State} (h : KD s) : (Cond.code yX5_shuts cX5_shuts 1 (some .int)).before args s = true := va_Nw.use rfl (h _ (List.mem_append_right _ (List.mem_of_getElem? (i := 222) (by decide +kernel))) rfl)
theorem kw243 {args : Array Value} {s : State} (h : KD s) : (Cond.methodLink RL 51 yX5_pass).before args s = true := va_Nw.use rfl (h _ (List.mem_append_right _ (List.mem_of_getElem? (i := 243) (by decide +kernel))) rfl)
theorem kw244 {args : Array Value} {s : State} (h : KD s) : (Cond.instanceMethod yX5_pass).before args s = true := va_Nw.use rfl (h _ (List.mem_append_right _ (List.mem_of_getElem? (i := 244) (by decide +kernel))) rfl)
theorem kw245 {args : Array Value} {s : State} (h : KD s) : (Cond.selects RX5 yX5_pass yX5_pass).before args s = true := va_Nw.use rfl (h _ (List.mem_append_right _ (List.mem_of_getElem? (i := 245) (by decide +kernel))) rfl)
theorem kw246 {args : Array Value} {s : State} (h : KD s) : (Cond.code yX5_pass cX5_pass 3 (some .int)).before args s = true := va_Nw.use rfl (h _ (List.mem_append_right _ (List.mem_of_getElem? (i := 246) (by decide +kernel))) rfl)
theorem kw319 {args : Array Value} {s : State} (h : KD s) : (Cond.methodLink RL 84 yX5_foresee).before args s = true := va_Nw.use rfl (h _ (List.mem_append_right _ (List.mem_of_getElem? (i := 319) (by decide +kernel))) rfl)
theorem kw320 {args : Array Value} {s : State} (h : KD s) : (Cond.instanceMethod yX5_foresee).before args s = true := va_Nw.use rfl (h _ (List.mem_append_right _ (List.mem_of_getElem? (i := 320) (by decide +kernel))) rfl)
theorem kw321 {args : Array Value} {s : State} (h : KD s) : (Cond.selects RX5 yX5_foresee yX5_foresee).before args s = true := va_Nw.use rfl (h _ (List.mem_append_right _ (List.mem_of_getElem? (i := 321) (by decide +kernel))) rfl)
theorem kw322 {args : Array Value} {s : State} (h : KD s) : (Cond.code yX5_foresee cX5_foresee 3 (some .int)).before args s = true := va_Nw.use rfl (h _ (List.mem_append_right _ (List.mem_of_getElem? (i := 322) (by decide +kernel))) rfl)
theorem kw341 {args : Array Value} {s : State} (h : KD s) : (Cond.methodLink RL 91 yX5_advise).before args s = true := va_Nw.use rfl (h _ (List.mem_append_right _ (List.mem_of_getElem? (i := 341) (by decide +kernel))) rfl)
theorem kw342 {args : Array Value} {s : State} (h : KD s) : (Cond.instanceMethod yX5_advise).before args s = true := va_Nw.use rfl (h _ (List.mem_append_right _ (List.mem_of_getElem? (i := 342) (by decide +kernel))) rfl)
theorem kw343 {args : Array Value} {s : State} (h : KD s) : (Cond.selects RX5 yX5_advise yX5_advise).before args s = true := va_Nw.use rfl (h _ (List.mem_append_right _ (List.mem_of_getElem? (i := 343) (by decide +kernel))) rfl)
theorem kw344 {args : Array Value} {s : State} (h : KD s) : (Cond.code yX5_advise cX5_advise 6 (some .int)).before args s = true := va_Nw.use rfl (h _ (List.mem_append_right _ (List.mem_of_getElem? (i := 344) (by decide +kernel))) rfl)
theorem kw354 {args : Array Value} {s : State} (h : KD s) : (Cond.methodLink RL 80 yX5_digest).before args s = true := va_Nw.use rfl (h _ (List.mem_append_right _ (List.mem_of_getElem? (i := 354) (by decide +kernel))) rfl)
theorem kw355 {args : Array Value} {s : State} (h : KD s) : (Cond.instanceMethod yX5_digest).before args s = true := va_Nw.use rfl (h _ (List.mem_append_right _ (List.mem_of_getElem? (i := 355) (by decide +kernel))) rfl)
theorem kw356 {args : Array Value} {s : State} (h : KD s) : (Cond.selects RX5 yX5_digest yX5_digest).before args s = true := va_Nw.use rfl (h _ (List.mem_append_right _ (List.mem_of_getElem? (i := 356) (by decide +kernel))) rfl)
theorem kw357 {args : Array Value} {s : State} (h : KD s) : (Cond.code yX5_digest cX5_digest 4 (some .long)).before args s = true := va_Nw.use rfl (h _ (List.mem_append_right _ (List.mem_of_getElem? (i := 357) (by decide +kernel))) rfl)
theorem kw381 {args : Array Value} {s : State} (h : KD s) : (Cond.methodLink RL 18 yL_below).before args s = true := va_Nw.use rfl (h _ (List.mem_append_right _ (List.mem_of_getElem? (i := 381) (by decide +kernel))) rfl)
theorem kw382 {args : Array Value} {s : State} (h : KD s) : (Cond.static yL_below).before args s = true := va_Nw.use rfl (h _ (List.mem_append_right _ (List.mem_of_getElem? (i := 382) (by decide +kernel))) rfl)
theorem kw383 {args : Array Value} {s : State} (h : KD s) : (Cond.code yL_below cL_below 2 (some .int)).before args s = true := va_Nw.use rfl (h _ (List.mem_append_right _ (List.mem_of_getElem? (i := 383) (by decide +kernel))) rfl)
theorem kw385 {args : Array Value} {s : State} (h : KD s) : (Cond.methodLink RL 12 yL_cell).before args s = true := va_Nw.use rfl (h _ (List.mem_append_right _ (List.mem_of_getElem? (i := 385) (by decide +kernel))) rfl)
theorem kw386 {args : Array Value} {s : State} (h : KD s) : (Cond.static yL_cell).before args s = true := va_Nw.use rfl (h _ (List.mem_append_right _ (List.mem_of_getElem? (i := 386) (by decide +kernel))) rfl)
theorem kw387 {args : Array Value} {s : State} (h : KD s) : (Cond.code yL_cell cL_cell 2 (some .int)).before args s = true := va_Nw.use rfl (h _ (List.mem_append_right _ (List.mem_of_getElem? (i := 387) (by decide +kernel))) rfl)
theorem kw518 {args : Array Value} {s : State} (h : KD s) : (Cond.methodLink RL 24 yX5_house).before args s = true := va_Nw.use rfl (h _ (List.mem_append_right _ (List.mem_of_getElem? (i := 518) (by decide +kernel))) rfl)
theorem kw519 {args : Array Value} {s : State} (h : KD s) : (Cond.instanceMethod yX5_house).before args s = true := va_Nw.use rfl (h _ (List.mem_append_right _ (List.mem_of_getElem? (i := 519) (by decide +kernel))) rfl)
theorem kw520 {args : Array Value} {s : State} (h : KD s) : (Cond.selects RX5 yX5_house yX5_house).before args s = true := va_Nw.use rfl (h _ (List.mem_append_right _ (List.mem_of_getElem? (i := 520) (by decide +kernel))) rfl)
theorem kw521 {args : Array Value} {s : State} (h : KD s) : (Cond.code yX5_house cX5_house 6 (some .boolean)).before args s = true := va_Nw.use rfl (h _ (List.mem_append_right _ (List.mem_of_getElem? (i := 521) (by decide +kernel))) rfl)
theorem kw540 {args : Array Value} {s : State} (h : KD s) : (Cond.methodLink RL 28 yX5_block).before args s = true := va_Nw.use rfl (h _ (List.mem_append_right _ (List.mem_of_getElem? (i := 540) (by decide +kernel))) rfl)
theorem kw541 {args : Array Value} {s : State} (h : KD s) : (Cond.instanceMethod yX5_block).before args s = true := va_Nw.use rfl (h _ (List.mem_append_right _ (List.mem_of_getElem? (i := 541) (by decide +kernel))) rfl)
theorem kw542 {args : Array Value} {s : State} (h : KD s) : (Cond.selects RX5 yX5_block yX5_block).before args s = true := va_Nw.use rfl (h _ (List.mem_append_right _ (List.mem_of_getElem? (i := 542) (by decide +kernel))) rfl)
theorem kw543 {args : Array Value} {s : State} (h : KD s) : (Cond.code yX5_block cX5_block 6 (some .int)).before args s = true := va_Nw.use rfl (h _ (List.mem_append_right _ (List.mem_of_getElem? (i := 543) (by decide +kernel))) rfl)
theorem kw546 {args : Array Value} {s : State} (h : KD s) : (Cond.methodLink RL 36 yL_gather).before args s = true := va_Nw.use rfl (h _ (List.mem_append_right _ (List.mem_of_getElem? (i := 546) (by decide +kernel))) rfl)
theorem kw547 {args : Array Value} {s : State} (h : KD s) : (Cond.static yL_gather).before args s = true := va_Nw.use rfl (h _ (List.mem_append_right _ (List.mem_of_getElem? (i := 547) (by decide +kernel))) rfl)
theorem kw548 {args : Array Value} {s : State} (h : KD s) : (Cond.codeWith yL_gather cL_gather 5 (some .int) [(0, 7, 8, 56)]).before args s = true := va_Nw.use rfl (h _ (List.mem_append_right _ (List.mem_of_getElem? (i := 548) (by decide +kernel))) rfl)
theorem kw561 {args : Array Value} {s : State} (h : KD s) : (Cond.methodLink RL 40 yL_patrol).before args s = true := va_Nw.use rfl (h _ (List.mem_append_right _ (List.mem_of_getElem? (i := 561) (by decide +kernel))) rfl)
theorem kw562 {args : Array Value} {s : State} (h : KD s) : (Cond.static yL_patrol).before args s = true := va_Nw.use rfl (h _ (List.mem_append_right _ (List.mem_of_getElem? (i := 562) (by decide +kernel))) rfl)
theorem kw563 {args : Array Value} {s : State} (h : KD s) : (Cond.codeWith yL_patrol cL_patrol 6 (some .int) [(0, 9, 10, 56)]).before args s = true := va_Nw.use rfl (h _ (List.mem_append_right _ (List.mem_of_getElem? (i := 563) (by decide +kernel))) rfl)
theorem kw580 {args : Array Value} {s : State} (h : KD s) : (Cond.methodLink RL 47 yX5_torch).before args s = true := va_Nw.use rfl (h _ (List.mem_append_right _ (List.mem_of_getElem? (i := 580) (by decide +kernel))) rfl)
theorem kw581 {args : Array Value} {s : State} (h : KD s) : (Cond.instanceMethod yX5_torch).before args s = true := va_Nw.use rfl (h _ (List.mem_append_right _ (List.mem_of_getElem? (i := 581) (by decide +kernel))) rfl)
theorem kw582 {args : Array Value} {s : State} (h : KD s) : (Cond.selects RX5 yX5_torch yX5_torch).before args s = true := va_Nw.use rfl (h _ (List.mem_append_right _ (List.mem_of_getElem? (i := 582) (by decide +kernel))) rfl)
theorem kw583 {args : Array Value} {s : State} (h : KD s) : (Cond.code yX5_torch cX5_torch 3 (some .boolean)).before args s = true := va_Nw.use rfl (h _ (List.mem_append_right _ (List.mem_of_getElem? (i := 583) (by decide +kernel))) rfl)
theorem kw585 {args : Array Value} {s : State} (h : KD s) : (Cond.methodLink RL 72 yL_order).before args s = true := va_Nw.use rfl (h _ (List.mem_append_right _ (List.mem_of_getElem? (i := 585) (by decide +kernel))) rfl)
theorem kw586 {args : Array Value} {s : State} (h : KD s) : (Cond.static yL_order).before args s = true := va_Nw.use rfl (h _ (List.mem_append_right _ (List.mem_of_getElem? (i := 586) (by decide +kernel))) rfl)
theorem kw587 {args : Array Value} {s : State} (h : KD s) : (Cond.codeWith yL_order cL_order 4 (some .int) [(0, 6, 7, 56)]).before args s = true := va_Nw.use rfl (h _ (List.mem_append_right _ (List.mem_of_getElem? (i := 587) (by decide +kernel))) rfl)
theorem kw588 {args : Array Value} {s : State} (h : KD s) : (Cond.methodLink RL 65 yL_isThere).before args s = true := va_Nw.use rfl (h _ (List.mem_append_right _ (List.mem_of_getElem? (i := 588) (by decide +kernel))) rfl)
theorem kw589 {args : Array Value} {s : State} (h : KD s) : (Cond.static yL_isThere).before args s = true := va_Nw.use rfl (h _ (List.mem_append_right _ (List.mem_of_getElem? (i := 589) (by decide +kernel))) rfl)
theorem kw590 {args : Array Value} {s : State} (h : KD s) : (Cond.codeWith yL_isThere cL_isThere 3 (some .boolean) [(0, 14, 15, 112)]).before args s = true := va_Nw.use rfl (h _ (List.mem_append_right _ (List.mem_of_getElem? (i := 590) (by decide +kernel))) rfl)
theorem kw592 {args : Array Value} {s : State} (h : KD s) : (Cond.methodLink RL 105 yL_isFree).before args s = true := va_Nw.use rfl (h _ (List.mem_append_right _ (List.mem_of_getElem? (i := 592) (by decide +kernel))) rfl)
theorem kw593 {args : Array Value} {s : State} (h : KD s) : (Cond.static yL_isFree).before args s = true := va_Nw.use rfl (h _ (List.mem_append_right _ (List.mem_of_getElem? (i := 593) (by decide +kernel))) rfl)
theorem kw594 {args : Array Value} {s : State} (h : KD s) : (Cond.code yL_isFree cL_isFree 3 (some .boolean)).before args s = true := va_Nw.use rfl (h _ (List.mem_append_right _ (List.mem_of_getElem? (i := 594) (by decide +kernel))) rfl)
theorem kw595 {args : Array Value} {s : State} (h : KD s) : (Cond.methodLink RL 99 yL_seen).before args s = true := va_Nw.use rfl (h _ (List.mem_append_right _ (List.mem_of_getElem? (i := 595) (by decide +kernel))) rfl)
theorem kw596 {args : Array Value} {s : State} (h : KD s) : (Cond.static yL_seen).before args s = true := va_Nw.use rfl (h _ (List.mem_append_right _ (List.mem_of_getElem? (i := 596) (by decide +kernel))) rfl)
theorem kw597 {args : Array Value} {s : State} (h : KD s) : (Cond.code yL_seen cL_seen 6 (some .int)).before args s = true := va_Nw.use rfl (h _ (List.mem_append_right _ (List.mem_of_getElem? (i := 597) (by decide +kernel))) rfl)
theorem kw603 {args : Array Value} {s : State} (h : KD s) : (Cond.methodLink RL 94 Lib.Math.abs.name).before args s = true := va_Nw.use rfl (h _ (List.mem_append_right _ (List.mem_of_getElem? (i := 603) (by decide +kernel))) rfl)
theorem kw604 {args : Array Value} {s : State} (h : KD s) : (Cond.methodLink RL 102 Lib.Math.max.name).before args s = true := va_Nw.use rfl (h _ (List.mem_append_right _ (List.mem_of_getElem? (i := 604) (by decide +kernel))) rfl)
def m_Q0_L21 (fu : Nat) (sc : Int32 → Int32) (nc np : Nat) (X : Mem) (y2 : Int32) : Nat → Mem → Int32 → Option (Mem)
  | 0, _, _ => none
  | n + 1, M, z3 =>
  if y2 ≤ z3 then
    (some M)
  else
    (cb1 (m_L_cell sc (1 + (z3 - z3 / 3 * 3))) fun r7 =>
    mlet (((r7 >>> ((z3 / 3) &&& 31)) + (53 * z3))) fun x8 =>
    cb1 (m_L_below fu M x8 12) fun r10 =>
    cb1 (m_L_below fu M (x8 >>> (4 &&& 31)) 9) fun r12 =>
    nbd (m_X5_cell fu M 40 r10 r12) fun r14 =>
    cb1 (if r14 = 0 then
    (cb1 (m_L_below fu M x8 12) fun r20 =>
    cb1 (m_L_below fu M (x8 >>> (4 &&& 31)) 9) fun r22 =>
    nbd (m_X5_house fu M 40 r20 r22) <| up2 fun M25 r24 =>
    some M25)
  else
    (some M)) fun M26 =>
    mlet (z3 + 1) fun x27 =>
    m_Q0_L21 fu sc nc np X y2 n M26 x27)
def m_Q0_L113 (fu : Nat) (sc : Int32 → Int32) (nc np : Nat) (X : Mem) (y3 : Int32) : Nat → Mem → Int32 → Option (Mem)
  | 0, _, _ => none
  | n + 1, M, z4 =>
  if y3 ≤ z4 then
    (some M)
  else
    (cb1 (m_L_cell sc (4 + (z4 - z4 / 3 * 3))) fun r37 =>
    mlet (((r37 >>> ((z4 / 3) &&& 31)) + (71 * z4))) fun x38 =>
    cb1 (m_L_below fu M x38 12) fun r40 =>
    cb1 (m_L_below fu M (x38 >>> (4 &&& 31)) 9) fun r42 =>
    nbd (m_X5_cell fu M 40 r40 r42) fun r44 =>
    cb1 (if r44 < 0 then
    (some M)
  else
    (cb1 (m_L_below fu M x38 12) fun r50 =>
    cb1 (m_L_below fu M (x38 >>> (4 &&& 31)) 9) fun r52 =>
    cb1 (m_L_below fu M (x38 >>> (3 &&& 31)) 3) fun r54 =>
    nbd (m_X5_block fu M 40 r50 r52 (1 + r54)) <| up2 fun M57 r56 =>
    some M57)) fun M58 =>
    mlet (z4 + 1) fun x59 =>
    m_Q0_L113 fu sc nc np X y3 n M58 x59)
def m_Q0_L218 (fu : Nat) (sc : Int32 → Int32) (nc np : Nat) (X : Mem) (y4 : Int32) : Nat → Mem → Int32 → Option (Mem)
  | 0, _, _ => none
  | n + 1, M, z5 =>
  if (3 * y4) ≤ z5 then
    (some M)
  else
    (nbd (m_X5_count fu M 40 4) fun r69 =>
    if y4 ≤ r69 then
    (some M)
  else
    (cb1 (m_L_cell sc (8 + (z5 - z5 / 3 * 3))) fun r72 =>
    mlet ((r72 >>> (((z5 / 3) * 3) &&& 31))) fun x73 =>
    cb1 (m_L_below fu M x73 12) fun r75 =>
    cb1 (m_L_below fu M (x73 >>> (4 &&& 31)) 9) fun r77 =>
    cb1 (m_L_below fu M (x73 >>> (2 &&& 31)) 9) fun r79 =>
    cb2 (m_L_gather fu M 40 r75 r77 (1 + r79)) fun M82 r81 =>
    mlet (z5 + 1) fun x85 =>
    m_Q0_L218 fu sc nc np X y4 n M82 x85))
def m_Q0_L312 (fu : Nat) (sc : Int32 → Int32) (nc np : Nat) (X : Mem) (y5 : Int32) : Nat → Mem → Int32 → Option (Mem)
  | 0, _, _ => none
  | n + 1, M, z6 =>
  if y5 ≤ z6 then
    (some M)
  else
    (cb1 (m_L_cell sc 11) fun r97 =>
    mlet ((r97 >>> ((4 * z6) &&& 31))) fun x98 =>
    cb1 (m_L_below fu M (x98 >>> (3 &&& 31)) 12) fun r100 =>
    mlet ((1 + r100)) fun x101 =>
    cb1 (m_L_below fu M x98 12) fun r103 =>
    cb1 (m_L_below fu M (x98 >>> (5 &&& 31)) 9) fun r105 =>
    cb1 (m_L_cell sc 12) fun r107 =>
    cb2 (m_L_patrol fu M 40 r103 r105 x101 ((r107 >>> (z6 &&& 31)) &&& ((1 <<< ((2 * x101) &&& 31)) - 1))) fun M110 r109 =>
    mlet (z6 + 1) fun x113 =>
    m_Q0_L312 fu sc nc np X y5 n M110 x113)
def m_Q0_L432 (fu : Nat) (sc : Int32 → Int32) (nc np : Nat) (X : Mem) (y6 : Int32) (y7 : Int32) : Nat → Mem → Int32 → Option (Mem)
  | 0, _, _ => none
  | n + 1, M, z8 =>
  if z8 ≤ 0 then
    (some M)
  else
    (cb1 (m_L_below fu M (y7 >>> (z8 &&& 31)) 3) fun r129 =>
    cb1 (if r129 = 0 then
    (cb1 (m_L_below fu M (y7 >>> ((1 + z8) &&& 31)) 12) fun r137 =>
    some r137)
  else
    (cb1 (m_L_below fu M (y7 >>> ((2 + z8) &&& 31)) 4) fun r135 =>
    some r135)) fun o130 =>
    nbd (m_X5_order fu M 40 y6 o130) <| up2 fun M140 r139 =>
    mlet (z8 + (-1)) fun x141 =>
    m_Q0_L432 fu sc nc np X y6 y7 n M140 x141)
def m_Q0_L395 (fu : Nat) (sc : Int32 → Int32) (nc np : Nat) (X : Mem) : Nat → Mem → Int32 → Option (Mem)
  | 0, _, _ => none
  | n + 1, M, z6 =>
  nbd (m_X5_count fu M 40 4) fun r120 =>
    if r120 ≤ z6 then
    (some M)
  else
    (cb1 (m_L_cell sc (13 + (z6 - z6 / 3 * 3))) fun r123 =>
    mlet ((r123 >>> ((z6 / 3) &&& 31))) fun x124 =>
    cb1 (m_L_below fu M x124 16) fun r126 =>
    cb1 (m_Q0_L432 fu sc nc np X z6 x124 fu M r126) <|
    fun M144 =>
    cb1 (m_L_below fu M144 (x124 >>> (5 &&& 31)) 3) fun r146 =>
    cb1 (if r146 = 0 then
    (nbd (m_X5_torch fu M144 40 z6) <| up2 fun M153 r152 =>
    some M153)
  else
    (some M144)) fun M154 =>
    mlet (z6 + 1) fun x155 =>
    m_Q0_L395 fu sc nc np X n M154 x155)
def m_Q0 (fu : Nat) (sc : Int32 → Int32) (nc np : Nat) (M X : Mem) : Option (Mem) :=
  cb1 (m_L_cell sc 0) fun r2 =>
  cb1 (m_L_below fu M r2 40) fun r4 =>
  cb1 (m_Q0_L21 fu sc nc np X r4 fu M 0) <|
  fun M30 =>
  cb1 (m_L_cell sc 0) fun r32 =>
  cb1 (m_L_below fu M30 (r32 >>> (6 &&& 31)) 30) fun r34 =>
  cb1 (m_Q0_L113 fu sc nc np X r34 fu M30 0) <|
  fun M62 =>
  cb1 (m_L_cell sc 7) fun r64 =>
  cb1 (m_L_below fu M62 r64 7) fun r66 =>
  cb1 (m_Q0_L218 fu sc nc np X r66 20 M62 0) <|
  fun M88 =>
  cb1 (m_L_cell sc 7) fun r92 =>
  cb1 (m_L_below fu M88 (r92 >>> (4 &&& 31)) 4) fun r94 =>
  cb1 (m_Q0_L312 fu sc nc np X r94 5 M88 0) <|
  fun M116 =>
  cb1 (m_Q0_L395 fu sc nc np X fu M116 0) <|
  fun M158 =>
  cb1 (m_L_cell sc 15) fun r160 =>
  cb1 (m_L_below fu M158 r160 2) fun r162 =>
  if r162 = 0 then
  (cb1 (m_L_cell sc 15) fun r165 =>
  cb1 (m_L_below fu M158 (r165 >>> (2 &&& 31)) 6) fun r167 =>
  nbd (m_X5_pass fu M158 40 (1 + r167)) <| up2 fun M170 r169 =>
  some M170)
else
  (some M158)
def m_S0_L7 (fu : Nat) (sc : Int32 → Int32) (nc np : Nat) (X : Mem) : Nat → Mem → Int32 → Option (Mem × Int32)
  | 0, _, _ => none
  | n + 1, M, z2 =>
  if 6 ≤ z2 then
    (some (M, z2))
  else
    (cb2 (m_L_isThere fu M 40 z2) fun M4 r3 =>
    if r3 = 0 then
    (some (M4, z2))
  else
    (mlet (z2 + 1) fun x8 =>
    m_S0_L7 fu sc nc np X n M4 x8))
def m_S0 (fu : Nat) (sc : Int32 → Int32) (nc np : Nat) (M X : Mem) : Option (Mem × Int32 × Int32) :=
  cb1 (m_S0_L7 fu sc nc np X 8 M 0) <|
  up2 fun M11 x12 =>
  nbd (m_X5_count fu M11 40 6) fun r16 =>
  some (M11, x12, r16)
def m_S1 (fu : Nat) (sc : Int32 → Int32) (nc np : Nat) (M X : Mem) (v2 : Int32) (v3 : Int32) (v4 : Int32) : Option (Mem × Int32) :=
  cb1 (m_L_cell sc (v4 - v4 / 16 * 16)) fun r2 =>
  mlet ((r2 >>> (((v4 / 16) * 5) &&& 31))) fun x3 =>
  cb1 (m_L_below fu M (x3 >>> (4 &&& 31)) 12) fun r5 =>
  cb1 (m_L_below fu M (x3 >>> (2 &&& 31)) 6) fun r7 =>
  if v2 ≤ r7 then
  (some (M, r7))
else
  (nbd (m_X5_crowd fu M 40 r7 4) fun r10 =>
  cb2 (m_L_order fu M 40 r7 r5) fun M13 r12 =>
  nbd (m_X5_crowd fu M13 40 r7 2) fun r17 =>
  cb1 (if r17 ≤ 0 then
  (some (-1 : Int32))
else
  (if 24 ≤ r10 then
  (some (-1 : Int32))
else
  (some (r10 + 1)))) fun o18 =>
  if r12 = o18 then
  (some (M13, r7))
else
  (none))
def m_S2_L163 (fu : Nat) (sc : Int32 → Int32) (nc np : Nat) (M : Mem) (y2 : Int32) (y3 : Int32) (y4 : Int32) (y7 : Int32) (y9 : Int32) : Nat → Mem → Int32 → Option (Mem)
  | 0, _, _ => none
  | n + 1, X, z10 =>
  if 8 ≤ z10 then
    (some X)
  else
    (chk (inb y9 nc) <|
    nbd (m_X5_crowd fu M 40 y9 z10) fun r5 =>
    chk (inb z10 8) <|
    mlet (mst X y9.toNatClampNeg z10.toNatClampNeg r5) fun X7 =>
    mlet (z10 + 1) fun x8 =>
    m_S2_L163 fu sc nc np M y2 y3 y4 y7 y9 n X7 x8)
def m_S2_L154 (fu : Nat) (sc : Int32 → Int32) (nc np : Nat) (M : Mem) (y2 : Int32) (y3 : Int32) (y4 : Int32) (y7 : Int32) : Nat → Mem → Int32 → Option (Mem)
  | 0, _, _ => none
  | n + 1, X, z9 =>
  if y2 ≤ z9 then
    (some X)
  else
    (cb1 (m_S2_L163 fu sc nc np M y2 y3 y4 y7 z9 fu X 0) <|
    fun X11 =>
    mlet (z9 + 1) fun x12 =>
    m_S2_L154 fu sc nc np M y2 y3 y4 y7 n X11 x12)
def m_S2 (fu : Nat) (sc : Int32 → Int32) (nc np : Nat) (M X : Mem) (v2 : Int32) (v3 : Int32) (v4 : Int32) (v7 : Int32) : Option (Mem) :=
  cb1 (m_S2_L154 fu sc nc np M v2 v3 v4 v7 fu X 0) <|
  fun X15 =>
  some X15
def m_S3_L218 (fu : Nat) (sc : Int32 → Int32) (nc np : Nat) (M : Mem) (y2 : Int32) (y3 : Int32) (y4 : Int32) (y7 : Int32) (y10 : Int32) : Nat → Mem → Int32 → Option (Mem)
  | 0, _, _ => none
  | n + 1, X, z11 =>
  if 3 ≤ z11 then
    (some X)
  else
    (chk (inb y10 np) <|
    nbd (m_X5_guard fu M 40 y10 z11) fun r5 =>
    chk (inb z11 3) <|
    mlet (mst X (6 + y10.toNatClampNeg) z11.toNatClampNeg r5) fun X7 =>
    mlet (z11 + 1) fun x8 =>
    m_S3_L218 fu sc nc np M y2 y3 y4 y7 y10 n X7 x8)
def m_S3_L209 (fu : Nat) (sc : Int32 → Int32) (nc np : Nat) (M : Mem) (y2 : Int32) (y3 : Int32) (y4 : Int32) (y7 : Int32) : Nat → Mem → Int32 → Option (Mem)
  | 0, _, _ => none
  | n + 1, X, z10 =>
  if y3 ≤ z10 then
    (some X)
  else
    (cb1 (m_S3_L218 fu sc nc np M y2 y3 y4 y7 z10 fu X 0) <|
    fun X11 =>
    mlet (z10 + 1) fun x12 =>
    m_S3_L209 fu sc nc np M y2 y3 y4 y7 n X11 x12)
def m_S3 (fu : Nat) (sc : Int32 → Int32) (nc np : Nat) (M X : Mem) (v2 : Int32) (v3 : Int32) (v4 : Int32) (v7 : Int32) : Option (Mem) :=
  cb1 (m_S3_L209 fu sc nc np M v2 v3 v4 v7 fu X 0) <|
  fun X15 =>
  some X15
def m_S4_L261 (fu : Nat) (sc : Int32 → Int32) (nc np : Nat) (M : Mem) (y2 : Int32) (y3 : Int32) (y4 : Int32) (y7 : Int32) : Nat → Mem → Int32 → Option (Mem)
  | 0, _, _ => none
  | n + 1, X, z11 =>
  if 108 ≤ z11 then
    (some X)
  else
    (nbd (m_X5_cell fu M 40 (z11 - z11 / 12 * 12) (z11 / 12)) fun r3 =>
    chk (inb z11 108) <|
    mlet (mst X 9 z11.toNatClampNeg r3) fun X5 =>
    mlet (z11 + 1) fun x6 =>
    m_S4_L261 fu sc nc np M y2 y3 y4 y7 n X5 x6)
def m_S4 (fu : Nat) (sc : Int32 → Int32) (nc np : Nat) (M X : Mem) (v2 : Int32) (v3 : Int32) (v4 : Int32) (v7 : Int32) : Option (Mem) :=
  cb1 (m_S4_L261 fu sc nc np M v2 v3 v4 v7 fu X 0) <|
  fun X9 =>
  some X9
def m_S5_L489 (fu : Nat) (sc : Int32 → Int32) (nc np : Nat) (M : Mem) (X : Mem) (y2 : Int32) (y3 : Int32) (y4 : Int32) (y12 : Int32) (y13 : Int32) (y18 : Int32) : Nat → Int32 → Int32 → Int32 → Int32 → Option (Int32 × Int32 × Int32)
  | 0, _, _, _, _ => none
  | n + 1, z21, z22, z23, z24 =>
  if y2 ≤ z24 then
    (some (z21, z22, z23))
  else
    (nbd (m_X5_crowd fu M 40 z24 0) fun r65 =>
    nbd (m_X5_crowd fu M 40 z24 1) fun r67 =>
    chk (inb z24 nc) <|
    chk (inb 0 8) <|
    mlet ((r65 - (X z24.toNatClampNeg (0 : Int32).toNatClampNeg))) fun x70 =>
    mlet (mabs x70) fun x71 =>
    chk (inb z24 nc) <|
    chk (inb 1 8) <|
    mlet ((r67 - (X z24.toNatClampNeg (1 : Int32).toNatClampNeg))) fun x74 =>
    mlet (mabs x74) fun x75 =>
    mlet ((x71 + x75)) fun x76 =>
    chk (inb z24 nc) <|
    chk (inb 2 8) <|
    cb1 (if (X z24.toNatClampNeg (2 : Int32).toNatClampNeg) ≤ 0 then
    (some (0 : Int32))
  else
    (chk (inb z24 nc) <|
    chk (inb 4 8) <|
    if (X z24.toNatClampNeg (4 : Int32).toNatClampNeg) ≤ 0 then
    (some (0 : Int32))
  else
    (some (1 : Int32)))) fun o79 =>
    nbd (m_X5_crowd fu M 40 z24 6) fun r87 =>
    chk (inb z24 nc) <|
    chk (inb 6 8) <|
    cb1 (if r87 ≤ (X z24.toNatClampNeg (6 : Int32).toNatClampNeg) then
    (some (0 : Int32))
  else
    (some (1 : Int32))) fun o90 =>
    chk (inb z24 nc) <|
    chk (inb 5 8) <|
    mlet (((X z24.toNatClampNeg (5 : Int32).toNatClampNeg) / 4)) fun x96 =>
    if 1 < x76 then
    (none)
  else
    (cb1 (if x76 = 1 then
    (some (1 : Int32))
  else
    (some (0 : Int32))) fun o98 =>
    cb1 (if o79 = 0 then
    (some (0 : Int32))
  else
    (if o90 = 0 then
    (if x96 = 0 then
    (some (1 : Int32))
  else
    (some (0 : Int32)))
  else
    (some (0 : Int32)))) fun o102 =>
    if o98 = o102 then
    (nbd (m_X5_crowd fu M 40 z24 4) fun r110 =>
    chk (inb z24 nc) <|
    chk (inb 4 8) <|
    cb1 (if o79 = 0 then
    (some (0 : Int32))
  else
    (some (1 : Int32))) fun o113 =>
    if r110 = ((X z24.toNatClampNeg (4 : Int32).toNatClampNeg) - o113) then
    (nbd (m_X5_crowd fu M 40 z24 3) fun r119 =>
    chk (inb z24 nc) <|
    chk (inb 3 8) <|
    if r119 = (X z24.toNatClampNeg (3 : Int32).toNatClampNeg) then
    (cb1 (if o90 = 0 then
    (some ())
  else
    (if o79 = 0 then
    (none)
  else
    (some ()))) fun _ =>
    nbd (m_X5_crowd fu M 40 z24 6) fun r129 =>
    chk (inb z24 nc) <|
    chk (inb 6 8) <|
    if ((X z24.toNatClampNeg (6 : Int32).toNatClampNeg) + 1) < r129 then
    (none)
  else
    (nbd (m_X5_crowd fu M 40 z24 2) fun r134 =>
    chk (inb z24 nc) <|
    chk (inb 2 8) <|
    chk (inb z24 nc) <|
    chk (inb 2 8) <|
    cb1 (m_L_seen fu M 40 z24 y3 (X z24.toNatClampNeg (2 : Int32).toNatClampNeg)) fun r140 =>
    mlet (((X z24.toNatClampNeg (2 : Int32).toNatClampNeg) - r140)) fun x141 =>
    mlet (mmax 0 x141) fun x142 =>
    if r134 = x142 then
    (chk (inb z24 nc) <|
    chk (inb 2 8) <|
    cb1 (if (X z24.toNatClampNeg (2 : Int32).toNatClampNeg) ≤ 0 then
    (some ())
  else
    (nbd (m_X5_cell fu M 40 r65 r67) fun r151 =>
    if r151 = 0 then
    (some ())
  else
    (none))) fun _ =>
    cb1 (if o90 = 0 then
    (some (0 : Int32))
  else
    (some (1 : Int32))) fun o153 =>
    mlet ((z23 + o153)) fun x157 =>
    cb1 (if o79 = 0 then
    (some (0 : Int32))
  else
    (if o90 = 0 then
    (if x96 = 1 then
    (some (1 : Int32))
  else
    (some (0 : Int32)))
  else
    (some (0 : Int32)))) fun o158 =>
    mlet ((z21 + o158)) fun x164 =>
    cb1 (if o79 = 0 then
    (some (0 : Int32))
  else
    (if o90 = 0 then
    (if x96 = 2 then
    (some (1 : Int32))
  else
    (some (0 : Int32)))
  else
    (some (0 : Int32)))) fun o165 =>
    mlet ((z22 + o165)) fun x171 =>
    cb1 (if x96 = 1 then
    (if o79 = 0 then
    (some ())
  else
    (if o90 = 0 then
    (chk (inb z24 nc) <|
    chk (inb 2 8) <|
    if 3 ≤ (X z24.toNatClampNeg (2 : Int32).toNatClampNeg) then
    (some ())
  else
    (none))
  else
    (some ())))
  else
    (some ())) fun _ =>
    mlet (z24 + 1) fun x181 =>
    m_S5_L489 fu sc nc np M X y2 y3 y4 y12 y13 y18 n x164 x171 x157 x181)
  else
    (none)))
  else
    (none))
  else
    (none))
  else
    (none)))
def m_S5_L923 (fu : Nat) (sc : Int32 → Int32) (nc np : Nat) (M : Mem) (X : Mem) (y2 : Int32) (y3 : Int32) (y4 : Int32) (y18 : Int32) : Nat → Int32 → Int32 → Option (Int32)
  | 0, _, _ => none
  | n + 1, z24, z25 =>
  if 108 ≤ z25 then
    (some z24)
  else
    (nbd (m_X5_cell fu M 40 (z25 - z25 / 12 * 12) (z25 / 12)) fun r195 =>
    cb1 (if r195 = 0 then
    (some (1 : Int32))
  else
    (some (0 : Int32))) fun o196 =>
    mlet ((z24 + o196)) fun x200 =>
    cb1 (if 0 ≤ r195 then
    (some (0 : Int32))
  else
    (some (1 : Int32))) fun o201 =>
    chk (inb z25 108) <|
    cb1 (if 0 ≤ (X 9 z25.toNatClampNeg) then
    (some (0 : Int32))
  else
    (some (1 : Int32))) fun o206 =>
    if o201 = o206 then
    (if r195 ≤ 3 then
    (mlet (z25 + 1) fun x212 =>
    m_S5_L923 fu sc nc np M X y2 y3 y4 y18 n x200 x212)
  else
    (none))
  else
    (none))
def m_S5_L1004 (fu : Nat) (sc : Int32 → Int32) (nc np : Nat) (M : Mem) (X : Mem) (y2 : Int32) (y3 : Int32) (y4 : Int32) (y18 : Int32) (y24 : Int32) : Nat → Int32 → Option (Unit)
  | 0, _ => none
  | n + 1, z25 =>
  if y3 ≤ z25 then
    (some ())
  else
    (nbd (m_X5_guard fu M 40 z25 0) fun r218 =>
    nbd (m_X5_guard fu M 40 z25 1) fun r220 =>
    chk (inb z25 np) <|
    chk (inb 2 3) <|
    mlet ((X (6 + z25.toNatClampNeg) (2 : Int32).toNatClampNeg)) fun x223 =>
    chk (inb z25 np) <|
    chk (inb 0 3) <|
    cb1 (if r218 = (X (6 + z25.toNatClampNeg) (0 : Int32).toNatClampNeg) then
    (chk (inb z25 np) <|
    chk (inb 1 3) <|
    if r220 = (X (6 + z25.toNatClampNeg) (1 : Int32).toNatClampNeg) then
    (some (0 : Int32))
  else
    (some (1 : Int32)))
  else
    (some (1 : Int32))) fun o226 =>
    nbd (m_X5_cell fu M 40 r218 r220) fun r234 =>
    if r234 = 0 then
    (cb1 (if o226 = 0 then
    (some ())
  else
    (chk (inb z25 np) <|
    chk (inb 0 3) <|
    cb1 (if x223 = 1 then
    (some (1 : Int32))
  else
    (if x223 = 3 then
    (some (-1 : Int32))
  else
    (some (0 : Int32)))) fun o242 =>
    if r218 = ((X (6 + z25.toNatClampNeg) (0 : Int32).toNatClampNeg) + o242) then
    (chk (inb z25 np) <|
    chk (inb 1 3) <|
    cb1 (if x223 = 2 then
    (some (1 : Int32))
  else
    (if x223 = 0 then
    (some (-1 : Int32))
  else
    (some (0 : Int32)))) fun o250 =>
    if r220 = ((X (6 + z25.toNatClampNeg) (1 : Int32).toNatClampNeg) + o250) then
    (some ())
  else
    (none))
  else
    (none))) fun _ =>
    cb1 (if o226 = 0 then
    (cb1 (if x223 = 1 then
    (some (1 : Int32))
  else
    (if x223 = 3 then
    (some (-1 : Int32))
  else
    (some (0 : Int32)))) fun o260 =>
    cb1 (if x223 = 2 then
    (some (1 : Int32))
  else
    (if x223 = 0 then
    (some (-1 : Int32))
  else
    (some (0 : Int32)))) fun o265 =>
    cb1 (m_L_isFree fu M 40 (r218 + o260) (r220 + o265)) fun r271 =>
    if r271 = 0 then
    (some ())
  else
    (none))
  else
    (some ())) fun _ =>
    mlet (z25 + 1) fun x273 =>
    m_S5_L1004 fu sc nc np M X y2 y3 y4 y18 y24 n x273)
  else
    (none))
def m_S5_L1246 (fu : Nat) (sc : Int32 → Int32) (nc np : Nat) (X : Mem) (y2 : Int32) (y3 : Int32) (y4 : Int32) (y18 : Int32) (y26 : Int32) : Nat → Mem → Int32 → Int32 → Option (Mem × Int32)
  | 0, _, _, _ => none
  | n + 1, M, z25, z27 =>
  if 9 ≤ z27 then
    (some (M, z25))
  else
    (if z25 = 0 then
    (nbd (m_X5_way fu M 40 0 y26 11 z27) <| up2 fun M284 r283 =>
    cb1 (if r283 < 11 then
    (some (0 : Int32))
  else
    (some (1 : Int32))) fun o285 =>
    mlet (z27 + 1) fun x289 =>
    m_S5_L1246 fu sc nc np X y2 y3 y4 y18 y26 n M284 o285 x289)
  else
    (some (M, z25)))
def m_S5_L1236 (fu : Nat) (sc : Int32 → Int32) (nc np : Nat) (X : Mem) (y2 : Int32) (y3 : Int32) (y4 : Int32) (y18 : Int32) : Nat → Mem → Int32 → Int32 → Option (Mem × Int32)
  | 0, _, _, _ => none
  | n + 1, M, z25, z26 =>
  if 9 ≤ z26 then
    (some (M, z25))
  else
    (cb1 (m_S5_L1246 fu sc nc np X y2 y3 y4 y18 z26 fu M z25 0) <|
    up2 fun M292 x293 =>
    mlet (z26 + 1) fun x294 =>
    m_S5_L1236 fu sc nc np X y2 y3 y4 y18 n M292 x293 x294)
def m_S5 (fu : Nat) (sc : Int32 → Int32) (nc np : Nat) (M X : Mem) (v2 : Int32) (v3 : Int32) (v4 : Int32) (v7 : Int32) : Option (Mem) :=
  nbd (m_X5_count fu M 40 1) fun r2 =>
  nbd (m_X5_count fu M 40 2) fun r4 =>
  nbd (m_X5_count fu M 40 7) fun r6 =>
  cb1 (m_X5_digest fu M 40) fun r8 =>
  nbd (m_X5_foresee fu M 40 1 0) <| up2 fun M11 r10 =>
  cb2 (m_X5_shuts fu M11 40) fun M14 r13 =>
  nbd (m_X5_foresee fu M14 40 1 2) <| up2 fun M17 r16 =>
  cb1 (if v2 ≤ v7 then
  (some (M17, (-1 : Int32)))
else
  (nbd (m_X5_advise fu M17 40 v7) <| up2 fun M24 r23 =>
  some (M24, r23))) <| up2 fun M25 o18 =>
  cb1 (m_X5_digest fu M25 40) fun r27 =>
  if (lg_cmp r27 r8) = 0 then
  (if r13 < 0 then
  (none)
else
  (if 9 < r13 then
  (none)
else
  (if 11 < o18 then
  (none)
else
  (cb1 (if v2 ≤ v7 then
  (some ())
else
  (cb1 (if 0 ≤ o18 then
  (some (0 : Int32))
else
  (some (1 : Int32))) fun o36 =>
  chk (inb v7 nc) <|
  chk (inb 2 8) <|
  cb1 (if (X v7.toNatClampNeg (2 : Int32).toNatClampNeg) = 0 then
  (some (1 : Int32))
else
  (some (0 : Int32))) fun o42 =>
  if o36 = o42 then
  (some ())
else
  (none))) fun _ =>
  nbd (m_X5_count fu M25 40 5) fun r48 =>
  nbd (m_X5_pass fu M25 40 1) <| up2 fun M51 r50 =>
  if r50 = (r48 - r10) then
  (nbd (m_X5_count fu M51 40 5) fun r54 =>
  if r54 = r10 then
  (cb2 (m_X5_shuts fu M51 40) fun M58 r57 =>
  if r57 = r16 then
  (nbd (m_X5_count fu M58 40 1) fun r61 =>
  if r61 = r2 then
  (cb1 (m_S5_L489 fu sc nc np M58 X v2 v3 v4 r4 r6 r16 fu 0 0 0 0) <|
  up3 fun x184 x185 x186 =>
  nbd (m_X5_count fu M58 40 7) fun r188 =>
  if r188 = (r6 + x186) then
  (nbd (m_X5_count fu M58 40 2) fun r191 =>
  if r191 = ((r4 + x184) - x185) then
  (cb1 (m_S5_L923 fu sc nc np M58 X v2 v3 v4 r16 fu 0 0) <|
  fun x215 =>
  cb1 (m_S5_L1004 fu sc nc np M58 X v2 v3 v4 r16 x215 fu 0) <|
  fun _ =>
  nbd (m_X5_count fu M58 40 3) fun r277 =>
  if r277 = x215 then
  (cb1 (m_S5_L1236 fu sc nc np X v2 v3 v4 r16 fu M58 0 0) <|
  up2 fun M297 x298 =>
  cb1 (if r16 ≤ 0 then
  (some (0 : Int32))
else
  (some (1 : Int32))) fun o299 =>
  if x298 = o299 then
  (some M297)
else
  (none))
else
  (none))
else
  (none))
else
  (none))
else
  (none))
else
  (none))
else
  (none))
else
  (none)))))
else
  (none)

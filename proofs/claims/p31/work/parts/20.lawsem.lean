/-! the meaning of the law's body, in two pieces, printed by program -/
def L_L_law_41 (L : Nat) (xs : Nat → Int32) (r2 : Int32) : Nat → Int32 → Mem → Option (Int32 × Mem)
  | 0, _, _ => none
  | f + 1, y3, M4 =>
    if r2 ≤ y3 then
      some (y3, M4)
    else
      (s_L_cell L xs (2 + y3)).bind fun v5 =>
      (s_L_low v5 127).bind fun r6 =>
      (s_L_cell L xs (2 + y3)).bind fun v7 =>
      (s_L_low (v7 >>> (7 &&& 31)) 1440).bind fun r8 =>
      (s_L_cell L xs (2 + y3)).bind fun v9 =>
      (s_L_low (v9 >>> (12 &&& 31)) 1440).bind fun r10 =>
      (s_L_cell L xs (2 + y3)).bind fun v11 =>
      (s_L_low (v11 >>> (9 &&& 31)) 900).bind fun r12 =>
      (s_X6_addPremium M4 (1 + r6) r8 r10 (1 + r12)).bind fun r13 =>
      if ¬ r13.1 = 0 then none else
      bnd (y3 + 1) fun z14 : Int32 =>
      L_L_law_41 L xs r2 f z14 r13.2.2

def s_L_law1 (L : Nat) (xs : Nat → Int32) (M : Mem) : Option (Int32 × Mem) :=
  (s_L_cell L xs 1).bind fun v1 =>
  (s_L_low v1 4).bind fun r2 =>
  (L_L_law_41 L xs r2 FU 0 M).bind fun p15 =>
  some (r2, p15.2)

def L_L_law_177 (hn : Nat) (L : Nat) (xs : Nat → Int32) (y3 : Int32) (z8 : Int32) : Nat → Int32 → Mem → Option (Int32 × Mem)
  | 0, _, _ => none
  | f + 1, y9, M10 =>
    if z8 ≤ y9 then
      some (y9, M10)
    else
      (s_L_cell L xs ((7 + (20 * y3)) + y9)).bind fun v11 =>
      (s_L_cell L xs ((17 + (20 * y3)) + y9)).bind fun v12 =>
      (s_L_low v11 7).bind fun r13 =>
      (s_L_low (v11 >>> (3 &&& 31)) 1400).bind fun r14 =>
      bnd ((1440 * r13) + r14) fun z15 : Int32 =>
      (s_L_low (v12 >>> (12 &&& 31)) 3).bind fun r16 =>
      bnd (α := Int32) (
        if r16 = 0 then
          900
        else
          600) fun p18 =>
      (s_L_low v12 p18).bind fun r19 =>
      bnd ((z15 + 1) + r19) fun z20 : Int32 =>
      bnd (α := Int32) (
        if z20 ≤ 10080 then
          z20
        else
          10080) fun p22 =>
      (s_X6_enter M10 hn 0 z15 p22).bind fun r23 =>
      if ¬ r23.1 = 0 then none else
      (s_L_low (v11 >>> (14 &&& 31)) 4).bind fun r24 =>
      Option.bind (α := Mem) (
        if r24 = 0 then
          (s_L_low (v12 >>> (5 &&& 31)) 90).bind fun r26 =>
          Option.bind (α := Int32) (
            if ((z15 + 41) + r26) ≤ 10080 then
              (s_L_low (v12 >>> (5 &&& 31)) 90).bind fun r28 =>
              some ((z15 + 41) + r28)
            else
              some 10080) fun p29 =>
          (s_X6_enterBreak r23.2.2 hn 0 (z15 + 40) p29).bind fun r30 =>
          if ¬ r30.1 = 0 then none else
          some r30.2.2
        else
          some r23.2.2) fun p31 =>
      bnd (y9 + 1) fun z32 : Int32 =>
      L_L_law_177 hn L xs y3 z8 f z32 p31

def L_L_law_147 (hn : Nat) (L : Nat) (xs : Nat → Int32) (x2 : Int32) (x3 : Int32) : Nat → Int64 → Int32 → Int32 → Mem → Mel → Option (Int64 × Int32 × Int32 × Mem × Mel)
  | 0, _, _, _, _, _ => none
  | f + 1, y1, y2, y3, M4, G5 =>
    if 4 ≤ y3 then
      some (y1, y2, y3, M4, G5)
    else
      (s_L_cell L xs (6 + (20 * y3))).bind fun v6 =>
      (s_L_low v6 9).bind fun r7 =>
      bnd (1 + r7) fun z8 : Int32 =>
      (L_L_law_177 hn L xs y3 z8 FU 0 M4).bind fun p33 =>
      bnd (α := Int32) (
        if x3 ≤ 0 then
          0
        else
          1) fun p35 =>
      (s_L_isPaid p33.2 hn x2 p35).bind fun r36 =>
      if r36.1 = 0 then
        none
      else
        (s_X6_pay r36.2 hn 0).bind fun r37 =>
        if ¬ r37.1 = 0 then none else
        (s_X6_closeWeek r37.2.2 G5 hn 0).bind fun r38 =>
        if ¬ r38.1 = 0 then none else
        bnd (y1 + r38.2.1.toInt64) fun z39 : Int64 =>
        bnd (y2 + 1) fun z40 : Int32 =>
        if r38.2.1 = r37.2.1 then
          (s_X6_earned r38.2.2.2 hn 0).bind fun r41 =>
          if ¬ r41.1 = 0 then none else
          if r41.2 = z39 then
            (s_X6_closedWeeks r38.2.2.1 hn 0).bind fun r42 =>
            if ¬ r42.1 = 0 then none else
            if r42.2 = z40 then
              (s_L_isEmpty r38.2.2.1 hn 0).bind fun r43 =>
              if r43.1 = 0 then
                none
              else
                bnd (y3 + 1) fun z44 : Int32 =>
                L_L_law_147 hn L xs x2 x3 f z39 z40 z44 r43.2 r38.2.2.2
            else
              none
          else
            none
        else
          none

def s_L_law2 (L : Nat) (xs : Nat → Int32) (M : Mem) (G : Mel) (hn : Nat) (x2 : Int32) (x3 : Int32) : Option (Unit) :=
  (L_L_law_147 hn L xs x2 x3 FU 0 0 0 M G).bind fun p45 =>
  some ()

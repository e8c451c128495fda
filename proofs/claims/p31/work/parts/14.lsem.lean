/-! the meanings of the law's own methods, printed by program -/
def s_L_low (x0 : Int32) (x1 : Int32) : Option (Int32) :=
  if x1 = 0 then none else
  some ((x0 &&& 2147483647) - (x0 &&& 2147483647) / x1 * x1)

def L_L_reads_2 (hn : Nat) : Nat → Int32 → Mem → Option (Int32 × Mem)
  | 0, _, _ => none
  | f + 1, y1, M2 =>
    if 21 ≤ y1 then
      some (y1, M2)
    else
      (s_X6_minutes M2 hn 0 (y1 / 3) (y1 - y1 / 3 * 3)).bind fun r3 =>
      if ¬ r3.1 = 0 then none else
      (mwr 21 r3.2.2 26 y1 r3.2.1).bind fun M4 =>
      (s_X6_quarters M4 hn 0 (y1 / 3) (y1 - y1 / 3 * 3)).bind fun r5 =>
      if ¬ r5.1 = 0 then none else
      (mwr 21 r5.2.2 27 y1 r5.2.1).bind fun M6 =>
      bnd (y1 + 1) fun z7 : Int32 =>
      L_L_reads_2 hn f z7 M6

def s_L_reads (M : Mem) (hn : Nat) : Option (Mem) :=
  (L_L_reads_2 hn FU 0 M).bind fun p8 =>
  some p8.2

def L_L_weekOf_84 (M : Mem) (y4 : Int32) (z7 : Int32) : Nat → Int32 → Int32 → Option (Int32 × Int32)
  | 0, _, _ => none
  | f + 1, y15, y16 =>
    if y4 ≤ y16 then
      some (y15, y16)
    else
      (mrd 21 (M 27) y16).bind fun v17 =>
      (mrd 21 (M 26) y16).bind fun v18 =>
      bnd (v17 - (v18 / 15)) fun z19 : Int32 =>
      Option.bind (α := Int32) (
        if y15 = 0 then
          some 0
        else
          if z7 ≤ z19 then
            if z19 ≤ z7 then
              some 1
            else
              (mrd 21 (M 26) y4).bind fun v21 =>
              (mrd 21 (M 26) y16).bind fun v22 =>
              if (v22 - v22 / 15 * 15) < (v21 - v21 / 15 * 15) then
                some 0
              else
                some 1
          else
            (mrd 21 (M 26) y4).bind fun v23 =>
            (mrd 21 (M 26) y16).bind fun v24 =>
            if (v23 - v23 / 15 * 15) ≤ (v24 - v24 / 15 * 15) then
              some 0
            else
              if z19 ≤ z7 then
                some 1
              else
                (mrd 21 (M 26) y4).bind fun v25 =>
                (mrd 21 (M 26) y16).bind fun v26 =>
                if (v26 - v26 / 15 * 15) < (v25 - v25 / 15 * 15) then
                  some 0
                else
                  some 1) fun p27 =>
      bnd (y16 + 3) fun z28 : Int32 =>
      L_L_weekOf_84 M y4 z7 f p27 z28

def L_L_weekOf_11 (M : Mem) (x2 : Int32) : Nat → Int32 → Int32 → Int32 → Int32 → Option (Int32 × Int32 × Int32 × Int32)
  | 0, _, _, _, _ => none
  | f + 1, y1, y2, y3, y4 =>
    if 21 ≤ y4 then
      some (y1, y2, y3, y4)
    else
      (mrd 21 (M 27) y4).bind fun v5 =>
      (mrd 21 (M 26) y4).bind fun v6 =>
      bnd (v5 - (v6 / 15)) fun z7 : Int32 =>
      Option.bind (α := Int32) (
        if y3 = 0 then
          some 0
        else
          if z7 = 0 then
            some 1
          else
            if z7 = 1 then
              (mrd 21 (M 26) y4).bind fun v9 =>
              if (v9 - v9 / 15 * 15) ≤ 0 then
                some 0
              else
                some 1
            else
              some 0) fun p10 =>
      (mrd 21 (M 26) y4).bind fun v11 =>
      bnd (y1 + v11) fun z12 : Int32 =>
      (mrd 21 (M 27) y4).bind fun v13 =>
      bnd (y2 + v13) fun z14 : Int32 =>
      (L_L_weekOf_84 M y4 z7 FU p10 x2).bind fun p29 =>
      bnd (y4 + 3) fun z30 : Int32 =>
      L_L_weekOf_11 M x2 f z12 z14 p29.1 z30

def s_L_weekOf (M : Mem) (x2 : Int32) : Option (Int32) :=
  (L_L_weekOf_11 M x2 FU 0 0 1 x2).bind fun p31 =>
  bnd ((15 * p31.2.1) - p31.1) fun z32 : Int32 =>
  if p31.2.2.1 = 0 then
    some ((-1))
  else
    if 7 < z32 then
      some ((-1))
    else
      if z32 < ((-7)) then
        some ((-1))
      else
        some p31.2.1

def L_L_isPaid_108 (hn : Nat) : Nat → Int32 → Int32 → Mem → Option (Int32 × Int32 × Mem)
  | 0, _, _, _ => none
  | f + 1, y10, y11, M12 =>
    if 7 ≤ y11 then
      some (y10, y11, M12)
    else
      (s_X6_workedOn M12 hn 0 y11).bind fun r13 =>
      if ¬ r13.1 = 0 then none else
      (mrd 21 (r13.2.2 26) (3 * y11)).bind fun v14 =>
      (mrd 21 (r13.2.2 26) ((3 * y11) + 1)).bind fun v15 =>
      bnd (v14 + v15) fun z16 : Int32 =>
      Option.bind (α := Int32) (
        if y10 = 0 then
          some 0
        else
          (mrd 21 (r13.2.2 26) ((3 * y11) + 2)).bind fun v18 =>
          if r13.2.1 < (z16 + v18) then
            some 0
          else
            if 1440 < r13.2.1 then
              some 0
            else
              (mrd 21 (r13.2.2 26) (3 * y11)).bind fun v19 =>
              if 480 < v19 then
                some 0
              else
                if 720 < z16 then
                  some 0
                else
                  some 1) fun p20 =>
      bnd (y11 + 1) fun z21 : Int32 =>
      L_L_isPaid_108 hn f p20 z21 r13.2.2

def s_L_isPaid (M : Mem) (hn : Nat) (x3 : Int32) (x4 : Int32) : Option (Int32 × Mem) :=
  (s_L_reads M hn).bind fun r1 =>
  (s_L_weekOf r1 0).bind fun r2 =>
  (s_L_weekOf r1 1).bind fun r3 =>
  (s_L_weekOf r1 2).bind fun r4 =>
  bnd (((x3 * (((2 * r2) + (3 * r3)) + (4 * r4))) + 4) / 8) fun z5 : Int32 =>
  (s_X6_premiumPay r1 hn 0).bind fun r6 =>
  if ¬ r6.1 = 0 then none else
  Option.bind (α := Int32 × Mem) (
    if r2 < 0 then
      some (0, r6.2.2)
    else
      if r3 < 0 then
        some (0, r6.2.2)
      else
        if r4 < 0 then
          some (0, r6.2.2)
        else
          (s_X6_pay r6.2.2 hn 0).bind fun r8 =>
          if ¬ r8.1 = 0 then none else
          if r8.2.1 = (z5 + r6.2.1) then
            if x4 = 0 then
              if r6.2.1 = 0 then
                some (1, r8.2.2)
              else
                some (0, r8.2.2)
            else
              some (1, r8.2.2)
          else
            some (0, r8.2.2)) fun p9 =>
  (L_L_isPaid_108 hn FU p9.1 0 p9.2).bind fun p22 =>
  (bchk p22.1).bind fun v23 =>
  some (v23, p22.2.2)

def s_L_isEmpty (M : Mem) (hn : Nat) (x1 : Int32) : Option (Int32 × Mem) :=
  (s_X6_pay M hn x1).bind fun r1 =>
  if ¬ r1.1 = 0 then none else
  if r1.2.1 = 0 then
    (s_X6_shifts r1.2.2 hn x1).bind fun r2 =>
    if ¬ r2.1 = 0 then none else
    if r2.2.1 = 0 then
      (s_X6_stretches r2.2.2 hn x1).bind fun r3 =>
      if ¬ r3.1 = 0 then none else
      if r3.2.1 = 0 then
        (s_X6_overlap r3.2.2 hn x1).bind fun r4 =>
        if ¬ r4.1 = 0 then none else
        if r4.2.1 = 0 then
          (s_X6_longestStretch r4.2.2 hn x1).bind fun r5 =>
          if ¬ r5.1 = 0 then none else
          if r5.2.1 = 0 then
            (s_X6_repairedShifts r5.2.2 hn x1).bind fun r6 =>
            if ¬ r6.1 = 0 then none else
            if r6.2.1 = 0 then
              some (1, r6.2.2)
            else
              some (0, r6.2.2)
          else
            some (0, r5.2.2)
        else
          some (0, r4.2.2)
      else
        some (0, r3.2.2)
    else
      some (0, r2.2.2)
  else
    some (0, r1.2.2)

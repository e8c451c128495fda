/-! the meanings of the methods, printed by program -/
def s_X4_size (M : Mem) (t : Nat) : Option (Int32) :=
  some (M t 2)

def s_X4_get (M : Mem) (t : Nat) (x1 : Int32) (x2 : Int32) : Option (Int32) :=
  if x1 < 0 then
    some 0
  else
    if (M t 2) ≤ x1 then
      some 0
    else
      if x2 < 0 then
        some 0
      else
        if x2 < (tw t) then
          bnd ((x1 * (tw t)) + x2) fun z1 : Int32 =>
          if z1 < 0 then
            some 0
          else
            if (nI (tl t)) ≤ z1 then
              some 0
            else
              (mrd (tl t) (M (t + 1)) z1).bind fun v2 =>
              some v2
        else
          some 0

def L_X4_insert_46 (t : Nat) (x1 : Int32) : Nat → Int32 → Mem → Option (Int32 × Mem)
  | 0, _, _ => none
  | f + 1, y2, M3 =>
    if y2 < ((x1 + 1) * (tw t)) then
      some (y2, M3)
    else
      (mrd (tl t) (M3 (t + 1)) (y2 - (tw t))).bind fun v4 =>
      (mwr (tl t) M3 (t + 1) y2 v4).bind fun M5 =>
      bnd (y2 + (-1)) fun z6 : Int32 =>
      L_X4_insert_46 t x1 f z6 M5

def s_X4_insert (M : Mem) (t : Nat) (x1 : Int32) : Option (Mem) :=
  if x1 < 0 then
    some M
  else
    if (M t 2) < x1 then
      some M
    else
      if (((M t 2) + 1) * (tw t)) ≤ (nI (tl t)) then
        bnd ((((M t 2) + 1) * (tw t)) - 1) fun z1 : Int32 =>
        (L_X4_insert_46 t x1 FU z1 M).bind fun p7 =>
        bnd (mst p7.2 t 2 ((p7.2 t 2) + 1)) fun M8 : Mem =>
        some M8
      else
        some M

def s_X4_set (M : Mem) (t : Nat) (x1 : Int32) (x2 : Int32) (x3 : Int32) : Option (Mem) :=
  if x1 < 0 then
    some M
  else
    if (M t 2) ≤ x1 then
      some M
    else
      if x2 < 0 then
        some M
      else
        if x2 < (tw t) then
          bnd ((x1 * (tw t)) + x2) fun z1 : Int32 =>
          if z1 < 0 then
            some M
          else
            if (nI (tl t)) ≤ z1 then
              some M
            else
              (mwr (tl t) M (t + 1) z1 x3).bind fun M2 =>
              some M2
        else
          some M

def L_X4_remove_39 (t : Nat) : Nat → Int32 → Mem → Option (Int32 × Mem)
  | 0, _, _ => none
  | f + 1, y2, M3 =>
    if ((M3 t 2) * (tw t)) ≤ y2 then
      some (y2, M3)
    else
      (mrd (tl t) (M3 (t + 1)) y2).bind fun v4 =>
      (mwr (tl t) M3 (t + 1) (y2 - (tw t)) v4).bind fun M5 =>
      bnd (y2 + 1) fun z6 : Int32 =>
      L_X4_remove_39 t f z6 M5

def s_X4_remove (M : Mem) (t : Nat) (x1 : Int32) : Option (Mem) :=
  if x1 < 0 then
    some M
  else
    if (M t 2) ≤ x1 then
      some M
    else
      if ((M t 2) * (tw t)) ≤ (nI (tl t)) then
        bnd ((x1 + 1) * (tw t)) fun z1 : Int32 =>
        (L_X4_remove_39 t FU z1 M).bind fun p7 =>
        bnd (mst p7.2 t 2 ((p7.2 t 2) - 1)) fun M8 : Mem =>
        some M8
      else
        some M

def s_X4_addSpan (M : Mem) (t : Nat) (x1 : Int32) (x2 : Int32) : Option (Mem) :=
  bnd (M t 2) fun z1 : Int32 =>
  (s_X4_insert M t z1).bind fun r2 =>
  (s_X4_set r2 t z1 0 x1).bind fun r3 =>
  (s_X4_set r3 t z1 1 x2).bind fun r4 =>
  some r4

def s_X4_clear (M : Mem) (t : Nat) : Option (Mem) :=
  bnd (mst M t 2 0) fun M1 : Mem =>
  some M1

def s_X0_beginNextWeek (M : Mem) (G : Mel) (e : Nat) (x1 : Int32) : Option (Mem × Mel) :=
  bnd (mstL G e 2 ((G e 2) + x1.toInt64)) fun G1 : Mel =>
  bnd (mst M e 1 ((M e 1) + 1)) fun M2 : Mem =>
  (s_X4_clear M2 (e + 1)).bind fun r3 =>
  (s_X4_clear r3 (e + 3)).bind fun r4 =>
  (s_X4_clear r4 (e + 5)).bind fun r5 =>
  some (r5, G1)

def s_X3_isIn (M : Mem) (t0 : Nat) (x1 : Int32) : Option (Int32) :=
  (s_X4_get M t0 x1 1).bind fun r1 =>
  if r1 = 1 then
    some 1
  else
    some 0

def s_X3_addFromIn (M : Mem) (t1 : Nat) (x2 : Int32) : Option (Mem) :=
  (s_X4_get M t1 x2 0).bind fun r1 =>
  (s_X4_size M t1).bind fun r2 =>
  bnd (α := Int32) (
    if (x2 + 1) < r2 then
      0
    else
      1) fun p4 =>
  Option.bind (α := Int32) (
    if p4 = 0 then
      (s_X4_get M t1 (x2 + 1) 0).bind fun r6 =>
      some r6
    else
      some 10080) fun p7 =>
  if p4 = 0 then
    (s_X3_isIn M t1 (x2 + 1)).bind fun r10 =>
    if r10 = 0 then
      (s_X4_addSpan M 44 r1 p7).bind fun r11 =>
      some r11
    else
      bnd (mst M 43 1 ((M 43 1) + 1)) fun M12 : Mem =>
      (s_X4_addSpan M12 44 r1 (if p7 < r1 + 480 then p7 else r1 + 480)).bind fun r13 =>
      some r13
  else
    bnd (mst M 43 1 ((M 43 1) + 1)) fun M8 : Mem =>
    (s_X4_addSpan M8 44 r1 (if p7 < r1 + 480 then p7 else r1 + 480)).bind fun r9 =>
    some r9

def s_X3_addFromLoneOut (M : Mem) (t1 : Nat) (x2 : Int32) : Option (Mem) :=
  (s_X4_get M t1 x2 0).bind fun r1 =>
  Option.bind (α := Int32) (
    if x2 = 0 then
      some 0
    else
      (s_X4_get M t1 (x2 - 1) 0).bind fun r3 =>
      some r3) fun p4 =>
  bnd (mst M 43 1 ((M 43 1) + 1)) fun M5 : Mem =>
  (s_X4_addSpan M5 44 (if r1 - 480 < p4 then p4 else r1 - 480) r1).bind fun r6 =>
  some r6

def L_X3_read_14 (t1 : Nat) : Nat → Int32 → Mem → Option (Int32 × Mem)
  | 0, _, _ => none
  | f + 1, y3, M4 =>
    (s_X4_size M4 t1).bind fun r5 =>
    if r5 ≤ y3 then
      some (y3, M4)
    else
      (s_X3_isIn M4 t1 y3).bind fun r6 =>
      Option.bind (α := Mem) (
        if r6 = 0 then
          (s_X3_isIn M4 t1 (y3 - 1)).bind fun r8 =>
          if r8 = 0 then
            (s_X3_addFromLoneOut M4 t1 y3).bind fun r9 =>
            some r9
          else
            some M4
        else
          (s_X3_addFromIn M4 t1 y3).bind fun r10 =>
          some r10) fun p11 =>
      bnd (y3 + 1) fun z12 : Int32 =>
      L_X3_read_14 t1 f z12 p11

def s_X3_read (M : Mem) (t1 : Nat) : Option (Mem) :=
  (s_X4_clear M 44).bind fun r1 =>
  bnd (mst r1 43 1 0) fun M2 : Mem =>
  (L_X3_read_14 t1 FU 0 M2).bind fun p13 =>
  some p13.2

def L_X5_addEvent_15 (M : Mem) (x1 : Int32) : Nat → Int32 → Int32 → Option (Int32 × Int32)
  | 0, _, _ => none
  | f + 1, y3, y4 =>
    if y4 < 0 then
      some (y3, y4)
    else
      (s_X4_get M 39 y4 0).bind fun r5 =>
      if r5 ≤ x1 then
        some (y3, y4)
      else
        bnd (y4 + (-1)) fun z6 : Int32 =>
        L_X5_addEvent_15 M x1 f y4 z6

def s_X5_addEvent (M : Mem) (x1 : Int32) (x2 : Int32) (x3 : Int32) : Option (Mem) :=
  (s_X4_size M 39).bind fun r1 =>
  bnd (r1 - 1) fun z2 : Int32 =>
  (L_X5_addEvent_15 M x1 FU r1 z2).bind fun p7 =>
  (s_X4_insert M 39 p7.1).bind fun r8 =>
  (s_X4_set r8 39 p7.1 0 x1).bind fun r9 =>
  (s_X4_set r9 39 p7.1 1 x2).bind fun r10 =>
  (s_X4_set r10 39 p7.1 2 x3).bind fun r11 =>
  some r11

def L_X5_addEvents_3 (t1 : Nat) (x2 : Int32) (x3 : Int32) : Nat → Int32 → Mem → Option (Int32 × Mem)
  | 0, _, _ => none
  | f + 1, y1, M2 =>
    (s_X4_size M2 t1).bind fun r3 =>
    if r3 ≤ y1 then
      some (y1, M2)
    else
      (s_X4_get M2 t1 y1 0).bind fun r4 =>
      (s_X5_addEvent M2 r4 x2 x3).bind fun r5 =>
      (s_X4_get r5 t1 y1 1).bind fun r6 =>
      (s_X5_addEvent r5 r6 (-x2) (-x3)).bind fun r7 =>
      bnd (y1 + 1) fun z8 : Int32 =>
      L_X5_addEvents_3 t1 x2 x3 f z8 r7

def s_X5_addEvents (M : Mem) (t1 : Nat) (x2 : Int32) (x3 : Int32) : Option (Mem) :=
  (L_X5_addEvents_3 t1 x2 x3 FU 0 M).bind fun p9 =>
  some p9.2

def s_X5_addWorked (M : Mem) (x1 : Int32) (x2 : Int32) : Option (Mem) :=
  (s_X4_size M 41).bind fun r1 =>
  bnd (r1 - 1) fun z2 : Int32 =>
  if z2 < 0 then
    (s_X4_addSpan M 41 x1 x2).bind fun r3 =>
    some r3
  else
    (s_X4_get M 41 z2 1).bind fun r4 =>
    if r4 = x1 then
      (s_X4_set M 41 z2 1 x2).bind fun r6 =>
      some r6
    else
      (s_X4_addSpan M 41 x1 x2).bind fun r5 =>
      some r5

def L_X5_goThroughEvents_21 : Nat → Int32 → Int32 → Int32 → Int32 → Mem → Option (Int32 × Int32 × Int32 × Int32 × Mem)
  | 0, _, _, _, _, _ => none
  | f + 1, y3, y4, y5, y6, M7 =>
    (s_X4_size M7 39).bind fun r8 =>
    if r8 ≤ y6 then
      some (y3, y4, y5, y6, M7)
    else
      (s_X4_get M7 39 y6 0).bind fun r9 =>
      bnd (α := Mem) (
        if y3 < 2 then
          M7
        else
          bnd (mst M7 38 3 ((M7 38 3) + (r9 - y5))) fun M11 : Mem =>
          M11) fun p12 =>
      Option.bind (α := Mem) (
        if r9 ≤ y5 then
          some p12
        else
          if y3 < 1 then
            some p12
          else
            if y4 = 0 then
              (s_X5_addWorked p12 y5 r9).bind fun r14 =>
              some r14
            else
              some p12) fun p15 =>
      (s_X4_get p15 39 y6 1).bind fun r16 =>
      bnd (y3 + r16) fun z17 : Int32 =>
      (s_X4_get p15 39 y6 2).bind fun r18 =>
      bnd (y4 + r18) fun z19 : Int32 =>
      bnd (y6 + 1) fun z20 : Int32 =>
      L_X5_goThroughEvents_21 f z17 z19 r9 z20 p15

def s_X5_goThroughEvents (M : Mem) : Option (Mem) :=
  (s_X4_clear M 41).bind fun r1 =>
  bnd (mst r1 38 3 0) fun M2 : Mem =>
  (L_X5_goThroughEvents_21 FU 0 0 0 0 M2).bind fun p21 =>
  some p21.2.2.2.2

def s_X5_read (M : Mem) (e1 : Nat) : Option (Mem) :=
  (s_X3_read M (e1 + 1)).bind fun r1 =>
  (s_X4_clear r1 39).bind fun r2 =>
  (s_X5_addEvents r2 44 1 0).bind fun r3 =>
  (s_X5_addEvents r3 (e1 + 3) 1 0).bind fun r4 =>
  (s_X5_addEvents r4 (e1 + 5) 0 1).bind fun r5 =>
  (s_X5_goThroughEvents r5).bind fun r6 =>
  some r6

def L_X1_takeOffAutomaticBreaks_9 (t1 : Nat) : Nat → Int32 → Mem → Option (Int32 × Mem)
  | 0, _, _ => none
  | f + 1, y2, M3 =>
    (s_X4_size M3 t1).bind fun r4 =>
    if r4 ≤ y2 then
      some (y2, M3)
    else
      (s_X4_get M3 t1 y2 0).bind fun r5 =>
      (s_X4_get M3 t1 y2 1).bind fun r6 =>
      (s_X4_addSpan M3 34 r5 (if r5 + 360 < r6 then r5 + 360 else r6)).bind fun r7 =>
      Option.bind (α := Mem) (
        if r6 ≤ (r5 + 390) then
          some r7
        else
          (s_X4_addSpan r7 34 (r5 + 390) r6).bind fun r9 =>
          some r9) fun p10 =>
      bnd (y2 + 1) fun z11 : Int32 =>
      L_X1_takeOffAutomaticBreaks_9 t1 f z11 p10

def s_X1_takeOffAutomaticBreaks (M : Mem) (t1 : Nat) : Option (Mem) :=
  (s_X4_clear M 34).bind fun r1 =>
  (L_X1_takeOffAutomaticBreaks_9 t1 FU 0 r1).bind fun p12 =>
  some p12.2

def L_X6_minutesOnDay_4 (M : Mem) (t0 : Nat) (x1 : Int32) : Nat → Int32 → Int32 → Option (Int32 × Int32)
  | 0, _, _ => none
  | f + 1, y1, y2 =>
    (s_X4_size M t0).bind fun r3 =>
    if r3 ≤ y2 then
      some (y1, y2)
    else
      (s_X4_get M t0 y2 0).bind fun r4 =>
      bnd (if r4 < x1 * 1440 then x1 * 1440 else r4) fun z5 : Int32 =>
      (s_X4_get M t0 y2 1).bind fun r6 =>
      bnd (if (x1 + 1) * 1440 < r6 then (x1 + 1) * 1440 else r6) fun z7 : Int32 =>
      bnd (y1 + (if z7 - z5 < 0 then 0 else z7 - z5)) fun z8 : Int32 =>
      bnd (y2 + 1) fun z9 : Int32 =>
      L_X6_minutesOnDay_4 M t0 x1 f z8 z9

def s_X6_minutesOnDay (M : Mem) (t0 : Nat) (x1 : Int32) : Option (Int32) :=
  (L_X6_minutesOnDay_4 M t0 x1 FU 0 0).bind fun p10 =>
  some p10.1

def L_X1_isFull_4 (M : Mem) : Nat → Int32 → Int32 → Option (Int32 × Int32)
  | 0, _, _ => none
  | f + 1, y1, y2 =>
    if 6 ≤ y2 then
      some (y1, y2)
    else
      Option.bind (α := Int32) (
        if y1 = 0 then
          some 0
        else
          (s_X6_minutesOnDay M 34 y2).bind fun r4 =>
          if r4 ≤ 0 then
            some 0
          else
            some 1) fun p5 =>
      bnd (y2 + 1) fun z6 : Int32 =>
      L_X1_isFull_4 M f p5 z6

def s_X1_isFull (M : Mem) : Option (Int32) :=
  (L_X1_isFull_4 M FU 1 0).bind fun p7 =>
  (bchk p7.1).bind fun v8 =>
  some v8

def s_X1_untilLimit (x0 : Int32) (x1 : Int32) : Option (Int32) :=
  bnd (α := Int32) (
    if 480 ≤ x0 then
      if 720 ≤ x0 then
        10080
      else
        bnd (720 - x0) fun z2 : Int32 =>
        z2
    else
      bnd (480 - x0) fun z3 : Int32 =>
      z3) fun p4 =>
  if 2400 ≤ x1 then
    some p4
  else
    some (if 2400 - x1 < p4 then 2400 - x1 else p4)

def s_X1_categoryFor (x0 : Int32) (x1 : Int32) (x2 : Int32) : Option (Int32) :=
  if 720 ≤ x0 then
    some 2
  else
    if x2 = 0 then
      if 480 ≤ x0 then
        some 1
      else
        if 2400 ≤ x1 then
          some 1
        else
          if x2 = 0 then
            some 0
          else
            some 1
    else
      if x0 < 480 then
        if 480 ≤ x0 then
          some 1
        else
          if 2400 ≤ x1 then
            some 1
          else
            if x2 = 0 then
              some 0
            else
              some 1
      else
        some 2

def L_X1_addParts_6 (x1 : Int32) (x2 : Int32) (x3 : Int32) (x4 : Int32) (x5 : Int32) : Nat → Int32 → Int32 → Mem → Option (Int32 × Int32 × Mem)
  | 0, _, _, _ => none
  | f + 1, y1, y2, M3 =>
    if 1440 ≤ y2 then
      some (y1, y2, M3)
    else
      if x2 ≤ y1 then
        some (y1, y2, M3)
      else
        bnd ((x3 + y1) - x1) fun z4 : Int32 =>
        bnd ((x4 + y1) - x1) fun z5 : Int32 =>
        (s_X1_untilLimit z4 z5).bind fun r6 =>
        bnd (if r6 < x2 - y1 then r6 else x2 - y1) fun z7 : Int32 =>
        (s_X4_size M3 36).bind fun r8 =>
        (s_X4_addSpan M3 36 y1 (y1 + z7)).bind fun r9 =>
        (s_X1_categoryFor z4 z5 x5).bind fun r10 =>
        (s_X4_set r9 36 r8 2 r10).bind fun r11 =>
        bnd (y1 + z7) fun z12 : Int32 =>
        bnd (y2 + 1) fun z13 : Int32 =>
        L_X1_addParts_6 x1 x2 x3 x4 x5 f z12 z13 r11

def s_X1_addParts (M : Mem) (x1 : Int32) (x2 : Int32) (x3 : Int32) (x4 : Int32) (x5 : Int32) : Option (Mem) :=
  (L_X1_addParts_6 x1 x2 x3 x4 x5 FU x1 0 M).bind fun p14 =>
  some p14.2.2

def L_X1_addPartsOfDay_6 (x1 : Int32) (x2 : Int32) (x3 : Int32) : Nat → Int32 → Int32 → Mem → Option (Int32 × Int32 × Mem)
  | 0, _, _, _ => none
  | f + 1, y1, y2, M3 =>
    (s_X4_size M3 34).bind fun r4 =>
    if r4 ≤ y2 then
      some (y1, y2, M3)
    else
      (s_X4_get M3 34 y2 0).bind fun r5 =>
      bnd (if r5 < x1 * 1440 then x1 * 1440 else r5) fun z6 : Int32 =>
      (s_X4_get M3 34 y2 1).bind fun r7 =>
      bnd (if (x1 + 1) * 1440 < r7 then (x1 + 1) * 1440 else r7) fun z8 : Int32 =>
      Option.bind (α := Int32 × Mem) (
        if z8 ≤ z6 then
          some (y1, M3)
        else
          (s_X1_addParts M3 z6 z8 y1 (x2 + y1) x3).bind fun r10 =>
          bnd (y1 + (z8 - z6)) fun z11 : Int32 =>
          some (z11, r10)) fun p12 =>
      bnd (y2 + 1) fun z13 : Int32 =>
      L_X1_addPartsOfDay_6 x1 x2 x3 f p12.1 z13 p12.2

def s_X1_addPartsOfDay (M : Mem) (x1 : Int32) (x2 : Int32) (x3 : Int32) : Option (Mem) :=
  (L_X1_addPartsOfDay_6 x1 x2 x3 FU 0 0 M).bind fun p14 =>
  some p14.2.2

def L_X1_read_36 (r4 : Int32) : Nat → Int32 → Int32 → Mem → Option (Int32 × Int32 × Mem)
  | 0, _, _, _ => none
  | f + 1, y5, y6, M7 =>
    if 7 ≤ y6 then
      some (y5, y6, M7)
    else
      bnd (α := Int32) (
        if r4 = 0 then
          0
        else
          if y6 = 6 then
            1
          else
            0) fun p9 =>
      (s_X1_addPartsOfDay M7 y6 y5 p9).bind fun r10 =>
      (s_X6_minutesOnDay r10 34 y6).bind fun r11 =>
      bnd (y5 + r11) fun z12 : Int32 =>
      bnd (y6 + 1) fun z13 : Int32 =>
      L_X1_read_36 r4 f z12 z13 r10

def s_X1_read (M : Mem) (e1 : Nat) : Option (Mem) :=
  (s_X5_read M e1).bind fun r1 =>
  (s_X1_takeOffAutomaticBreaks r1 41).bind fun r2 =>
  (s_X4_clear r2 36).bind fun r3 =>
  (s_X1_isFull r3).bind fun r4 =>
  (L_X1_read_36 r4 FU 0 0 r3).bind fun p14 =>
  some p14.2.2

def L_X1_minutesOf_5 (M : Mem) (x1 : Int32) (x2 : Int32) : Nat → Int32 → Int32 → Option (Int32 × Int32)
  | 0, _, _ => none
  | f + 1, y1, y2 =>
    (s_X4_size M 36).bind fun r3 =>
    if r3 ≤ y2 then
      some (y1, y2)
    else
      (s_X4_get M 36 y2 2).bind fun r4 =>
      Option.bind (α := Int32) (
        if r4 = x2 then
          (s_X4_get M 36 y2 0).bind fun r6 =>
          if (r6 / 1440) = x1 then
            (s_X4_get M 36 y2 1).bind fun r7 =>
            (s_X4_get M 36 y2 0).bind fun r8 =>
            bnd (y1 + (r7 - r8)) fun z9 : Int32 =>
            some z9
          else
            some y1
        else
          some y1) fun p10 =>
      bnd (y2 + 1) fun z11 : Int32 =>
      L_X1_minutesOf_5 M x1 x2 f p10 z11

def s_X1_minutesOf (M : Mem) (x1 : Int32) (x2 : Int32) : Option (Int32) :=
  (L_X1_minutesOf_5 M x1 x2 FU 0 0).bind fun p12 =>
  some p12.1

def L_X1_quartersOfWeek_4 (M : Mem) (x1 : Int32) : Nat → Int32 → Int32 → Option (Int32 × Int32)
  | 0, _, _ => none
  | f + 1, y1, y2 =>
    if 7 ≤ y2 then
      some (y1, y2)
    else
      (s_X1_minutesOf M y2 x1).bind fun r3 =>
      bnd (y1 + r3) fun z4 : Int32 =>
      bnd (y2 + 1) fun z5 : Int32 =>
      L_X1_quartersOfWeek_4 M x1 f z4 z5

def s_X1_quartersOfWeek (M : Mem) (x1 : Int32) : Option (Int32) :=
  (L_X1_quartersOfWeek_4 M x1 FU 0 0).bind fun p6 =>
  some ((p6.1 + 7) / 15)

def s_X1_basicPay (M : Mem) (x1 : Int32) : Option (Int32) :=
  (s_X1_quartersOfWeek M 0).bind fun r1 =>
  (s_X1_quartersOfWeek M 1).bind fun r2 =>
  (s_X1_quartersOfWeek M 2).bind fun r3 =>
  bnd (((2 * r1) + (3 * r2)) + (4 * r3)) fun z4 : Int32 =>
  some (((x1 * z4) + 4) / 8)

def L_X1_categoryAt_4 (M : Mem) (x1 : Int32) : Nat → Int32 → Int32 → Option (Int32 × Int32)
  | 0, _, _ => none
  | f + 1, y2, y3 =>
    (s_X4_size M 36).bind fun r4 =>
    if r4 ≤ y3 then
      some (y2, y3)
    else
      (s_X4_get M 36 y3 0).bind fun r5 =>
      Option.bind (α := Int32) (
        if x1 < r5 then
          some y2
        else
          (s_X4_get M 36 y3 1).bind fun r7 =>
          if r7 ≤ x1 then
            some y2
          else
            (s_X4_get M 36 y3 2).bind fun r8 =>
            some r8) fun p9 =>
      bnd (y3 + 1) fun z10 : Int32 =>
      L_X1_categoryAt_4 M x1 f p9 z10

def s_X1_categoryAt (M : Mem) (x1 : Int32) : Option (Int32) :=
  bnd ((-1)) fun z1 : Int32 =>
  (L_X1_categoryAt_4 M x1 FU z1 0).bind fun p11 =>
  some p11.1

def L_X1_quartersOf_20 (M : Mem) (x1 : Int32) (x2 : Int32) (r1 : Int32) : Nat → Int32 → Int32 → Int32 → Option (Int32 × Int32 × Int32)
  | 0, _, _, _ => none
  | f + 1, y3, y4, y5 =>
    if 7 ≤ y5 then
      some (y3, y4, y5)
    else
      (s_X1_minutesOf M y5 x2).bind fun r6 =>
      bnd ((r6 - r6 / 15 * 15) - (r1 - r1 / 15 * 15)) fun z7 : Int32 =>
      bnd (y3 - (r6 / 15)) fun z8 : Int32 =>
      bnd (α := Int32) (
        if 0 < z7 then
          bnd (y4 + 1) fun z10 : Int32 =>
          z10
        else
          if z7 = 0 then
            if x1 ≤ y5 then
              y4
            else
              bnd (y4 + 1) fun z11 : Int32 =>
              z11
          else
            y4) fun p12 =>
      bnd (y5 + 1) fun z13 : Int32 =>
      L_X1_quartersOf_20 M x1 x2 r1 f z8 p12 z13

def s_X1_quartersOf (M : Mem) (x1 : Int32) (x2 : Int32) : Option (Int32) :=
  (s_X1_minutesOf M x1 x2).bind fun r1 =>
  (s_X1_quartersOfWeek M x2).bind fun r2 =>
  (L_X1_quartersOf_20 M x1 x2 r1 FU r2 0 0).bind fun p14 =>
  bnd (α := Int32) (
    if p14.1 ≤ p14.2.1 then
      0
    else
      1) fun p16 =>
  some ((r1 / 15) + p16)

def s_X2_add (M : Mem) (x1 : Int32) (x2 : Int32) (x3 : Int32) (x4 : Int32) : Option (Int32 × Mem) :=
  (s_X4_size M 31).bind fun r1 =>
  (s_X4_insert M 31 r1).bind fun r2 =>
  (s_X4_set r2 31 r1 0 x1).bind fun r3 =>
  (s_X4_set r3 31 r1 1 x2).bind fun r4 =>
  (s_X4_set r4 31 r1 2 x3).bind fun r5 =>
  (s_X4_set r5 31 r1 3 x4).bind fun r6 =>
  some (r1, r6)

def L_X2_nextChange_6 (M : Mem) (x1 : Int32) : Nat → Int32 → Int32 → Option (Int32 × Int32)
  | 0, _, _ => none
  | f + 1, y1, y2 =>
    (s_X4_size M 31).bind fun r3 =>
    if r3 ≤ y2 then
      some (y1, y2)
    else
      (s_X4_get M 31 y2 1).bind fun r4 =>
      (s_X4_get M 31 y2 2).bind fun r5 =>
      bnd (α := Int32) (
        if r4 ≤ x1 then
          y1
        else
          (if r4 < y1 then r4 else y1)) fun p7 =>
      bnd (α := Int32) (
        if r5 ≤ x1 then
          p7
        else
          (if r5 < p7 then r5 else p7)) fun p9 =>
      bnd (y2 + 1) fun z10 : Int32 =>
      L_X2_nextChange_6 M x1 f p9 z10

def s_X2_nextChange (M : Mem) (x1 : Int32) : Option (Int32) :=
  (L_X2_nextChange_6 M x1 FU 1440 0).bind fun p11 =>
  some p11.1

def s_X2_isBetween (x0 : Int32) (x1 : Int32) (x2 : Int32) : Option (Int32) :=
  if x2 ≤ x1 then
    if x1 = x2 then
      some 1
    else
      if x1 ≤ x0 then
        some 1
      else
        if x2 ≤ x0 then
          some 0
        else
          some 1
  else
    if x0 < x1 then
      some 0
    else
      if x2 ≤ x0 then
        some 0
      else
        some 1

def L_X2_greatestRate_5 (M : Mem) (x1 : Int32) (x2 : Int32) : Nat → Int32 → Int32 → Option (Int32 × Int32)
  | 0, _, _ => none
  | f + 1, y1, y2 =>
    (s_X4_size M 31).bind fun r3 =>
    if r3 ≤ y2 then
      some (y1, y2)
    else
      (s_X4_get M 31 y2 0).bind fun r4 =>
      bnd (α := Int32) (
        if ((r4 >>> (x1 &&& 31)) &&& 1) = 1 then
          1
        else
          0) fun p6 =>
      Option.bind (α := Int32) (
        if p6 = 0 then
          some y1
        else
          (s_X4_get M 31 y2 1).bind fun r8 =>
          (s_X4_get M 31 y2 2).bind fun r9 =>
          (s_X2_isBetween x2 r8 r9).bind fun r10 =>
          if r10 = 0 then
            some y1
          else
            (s_X4_get M 31 y2 3).bind fun r11 =>
            bnd (if y1 < r11 then r11 else y1) fun z12 : Int32 =>
            some z12) fun p13 =>
      bnd (y2 + 1) fun z14 : Int32 =>
      L_X2_greatestRate_5 M x1 x2 f p13 z14

def s_X2_greatestRate (M : Mem) (x1 : Int32) (x2 : Int32) : Option (Int32) :=
  (L_X2_greatestRate_5 M x1 x2 FU 0 0).bind fun p15 =>
  some p15.1

def L_X2_sumOver_8 (M : Mem) (x2 : Int32) : Nat → Int32 → Int32 → Int32 → Option (Int32 × Int32 × Int32)
  | 0, _, _, _ => none
  | f + 1, y1, y2, y3 =>
    if 1440 ≤ y3 then
      some (y1, y2, y3)
    else
      if x2 ≤ y2 then
        some (y1, y2, y3)
      else
        bnd (y2 / 1440) fun z4 : Int32 =>
        (s_X2_nextChange M (y2 - y2 / 1440 * 1440)).bind fun r5 =>
        bnd (if (z4 * 1440) + r5 < x2 then (z4 * 1440) + r5 else x2) fun z6 : Int32 =>
        (s_X2_greatestRate M z4 (y2 - y2 / 1440 * 1440)).bind fun r7 =>
        bnd (y1 + (r7 * (z6 - y2))) fun z8 : Int32 =>
        bnd (y3 + 1) fun z9 : Int32 =>
        L_X2_sumOver_8 M x2 f z8 z6 z9

def s_X2_sumOver (M : Mem) (x1 : Int32) (x2 : Int32) : Option (Int32) :=
  (L_X2_sumOver_8 M x2 FU 0 x1 0).bind fun p10 =>
  some p10.1

def L_X2_payFor_4 (M : Mem) (t1 : Nat) : Nat → Int32 → Int32 → Option (Int32 × Int32)
  | 0, _, _ => none
  | f + 1, y1, y2 =>
    (s_X4_size M t1).bind fun r3 =>
    if r3 ≤ y2 then
      some (y1, y2)
    else
      (s_X4_get M t1 y2 0).bind fun r4 =>
      (s_X4_get M t1 y2 1).bind fun r5 =>
      (s_X2_sumOver M r4 r5).bind fun r6 =>
      bnd (y1 + r6) fun z7 : Int32 =>
      bnd (y2 + 1) fun z8 : Int32 =>
      L_X2_payFor_4 M t1 f z7 z8

def s_X2_payFor (M : Mem) (t1 : Nat) : Option (Int32) :=
  (L_X2_payFor_4 M t1 FU 0 0).bind fun p9 =>
  some ((p9.1 + 30) / 60)

def s_X6_requireWithin (x0 : Int32) (x1 : Int32) (x2 : Int32) : Option (Nat) :=
  if x0 < x1 then
    some 1
  else
    if x0 ≤ x2 then
      some 0
    else
      some 1

def s_X6_find (hn : Nat) (x1 : Int32) : Option (Nat × Nat) :=
  if x1 < 0 then
    some (3, 0)
  else
    if (nI hn) ≤ x1 then
      some (3, 0)
    else
      if x1 < 6 then
        (mrs hn x1).bind fun u1 =>
        some (0, u1)
      else
        some (3, 0)

def s_X6_setWage (M : Mem) (hn : Nat) (x1 : Int32) (x2 : Int32) : Option (Nat × Int32 × Mem) :=
  (s_X6_find hn x1).bind fun r1 =>
  if ¬ r1.1 = 0 then some (r1.1, 0, M) else
  (s_X6_requireWithin x2 1 100000).bind fun r2 =>
  if ¬ r2 = 0 then some (r2, 0, M) else
  bnd (M r1.2 0) fun z3 : Int32 =>
  bnd (mst M r1.2 0 x2) fun M4 : Mem =>
  some (0, z3, M4)

def s_X6_requireRoom (M : Mem) (t0 : Nat) (x1 : Int32) : Option (Nat) :=
  (s_X4_size M t0).bind fun r1 =>
  if r1 < x1 then
    some 0
  else
    some 2

def L_X6_placeOfPunch_4 (M : Mem) (t0 : Nat) (x1 : Int32) : Nat → Int32 → Int32 → Option (Int32 × Int32)
  | 0, _, _ => none
  | f + 1, y1, y2 =>
    (s_X4_size M t0).bind fun r3 =>
    if r3 ≤ y2 then
      some (y1, y2)
    else
      (s_X4_get M t0 y2 0).bind fun r4 =>
      bnd (α := Int32) (
        if x1 ≤ r4 then
          y1
        else
          bnd (y2 + 1) fun z6 : Int32 =>
          z6) fun p7 =>
      bnd (y2 + 1) fun z8 : Int32 =>
      L_X6_placeOfPunch_4 M t0 x1 f p7 z8

def s_X6_placeOfPunch (M : Mem) (t0 : Nat) (x1 : Int32) : Option (Int32) :=
  (L_X6_placeOfPunch_4 M t0 x1 FU 0 0).bind fun p9 =>
  some p9.1

def s_X6_isPunchAt (M : Mem) (t0 : Nat) (x1 : Int32) (x2 : Int32) : Option (Int32) :=
  (s_X4_size M t0).bind fun r1 =>
  if r1 ≤ x1 then
    some 0
  else
    (s_X4_get M t0 x1 0).bind fun r2 =>
    if r2 = x2 then
      some 1
    else
      some 0

def s_X6_punch (M : Mem) (hn : Nat) (x1 : Int32) (x2 : Int32) (x3 : Int32) : Option (Nat × Int32 × Mem) :=
  (s_X6_find hn x1).bind fun r1 =>
  if ¬ r1.1 = 0 then some (r1.1, 0, M) else
  (s_X6_requireWithin x2 0 10080).bind fun r2 =>
  if ¬ r2 = 0 then some (r2, 0, M) else
  (s_X6_requireRoom M (r1.2 + 1) 40).bind fun r3 =>
  if ¬ r3 = 0 then some (r3, 0, M) else
  (s_X6_placeOfPunch M (r1.2 + 1) x2).bind fun r4 =>
  (s_X6_isPunchAt M (r1.2 + 1) r4 x2).bind fun r5 =>
  if r5 = 0 then
    (s_X4_insert M (r1.2 + 1) r4).bind fun r6 =>
    (s_X4_set r6 (r1.2 + 1) r4 0 x2).bind fun r7 =>
    bnd (α := Int32) (
      if x3 = 0 then
        0
      else
        1) fun p9 =>
    (s_X4_set r7 (r1.2 + 1) r4 1 p9).bind fun r10 =>
    (s_X4_size r10 (r1.2 + 1)).bind fun r11 =>
    some (0, r11, r10)
  else
    some (2, 0, M)

def s_X6_removePunch (M : Mem) (hn : Nat) (x1 : Int32) (x2 : Int32) : Option (Nat × Int32 × Mem) :=
  (s_X6_find hn x1).bind fun r1 =>
  if ¬ r1.1 = 0 then some (r1.1, 0, M) else
  (s_X6_placeOfPunch M (r1.2 + 1) x2).bind fun r2 =>
  (s_X6_isPunchAt M (r1.2 + 1) r2 x2).bind fun r3 =>
  if r3 = 0 then
    some (4, 0, M)
  else
    (s_X4_get M (r1.2 + 1) r2 1).bind fun r4 =>
    bnd (α := Int32) (
      if r4 = 1 then
        1
      else
        0) fun p6 =>
    (s_X4_remove M (r1.2 + 1) r2).bind fun r7 =>
    (bchk p6).bind fun v8 =>
    some (0, v8, r7)

def s_X6_addByHand (M : Mem) (t0 : Nat) (x1 : Int32) (x2 : Int32) (x3 : Int32) : Option (Nat × Int32 × Mem) :=
  (s_X6_requireWithin x1 0 10079).bind fun r1 =>
  if ¬ r1 = 0 then some (r1, 0, M) else
  (s_X6_requireWithin x2 (x1 + 1) 10080).bind fun r2 =>
  if ¬ r2 = 0 then some (r2, 0, M) else
  (s_X6_requireRoom M t0 x3).bind fun r3 =>
  if ¬ r3 = 0 then some (r3, 0, M) else
  (s_X4_addSpan M t0 x1 x2).bind fun r4 =>
  (s_X4_size r4 t0).bind fun r5 =>
  some (0, r5 - 1, r4)

def s_X6_enter (M : Mem) (hn : Nat) (x1 : Int32) (x2 : Int32) (x3 : Int32) : Option (Nat × Int32 × Mem) :=
  (s_X6_find hn x1).bind fun r1 =>
  if ¬ r1.1 = 0 then some (r1.1, 0, M) else
  (s_X6_addByHand M (r1.2 + 3) x2 x3 20).bind fun r2 =>
  if ¬ r2.1 = 0 then some (r2.1, 0, r2.2.2) else
  some (0, r2.2.1, r2.2.2)

def s_X6_requireNumber (M : Mem) (t0 : Nat) (x1 : Int32) : Option (Nat) :=
  if x1 < 0 then
    some 3
  else
    (s_X4_size M t0).bind fun r1 =>
    if x1 < r1 then
      some 0
    else
      some 3

def s_X6_removeNumbered (M : Mem) (t0 : Nat) (x1 : Int32) : Option (Nat × Int32 × Mem) :=
  (s_X6_requireNumber M t0 x1).bind fun r1 =>
  if ¬ r1 = 0 then some (r1, 0, M) else
  (s_X4_remove M t0 x1).bind fun r2 =>
  (s_X4_size r2 t0).bind fun r3 =>
  some (0, r3, r2)

def s_X6_removeEntry (M : Mem) (hn : Nat) (x1 : Int32) (x2 : Int32) : Option (Nat × Int32 × Mem) :=
  (s_X6_find hn x1).bind fun r1 =>
  if ¬ r1.1 = 0 then some (r1.1, 0, M) else
  (s_X6_removeNumbered M (r1.2 + 3) x2).bind fun r2 =>
  if ¬ r2.1 = 0 then some (r2.1, 0, r2.2.2) else
  some (0, r2.2.1, r2.2.2)

def s_X6_enterBreak (M : Mem) (hn : Nat) (x1 : Int32) (x2 : Int32) (x3 : Int32) : Option (Nat × Int32 × Mem) :=
  (s_X6_find hn x1).bind fun r1 =>
  if ¬ r1.1 = 0 then some (r1.1, 0, M) else
  (s_X6_addByHand M (r1.2 + 5) x2 x3 20).bind fun r2 =>
  if ¬ r2.1 = 0 then some (r2.1, 0, r2.2.2) else
  some (0, r2.2.1, r2.2.2)

def s_X6_removeBreak (M : Mem) (hn : Nat) (x1 : Int32) (x2 : Int32) : Option (Nat × Int32 × Mem) :=
  (s_X6_find hn x1).bind fun r1 =>
  if ¬ r1.1 = 0 then some (r1.1, 0, M) else
  (s_X6_removeNumbered M (r1.2 + 5) x2).bind fun r2 =>
  if ¬ r2.1 = 0 then some (r2.1, 0, r2.2.2) else
  some (0, r2.2.1, r2.2.2)

def s_X6_addPremium (M : Mem) (x1 : Int32) (x2 : Int32) (x3 : Int32) (x4 : Int32) : Option (Nat × Int32 × Mem) :=
  (s_X6_requireWithin x1 1 127).bind fun r1 =>
  if ¬ r1 = 0 then some (r1, 0, M) else
  (s_X6_requireWithin x2 0 1439).bind fun r2 =>
  if ¬ r2 = 0 then some (r2, 0, M) else
  (s_X6_requireWithin x3 0 1439).bind fun r3 =>
  if ¬ r3 = 0 then some (r3, 0, M) else
  (s_X6_requireWithin x4 1 10000).bind fun r4 =>
  if ¬ r4 = 0 then some (r4, 0, M) else
  (s_X6_requireRoom M 31 6).bind fun r5 =>
  if ¬ r5 = 0 then some (r5, 0, M) else
  (s_X2_add M x1 x2 x3 x4).bind fun r6 =>
  some (0, r6.1, r6.2)

def s_X6_removePremium (M : Mem) (x1 : Int32) : Option (Nat × Int32 × Mem) :=
  (s_X6_removeNumbered M 31 x1).bind fun r1 =>
  if ¬ r1.1 = 0 then some (r1.1, 0, r1.2.2) else
  some (0, r1.2.1, r1.2.2)

def s_X6_closeWeek (M : Mem) (G : Mel) (hn : Nat) (x1 : Int32) : Option (Nat × Int32 × Mem × Mel) :=
  (s_X6_find hn x1).bind fun r1 =>
  if ¬ r1.1 = 0 then some (r1.1, 0, M, G) else
  (s_X4_size M (r1.2 + 1)).bind fun r2 =>
  if r2 = 0 then
    (s_X4_size M (r1.2 + 3)).bind fun r8 =>
    if r8 = 0 then
      some (2, 0, M, G)
    else
      (s_X1_read M r1.2).bind fun r9 =>
      (s_X1_basicPay r9 (r9 r1.2 0)).bind fun r10 =>
      (s_X2_payFor r9 36).bind fun r11 =>
      bnd (r10 + r11) fun z12 : Int32 =>
      (s_X0_beginNextWeek r9 G r1.2 z12).bind fun r13 =>
      some (0, z12, r13.1, r13.2)
  else
    (s_X1_read M r1.2).bind fun r3 =>
    (s_X1_basicPay r3 (r3 r1.2 0)).bind fun r4 =>
    (s_X2_payFor r3 36).bind fun r5 =>
    bnd (r4 + r5) fun z6 : Int32 =>
    (s_X0_beginNextWeek r3 G r1.2 z6).bind fun r7 =>
    some (0, z6, r7.1, r7.2)

def s_X6_employees (hn : Nat) : Option (Int32) :=
  some (nI hn)

def s_X6_closedWeeks (M : Mem) (hn : Nat) (x1 : Int32) : Option (Nat × Int32) :=
  (s_X6_find hn x1).bind fun r1 =>
  if ¬ r1.1 = 0 then some (r1.1, 0) else
  some (0, M r1.2 1)

def s_X6_earned (G : Mel) (hn : Nat) (x1 : Int32) : Option (Nat × Int64) :=
  (s_X6_find hn x1).bind fun r1 =>
  if ¬ r1.1 = 0 then some (r1.1, 0) else
  some (0, G r1.2 2)

def s_X6_shifts (M : Mem) (hn : Nat) (x1 : Int32) : Option (Nat × Int32 × Mem) :=
  (s_X6_find hn x1).bind fun r1 =>
  if ¬ r1.1 = 0 then some (r1.1, 0, M) else
  (s_X3_read M (r1.2 + 1)).bind fun r2 =>
  (s_X4_size r2 44).bind fun r3 =>
  some (0, r3, r2)

def s_X6_shiftBegin (M : Mem) (hn : Nat) (x1 : Int32) (x2 : Int32) : Option (Nat × Int32 × Mem) :=
  (s_X6_find hn x1).bind fun r1 =>
  if ¬ r1.1 = 0 then some (r1.1, 0, M) else
  (s_X3_read M (r1.2 + 1)).bind fun r2 =>
  (s_X6_requireNumber r2 44 x2).bind fun r3 =>
  if ¬ r3 = 0 then some (r3, 0, r2) else
  (s_X4_get r2 44 x2 0).bind fun r4 =>
  some (0, r4, r2)

def s_X6_shiftEnd (M : Mem) (hn : Nat) (x1 : Int32) (x2 : Int32) : Option (Nat × Int32 × Mem) :=
  (s_X6_find hn x1).bind fun r1 =>
  if ¬ r1.1 = 0 then some (r1.1, 0, M) else
  (s_X3_read M (r1.2 + 1)).bind fun r2 =>
  (s_X6_requireNumber r2 44 x2).bind fun r3 =>
  if ¬ r3 = 0 then some (r3, 0, r2) else
  (s_X4_get r2 44 x2 1).bind fun r4 =>
  some (0, r4, r2)

def s_X6_repairedShifts (M : Mem) (hn : Nat) (x1 : Int32) : Option (Nat × Int32 × Mem) :=
  (s_X6_find hn x1).bind fun r1 =>
  if ¬ r1.1 = 0 then some (r1.1, 0, M) else
  (s_X3_read M (r1.2 + 1)).bind fun r2 =>
  some (0, r2 43 1, r2)

def L_X6_countContaining_4 (M : Mem) (t0 : Nat) (x1 : Int32) : Nat → Int32 → Int32 → Option (Int32 × Int32)
  | 0, _, _ => none
  | f + 1, y1, y2 =>
    (s_X4_size M t0).bind fun r3 =>
    if r3 ≤ y2 then
      some (y1, y2)
    else
      (s_X4_get M t0 y2 0).bind fun r4 =>
      Option.bind (α := Int32) (
        if x1 < r4 then
          some y1
        else
          (s_X4_get M t0 y2 1).bind fun r6 =>
          if r6 ≤ x1 then
            some y1
          else
            bnd (y1 + 1) fun z7 : Int32 =>
            some z7) fun p8 =>
      bnd (y2 + 1) fun z9 : Int32 =>
      L_X6_countContaining_4 M t0 x1 f p8 z9

def s_X6_countContaining (M : Mem) (t0 : Nat) (x1 : Int32) : Option (Int32) :=
  (L_X6_countContaining_4 M t0 x1 FU 0 0).bind fun p10 =>
  some p10.1

def s_X6_coverage (M : Mem) (hn : Nat) (x1 : Int32) (x2 : Int32) : Option (Nat × Int32 × Mem) :=
  (s_X6_find hn x1).bind fun r1 =>
  if ¬ r1.1 = 0 then some (r1.1, 0, M) else
  (s_X6_requireWithin x2 0 10079).bind fun r2 =>
  if ¬ r2 = 0 then some (r2, 0, M) else
  (s_X3_read M (r1.2 + 1)).bind fun r3 =>
  (s_X6_countContaining r3 44 x2).bind fun r4 =>
  (s_X6_countContaining r3 (r1.2 + 3) x2).bind fun r5 =>
  some (0, r4 + r5, r3)

def s_X6_overlap (M : Mem) (hn : Nat) (x1 : Int32) : Option (Nat × Int32 × Mem) :=
  (s_X6_find hn x1).bind fun r1 =>
  if ¬ r1.1 = 0 then some (r1.1, 0, M) else
  (s_X5_read M r1.2).bind fun r2 =>
  some (0, r2 38 3, r2)

def s_X6_workedOn (M : Mem) (hn : Nat) (x1 : Int32) (x2 : Int32) : Option (Nat × Int32 × Mem) :=
  (s_X6_find hn x1).bind fun r1 =>
  if ¬ r1.1 = 0 then some (r1.1, 0, M) else
  (s_X6_requireWithin x2 0 6).bind fun r2 =>
  if ¬ r2 = 0 then some (r2, 0, M) else
  (s_X5_read M r1.2).bind fun r3 =>
  (s_X6_minutesOnDay r3 41 x2).bind fun r4 =>
  some (0, r4, r3)

def s_X6_stretches (M : Mem) (hn : Nat) (x1 : Int32) : Option (Nat × Int32 × Mem) :=
  (s_X6_find hn x1).bind fun r1 =>
  if ¬ r1.1 = 0 then some (r1.1, 0, M) else
  (s_X5_read M r1.2).bind fun r2 =>
  (s_X4_size r2 41).bind fun r3 =>
  some (0, r3, r2)

def L_X6_longest_4 (M : Mem) (t0 : Nat) : Nat → Int32 → Int32 → Option (Int32 × Int32)
  | 0, _, _ => none
  | f + 1, y1, y2 =>
    (s_X4_size M t0).bind fun r3 =>
    if r3 ≤ y2 then
      some (y1, y2)
    else
      (s_X4_get M t0 y2 1).bind fun r4 =>
      (s_X4_get M t0 y2 0).bind fun r5 =>
      bnd (if y1 < r4 - r5 then r4 - r5 else y1) fun z6 : Int32 =>
      bnd (y2 + 1) fun z7 : Int32 =>
      L_X6_longest_4 M t0 f z6 z7

def s_X6_longest (M : Mem) (t0 : Nat) : Option (Int32) :=
  (L_X6_longest_4 M t0 FU 0 0).bind fun p8 =>
  some p8.1

def s_X6_longestStretch (M : Mem) (hn : Nat) (x1 : Int32) : Option (Nat × Int32 × Mem) :=
  (s_X6_find hn x1).bind fun r1 =>
  if ¬ r1.1 = 0 then some (r1.1, 0, M) else
  (s_X5_read M r1.2).bind fun r2 =>
  (s_X6_longest r2 41).bind fun r3 =>
  some (0, r3, r2)

def s_X6_category (M : Mem) (hn : Nat) (x1 : Int32) (x2 : Int32) : Option (Nat × Int32 × Mem) :=
  (s_X6_find hn x1).bind fun r1 =>
  if ¬ r1.1 = 0 then some (r1.1, 0, M) else
  (s_X6_requireWithin x2 0 10079).bind fun r2 =>
  if ¬ r2 = 0 then some (r2, 0, M) else
  (s_X1_read M r1.2).bind fun r3 =>
  (s_X1_categoryAt r3 x2).bind fun r4 =>
  some (0, r4, r3)

def s_X6_minutes (M : Mem) (hn : Nat) (x1 : Int32) (x2 : Int32) (x3 : Int32) : Option (Nat × Int32 × Mem) :=
  (s_X6_find hn x1).bind fun r1 =>
  if ¬ r1.1 = 0 then some (r1.1, 0, M) else
  (s_X6_requireWithin x2 0 6).bind fun r2 =>
  if ¬ r2 = 0 then some (r2, 0, M) else
  (s_X6_requireWithin x3 0 2).bind fun r3 =>
  if ¬ r3 = 0 then some (r3, 0, M) else
  (s_X1_read M r1.2).bind fun r4 =>
  (s_X1_minutesOf r4 x2 x3).bind fun r5 =>
  some (0, r5, r4)

def s_X6_quarters (M : Mem) (hn : Nat) (x1 : Int32) (x2 : Int32) (x3 : Int32) : Option (Nat × Int32 × Mem) :=
  (s_X6_find hn x1).bind fun r1 =>
  if ¬ r1.1 = 0 then some (r1.1, 0, M) else
  (s_X6_requireWithin x2 0 6).bind fun r2 =>
  if ¬ r2 = 0 then some (r2, 0, M) else
  (s_X6_requireWithin x3 0 2).bind fun r3 =>
  if ¬ r3 = 0 then some (r3, 0, M) else
  (s_X1_read M r1.2).bind fun r4 =>
  (s_X1_quartersOf r4 x2 x3).bind fun r5 =>
  some (0, r5, r4)

def s_X6_premiumPay (M : Mem) (hn : Nat) (x1 : Int32) : Option (Nat × Int32 × Mem) :=
  (s_X6_find hn x1).bind fun r1 =>
  if ¬ r1.1 = 0 then some (r1.1, 0, M) else
  (s_X1_read M r1.2).bind fun r2 =>
  (s_X2_payFor r2 36).bind fun r3 =>
  some (0, r3, r2)

def s_X6_pay (M : Mem) (hn : Nat) (x1 : Int32) : Option (Nat × Int32 × Mem) :=
  (s_X6_find hn x1).bind fun r1 =>
  if ¬ r1.1 = 0 then some (r1.1, 0, M) else
  (s_X1_read M r1.2).bind fun r2 =>
  (s_X1_basicPay r2 (r2 r1.2 0)).bind fun r3 =>
  (s_X2_payFor r2 36).bind fun r4 =>
  some (0, r3 + r4, r2)

def s_X7_in (x0 : Int32) (x1 : Int32) (x2 : Int32) : Option (Int32) :=
  if x0 < x1 then
    some 0
  else
    if x2 < x0 then
      some 0
    else
      some 1

def s_X7_hire (M : Mem) (x1 : Int32) : Option (Int32 × Mem) :=
  (s_X7_in x1 1 100000).bind fun r1 =>
  bnd (α := Int32) (
    if r1 = 0 then
      1
    else
      if (M 1 1) = 6 then
        2
      else
        0) fun p3 =>
  bnd (mst M 1 0 p3) fun M4 : Mem =>
  if (M4 1 0) ≤ 0 then
    (mwr 6 M4 2 (M4 1 1) x1).bind fun M5 =>
    bnd (mst M5 1 1 ((M5 1 1) + 1)) fun M6 : Mem =>
    some ((M6 1 1) - 1, M6)
  else
    some (0, M4)

def s_X7_thrown (M : Mem) : Option (Int32) :=
  some (M 1 0)

def s_X7_isOne (M : Mem) (x1 : Int32) : Option (Int32) :=
  (s_X7_in x1 0 ((M 1 1) - 1)).bind fun r1 =>
  (bchk r1).bind fun v2 =>
  some v2

def s_X7_setWage (M : Mem) (x1 : Int32) (x2 : Int32) : Option (Int32 × Mem) :=
  (s_X7_isOne M x1).bind fun r1 =>
  Option.bind (α := Int32) (
    if r1 = 0 then
      some 1
    else
      (s_X7_in x2 1 100000).bind fun r3 =>
      if r3 = 0 then
        some 2
      else
        some 0) fun p4 =>
  bnd (mst M 1 0 p4) fun M5 : Mem =>
  if (M5 1 0) ≤ 0 then
    (mrd 6 (M5 2) x1).bind fun v6 =>
    (mwr 6 M5 2 x1 x2).bind fun M7 =>
    some (v6, M7)
  else
    some (0, M5)

def L_X7_placeOf_2 (M : Mem) (x1 : Int32) (x2 : Int32) : Nat → Int32 → Option (Int32)
  | 0, _ => none
  | f + 1, y1 =>
    (mrd 6 (M 5) x1).bind fun v2 =>
    if v2 ≤ y1 then
      some y1
    else
      (mrd 246 (M 6) ((41 * x1) + y1)).bind fun v3 =>
      if x2 ≤ v3 then
        some y1
      else
        bnd (y1 + 1) fun z4 : Int32 =>
        L_X7_placeOf_2 M x1 x2 f z4

def s_X7_placeOf (M : Mem) (x1 : Int32) (x2 : Int32) : Option (Int32) :=
  (L_X7_placeOf_2 M x1 x2 FU 0).bind fun p5 =>
  some p5

def s_X7_hasPunch (M : Mem) (x1 : Int32) (x2 : Int32) : Option (Int32) :=
  (s_X7_placeOf M x1 x2).bind fun r1 =>
  (mrd 6 (M 5) x1).bind fun v2 =>
  if v2 ≤ r1 then
    some 0
  else
    (mrd 246 (M 6) ((41 * x1) + r1)).bind fun v3 =>
    if v3 = x2 then
      some 1
    else
      some 0

def L_X7_punch_81 (x1 : Int32) (r8 : Int32) : Nat → Int32 → Mem → Option (Int32 × Mem)
  | 0, _, _ => none
  | f + 1, y10, M11 =>
    if y10 ≤ r8 then
      some (y10, M11)
    else
      (mrd 246 (M11 6) (((41 * x1) + y10) - 1)).bind fun v12 =>
      (mwr 246 M11 6 ((41 * x1) + y10) v12).bind fun M13 =>
      (mrd 246 (M13 7) (((41 * x1) + y10) - 1)).bind fun v14 =>
      (mwr 246 M13 7 ((41 * x1) + y10) (vp_nar .boolean v14)).bind fun M15 =>
      bnd (y10 + (-1)) fun z16 : Int32 =>
      L_X7_punch_81 x1 r8 f z16 M15

def s_X7_punch (M : Mem) (x1 : Int32) (x2 : Int32) (x3 : Int32) : Option (Int32 × Mem) :=
  (s_X7_isOne M x1).bind fun r1 =>
  Option.bind (α := Int32) (
    if r1 = 0 then
      some 1
    else
      (s_X7_in x2 0 10080).bind fun r3 =>
      if r3 = 0 then
        some 2
      else
        (s_X7_hasPunch M x1 x2).bind fun r4 =>
        if r4 = 0 then
          (mrd 6 (M 5) x1).bind fun v5 =>
          if v5 = 40 then
            some 3
          else
            some 0
        else
          some 3) fun p6 =>
  bnd (mst M 1 0 p6) fun M7 : Mem =>
  if (M7 1 0) ≤ 0 then
    (s_X7_placeOf M7 x1 x2).bind fun r8 =>
    (mrd 6 (M7 5) x1).bind fun v9 =>
    (L_X7_punch_81 x1 r8 FU v9 M7).bind fun p17 =>
    (mwr 246 p17.2 6 ((41 * x1) + r8) x2).bind fun M18 =>
    (mwr 246 M18 7 ((41 * x1) + r8) (vp_nar .boolean x3)).bind fun M19 =>
    (mrd 6 (M19 5) x1).bind fun v20 =>
    (mwr 6 M19 5 x1 (v20 + 1)).bind fun M21 =>
    (mrd 6 (M21 5) x1).bind fun v22 =>
    some (v22, M21)
  else
    some (0, M7)

def L_X7_removePunch_72 (x1 : Int32) : Nat → Int32 → Mem → Option (Int32 × Mem)
  | 0, _, _ => none
  | f + 1, y10, M11 =>
    (mrd 6 (M11 5) x1).bind fun v12 =>
    if v12 ≤ y10 then
      some (y10, M11)
    else
      (mrd 246 (M11 6) (((41 * x1) + y10) + 1)).bind fun v13 =>
      (mwr 246 M11 6 ((41 * x1) + y10) v13).bind fun M14 =>
      (mrd 246 (M14 7) (((41 * x1) + y10) + 1)).bind fun v15 =>
      (mwr 246 M14 7 ((41 * x1) + y10) (vp_nar .boolean v15)).bind fun M16 =>
      bnd (y10 + 1) fun z17 : Int32 =>
      L_X7_removePunch_72 x1 f z17 M16

def s_X7_removePunch (M : Mem) (x1 : Int32) (x2 : Int32) : Option (Int32 × Mem) :=
  (s_X7_isOne M x1).bind fun r1 =>
  Option.bind (α := Int32) (
    if r1 = 0 then
      some 1
    else
      (s_X7_hasPunch M x1 x2).bind fun r3 =>
      if r3 = 0 then
        some 2
      else
        some 0) fun p4 =>
  bnd (mst M 1 0 p4) fun M5 : Mem =>
  if (M5 1 0) ≤ 0 then
    (s_X7_placeOf M5 x1 x2).bind fun r6 =>
    (mrd 246 (M5 7) ((41 * x1) + r6)).bind fun v7 =>
    (mrd 6 (M5 5) x1).bind fun v8 =>
    (mwr 6 M5 5 x1 (v8 - 1)).bind fun M9 =>
    (L_X7_removePunch_72 x1 FU r6 M9).bind fun p18 =>
    (bchk v7).bind fun v19 =>
    some (v19, p18.2)
  else
    some (0, M5)

def s_X7_puts (M : Mem) (x1 : Int32) (x2 : Int32) (x3 : Int32) (q4 : Nat) (q5 : Nat) (q6 : Nat) : Option (Int32 × Mem) :=
  (s_X7_isOne M x1).bind fun r1 =>
  Option.bind (α := Int32) (
    if r1 = 0 then
      some 1
    else
      (s_X7_in x2 0 10079).bind fun r3 =>
      if r3 = 0 then
        some 2
      else
        if x3 ≤ x2 then
          some 2
        else
          if x3 ≤ 10080 then
            (mrd 6 (M q4) x1).bind fun v4 =>
            if v4 = 20 then
              some 3
            else
              some 0
          else
            some 2) fun p5 =>
  bnd (mst M 1 0 p5) fun M6 : Mem =>
  if (M6 1 0) ≤ 0 then
    (mrd 6 (M6 q4) x1).bind fun v7 =>
    (mwr 120 M6 q5 ((20 * x1) + v7) x2).bind fun M8 =>
    (mrd 6 (M8 q4) x1).bind fun v9 =>
    (mwr 120 M8 q6 ((20 * x1) + v9) x3).bind fun M10 =>
    (mrd 6 (M10 q4) x1).bind fun v11 =>
    (mwr 6 M10 q4 x1 (v11 + 1)).bind fun M12 =>
    (mrd 6 (M12 q4) x1).bind fun v13 =>
    some (v13 - 1, M12)
  else
    some (0, M6)

def s_X7_enter (M : Mem) (x1 : Int32) (x2 : Int32) (x3 : Int32) : Option (Int32 × Mem) :=
  (s_X7_puts M x1 x2 x3 8 9 10).bind fun r1 =>
  some (r1.1, r1.2)

def L_X7_takes_54 (x1 : Int32) (q3 : Nat) (q4 : Nat) (q5 : Nat) : Nat → Int32 → Mem → Option (Int32 × Mem)
  | 0, _, _ => none
  | f + 1, y10, M11 =>
    (mrd 6 (M11 q3) x1).bind fun v12 =>
    if ((20 * x1) + v12) ≤ y10 then
      some (y10, M11)
    else
      (mrd 120 (M11 q4) (y10 + 1)).bind fun v13 =>
      (mwr 120 M11 q4 y10 v13).bind fun M14 =>
      (mrd 120 (M14 q5) (y10 + 1)).bind fun v15 =>
      (mwr 120 M14 q5 y10 v15).bind fun M16 =>
      bnd (y10 + 1) fun z17 : Int32 =>
      L_X7_takes_54 x1 q3 q4 q5 f z17 M16

def s_X7_takes (M : Mem) (x1 : Int32) (x2 : Int32) (q3 : Nat) (q4 : Nat) (q5 : Nat) : Option (Int32 × Mem) :=
  (s_X7_isOne M x1).bind fun r1 =>
  Option.bind (α := Int32) (
    if r1 = 0 then
      some 1
    else
      (mrd 6 (M q3) x1).bind fun v3 =>
      (s_X7_in x2 0 (v3 - 1)).bind fun r4 =>
      if r4 = 0 then
        some 1
      else
        some 0) fun p5 =>
  bnd (mst M 1 0 p5) fun M6 : Mem =>
  if (M6 1 0) ≤ 0 then
    (mrd 6 (M6 q3) x1).bind fun v7 =>
    (mwr 6 M6 q3 x1 (v7 - 1)).bind fun M8 =>
    bnd ((20 * x1) + x2) fun z9 : Int32 =>
    (L_X7_takes_54 x1 q3 q4 q5 FU z9 M8).bind fun p18 =>
    (mrd 6 (p18.2 q3) x1).bind fun v19 =>
    some (v19, p18.2)
  else
    some (0, M6)

def s_X7_removeEntry (M : Mem) (x1 : Int32) (x2 : Int32) : Option (Int32 × Mem) :=
  (s_X7_takes M x1 x2 8 9 10).bind fun r1 =>
  some (r1.1, r1.2)

def s_X7_enterBreak (M : Mem) (x1 : Int32) (x2 : Int32) (x3 : Int32) : Option (Int32 × Mem) :=
  (s_X7_puts M x1 x2 x3 11 12 13).bind fun r1 =>
  some (r1.1, r1.2)

def s_X7_removeBreak (M : Mem) (x1 : Int32) (x2 : Int32) : Option (Int32 × Mem) :=
  (s_X7_takes M x1 x2 11 12 13).bind fun r1 =>
  some (r1.1, r1.2)

def s_X7_addPremium (M : Mem) (x1 : Int32) (x2 : Int32) (x3 : Int32) (x4 : Int32) : Option (Int32 × Mem) :=
  (s_X7_in x1 1 127).bind fun r1 =>
  Option.bind (α := Int32) (
    if r1 = 0 then
      some 0
    else
      (s_X7_in x2 0 1439).bind fun r3 =>
      if r3 = 0 then
        some 0
      else
        (s_X7_in x3 0 1439).bind fun r4 =>
        if r4 = 0 then
          some 0
        else
          (s_X7_in x4 1 10000).bind fun r5 =>
          if r5 = 0 then
            some 0
          else
            some 1) fun p6 =>
  bnd (α := Int32) (
    if p6 = 0 then
      1
    else
      if (M 1 14) = 6 then
        2
      else
        0) fun p8 =>
  bnd (mst M 1 0 p8) fun M9 : Mem =>
  if (M9 1 0) ≤ 0 then
    (mwr 6 M9 14 (M9 1 14) x1).bind fun M10 =>
    (mwr 6 M10 15 (M10 1 14) x2).bind fun M11 =>
    (mwr 6 M11 16 (M11 1 14) x3).bind fun M12 =>
    (mwr 6 M12 17 (M12 1 14) x4).bind fun M13 =>
    bnd (mst M13 1 14 ((M13 1 14) + 1)) fun M14 : Mem =>
    some ((M14 1 14) - 1, M14)
  else
    some (0, M9)

def L_X7_removePremium_44 : Nat → Int32 → Mem → Option (Int32 × Mem)
  | 0, _, _ => none
  | f + 1, y6, M7 =>
    if (M7 1 14) ≤ y6 then
      some (y6, M7)
    else
      (mrd 6 (M7 14) (y6 + 1)).bind fun v8 =>
      (mwr 6 M7 14 y6 v8).bind fun M9 =>
      (mrd 6 (M9 15) (y6 + 1)).bind fun v10 =>
      (mwr 6 M9 15 y6 v10).bind fun M11 =>
      (mrd 6 (M11 16) (y6 + 1)).bind fun v12 =>
      (mwr 6 M11 16 y6 v12).bind fun M13 =>
      (mrd 6 (M13 17) (y6 + 1)).bind fun v14 =>
      (mwr 6 M13 17 y6 v14).bind fun M15 =>
      bnd (y6 + 1) fun z16 : Int32 =>
      L_X7_removePremium_44 f z16 M15

def s_X7_removePremium (M : Mem) (x1 : Int32) : Option (Int32 × Mem) :=
  (s_X7_in x1 0 ((M 1 14) - 1)).bind fun r1 =>
  bnd (α := Int32) (
    if r1 = 0 then
      1
    else
      0) fun p3 =>
  bnd (mst M 1 0 p3) fun M4 : Mem =>
  if (M4 1 0) ≤ 0 then
    bnd (mst M4 1 14 ((M4 1 14) - 1)) fun M5 : Mem =>
    (L_X7_removePremium_44 FU x1 M5).bind fun p17 =>
    some (p17.2 1 14, p17.2)
  else
    some (0, M4)

def s_X7_makes (M : Mem) (x1 : Int32) (x2 : Int32) (x3 : Int32) : Option (Mem) :=
  (mwr 41 M 18 (M 1 19) x1).bind fun M1 =>
  (mwr 41 M1 19 (M1 1 19) x2).bind fun M2 =>
  bnd (α := Int32) (
    if x3 = 0 then
      0
    else
      1) fun p4 =>
  bnd (mst M2 1 20 ((M2 1 20) + p4)) fun M5 : Mem =>
  bnd (mst M5 1 19 ((M5 1 19) + 1)) fun M6 : Mem =>
  some M6

def L_X7_findsShifts_12 (x1 : Int32) : Nat → Int32 → Mem → Option (Int32 × Mem)
  | 0, _, _ => none
  | f + 1, y3, M4 =>
    (mrd 6 (M4 5) x1).bind fun v5 =>
    if v5 ≤ y3 then
      some (y3, M4)
    else
      (mrd 246 (M4 6) ((41 * x1) + y3)).bind fun v6 =>
      (mrd 6 (M4 5) x1).bind fun v7 =>
      bnd (α := Int32) (
        if (y3 + 1) = v7 then
          1
        else
          0) fun p9 =>
      Option.bind (α := Int32) (
        if p9 = 0 then
          (mrd 246 (M4 6) (((41 * x1) + y3) + 1)).bind fun v11 =>
          some v11
        else
          some 10080) fun p12 =>
      bnd (α := Int32) (
        if y3 = 0 then
          1
        else
          0) fun p14 =>
      Option.bind (α := Int32) (
        if p14 = 0 then
          (mrd 246 (M4 6) (((41 * x1) + y3) - 1)).bind fun v16 =>
          some v16
        else
          some 0) fun p17 =>
      (mrd 246 (M4 7) ((41 * x1) + y3)).bind fun v18 =>
      Option.bind (α := Mem) (
        if v18 = 0 then
          if p14 = 0 then
            (mrd 246 (M4 7) (((41 * x1) + y3) - 1)).bind fun v23 =>
            if v23 = 0 then
              bnd (α := Int32) (
                if 480 ≤ (v6 - p17) then
                  (v6 - 480)
                else
                  p17) fun p25 =>
              (s_X7_makes M4 p25 v6 1).bind fun r26 =>
              some r26
            else
              some M4
          else
            bnd (α := Int32) (
              if 480 ≤ (v6 - p17) then
                (v6 - 480)
              else
                p17) fun p21 =>
            (s_X7_makes M4 p21 v6 1).bind fun r22 =>
            some r22
        else
          Option.bind (α := Int32) (
            if p9 = 0 then
              (mrd 246 (M4 7) (((41 * x1) + y3) + 1)).bind fun v28 =>
              if v28 = 0 then
                some 1
              else
                some 0
            else
              some 0) fun p29 =>
          bnd (α := Int32) (
            if p29 = 0 then
              if 480 ≤ (p12 - v6) then
                (v6 + 480)
              else
                p12
            else
              p12) fun p31 =>
          bnd (α := Int32) (
            if p29 = 0 then
              1
            else
              0) fun p33 =>
          (s_X7_makes M4 v6 p31 p33).bind fun r34 =>
          some r34) fun p35 =>
      bnd (y3 + 1) fun z36 : Int32 =>
      L_X7_findsShifts_12 x1 f z36 p35

def s_X7_findsShifts (M : Mem) (x1 : Int32) : Option (Mem) :=
  bnd (mst M 1 19 0) fun M1 : Mem =>
  bnd (mst M1 1 20 0) fun M2 : Mem =>
  (L_X7_findsShifts_12 x1 FU 0 M2).bind fun p37 =>
  some p37.2

def s_X7_marks (M : Mem) (q1 : Nat) (x2 : Int32) (x3 : Int32) : Option (Mem) :=
  (mrd 10081 (M q1) x2).bind fun v1 =>
  (mwr 10081 M q1 x2 (v1 + 1)).bind fun M2 =>
  (mrd 10081 (M2 q1) x3).bind fun v3 =>
  (mwr 10081 M2 q1 x3 (v3 - 1)).bind fun M4 =>
  some M4

def L_X7_findsPaid_17 : Nat → Int32 → Mem → Option (Int32 × Mem)
  | 0, _, _ => none
  | f + 1, y4, M5 =>
    if 7 ≤ y4 then
      some (y4, M5)
    else
      (mwr 7 M5 23 y4 0).bind fun M6 =>
      (mwr 7 M6 24 y4 0).bind fun M7 =>
      bnd (y4 + 1) fun z8 : Int32 =>
      L_X7_findsPaid_17 f z8 M7

def L_X7_findsPaid_47 : Nat → Int32 → Int32 → Mem → Option (Int32 × Int32 × Mem)
  | 0, _, _, _ => none
  | f + 1, y10, y11, M12 =>
    if 10080 ≤ y11 then
      some (y10, y11, M12)
    else
      (mrd 10081 (M12 20) y11).bind fun v13 =>
      Option.bind (α := Int32) (
        if y11 ≤ 0 then
          some 0
        else
          (mrd 10081 (M12 20) (y11 - 1)).bind fun v15 =>
          some v15) fun p16 =>
      (mwr 10081 M12 20 y11 (v13 + p16)).bind fun M17 =>
      (mrd 10081 (M17 21) y11).bind fun v18 =>
      Option.bind (α := Int32) (
        if y11 ≤ 0 then
          some 0
        else
          (mrd 10081 (M17 21) (y11 - 1)).bind fun v20 =>
          some v20) fun p21 =>
      (mwr 10081 M17 21 y11 (v18 + p21)).bind fun M22 =>
      (mrd 10081 (M22 20) y11).bind fun v23 =>
      Option.bind (α := Int32) (
        if v23 ≤ 0 then
          some 0
        else
          (mrd 10081 (M22 21) y11).bind fun v25 =>
          if v25 = 0 then
            some 1
          else
            some 0) fun p26 =>
      bnd (α := Int32) (
        if p26 = 0 then
          0
        else
          (y10 + 1)) fun p28 =>
      (mrd 10081 (M22 20) y11).bind fun v29 =>
      bnd (α := Int32) (
        if v29 ≤ 1 then
          0
        else
          1) fun p31 =>
      bnd (mst M22 1 31 ((M22 1 31) + p31)) fun M32 : Mem =>
      bnd (α := Int32) (
        if p28 = 1 then
          1
        else
          0) fun p34 =>
      bnd (mst M32 1 32 ((M32 1 32) + p34)) fun M35 : Mem =>
      bnd (α := Int32) (
        if p28 ≤ (M35 1 33) then
          (M35 1 33)
        else
          p28) fun p37 =>
      bnd (mst M35 1 33 p37) fun M38 : Mem =>
      (mrd 7 (M38 23) (y11 / 1440)).bind fun v39 =>
      bnd (α := Int32) (
        if p26 = 0 then
          0
        else
          1) fun p41 =>
      (mwr 7 M38 23 (y11 / 1440) (v39 + p41)).bind fun M42 =>
      Option.bind (α := Int32) (
        if p26 = 0 then
          some 0
        else
          (s_X7_in p28 361 390).bind fun r44 =>
          if r44 = 0 then
            some 1
          else
            some 0) fun p45 =>
      bnd (α := Int32) (
        if p45 = 0 then
          ((-1))
        else
          0) fun p47 =>
      (mwr 10080 M42 22 y11 p47).bind fun M48 =>
      (mrd 7 (M48 24) (y11 / 1440)).bind fun v49 =>
      bnd (α := Int32) (
        if p45 = 0 then
          0
        else
          1) fun p51 =>
      (mwr 7 M48 24 (y11 / 1440) (v49 + p51)).bind fun M52 =>
      bnd (y11 + 1) fun z53 : Int32 =>
      L_X7_findsPaid_47 f p28 z53 M52

def s_X7_findsPaid (M : Mem) : Option (Mem) :=
  bnd (mst M 1 31 0) fun M1 : Mem =>
  bnd (mst M1 1 32 0) fun M2 : Mem =>
  bnd (mst M2 1 33 0) fun M3 : Mem =>
  (L_X7_findsPaid_17 FU 0 M3).bind fun p9 =>
  (L_X7_findsPaid_47 FU 0 0 p9.2).bind fun p54 =>
  some p54.2.2

def L_X7_findsKinds_4 (M : Mem) : Nat → Int32 → Int32 → Option (Int32 × Int32)
  | 0, _, _ => none
  | f + 1, y1, y2 =>
    if 6 ≤ y2 then
      some (y1, y2)
    else
      Option.bind (α := Int32) (
        if y1 = 0 then
          some 0
        else
          (mrd 7 (M 24) y2).bind fun v4 =>
          if v4 ≤ 0 then
            some 0
          else
            some 1) fun p5 =>
      bnd (y2 + 1) fun z6 : Int32 =>
      L_X7_findsKinds_4 M f p5 z6

def L_X7_findsKinds_37 : Nat → Int32 → Mem → Option (Int32 × Mem)
  | 0, _, _ => none
  | f + 1, y8, M9 =>
    if 21 ≤ y8 then
      some (y8, M9)
    else
      (mwr 21 M9 25 y8 0).bind fun M10 =>
      bnd (y8 + 1) fun z11 : Int32 =>
      L_X7_findsKinds_37 f z11 M10

def L_X7_findsKinds_63 (p7 : Int32 × Int32) : Nat → Int32 → Int32 → Int32 → Mem → Option (Int32 × Int32 × Int32 × Mem)
  | 0, _, _, _, _ => none
  | f + 1, y13, y14, y15, M16 =>
    if 10080 ≤ y15 then
      some (y13, y14, y15, M16)
    else
      bnd (α := Int32) (
        if (y15 - y15 / 1440 * 1440) = 0 then
          0
        else
          y14) fun p18 =>
      bnd (α := Int32) (
        if (y15 / 1440) = 6 then
          if p7.1 = 0 then
            0
          else
            1
        else
          0) fun p20 =>
      (mrd 10080 (M16 22) y15).bind fun v21 =>
      Option.bind (α := Int32 × Int32 × Mem) (
        if v21 = ((-1)) then
          some (y13, p18, M16)
        else
          bnd (α := Int32) (
            if 720 ≤ p18 then
              1
            else
              if p20 = 0 then
                0
              else
                if p18 < 480 then
                  0
                else
                  1) fun p24 =>
          bnd (α := Int32) (
            if p24 = 0 then
              if 480 ≤ p18 then
                1
              else
                if 2400 ≤ y13 then
                  1
                else
                  if p20 = 0 then
                    0
                  else
                    1
            else
              2) fun p26 =>
          (mwr 10080 M16 22 y15 p26).bind fun M27 =>
          (mrd 10080 (M27 22) y15).bind fun v28 =>
          (mrd 21 (M27 25) ((3 * (y15 / 1440)) + v28)).bind fun v29 =>
          (mwr 21 M27 25 ((3 * (y15 / 1440)) + v28) (v29 + 1)).bind fun M30 =>
          bnd (p18 + 1) fun z31 : Int32 =>
          bnd (y13 + 1) fun z32 : Int32 =>
          some (z32, z31, M30)) fun p33 =>
      bnd (y15 + 1) fun z34 : Int32 =>
      L_X7_findsKinds_63 p7 f p33.1 p33.2.1 z34 p33.2.2

def s_X7_findsKinds (M : Mem) : Option (Mem) :=
  (L_X7_findsKinds_4 M FU 1 0).bind fun p7 =>
  (L_X7_findsKinds_37 FU 0 M).bind fun p12 =>
  (L_X7_findsKinds_63 p7 FU 0 0 0 p12.2).bind fun p35 =>
  some p35.2.2.2

def L_X7_ahead_20 (M : Mem) (x1 : Int32) (x2 : Int32) (z2 : Int32) : Nat → Int32 → Int32 → Option (Int32 × Int32)
  | 0, _, _ => none
  | f + 1, y3, y4 =>
    if 7 ≤ y4 then
      some (y3, y4)
    else
      (mrd 21 (M 25) ((3 * y4) + x2)).bind fun v5 =>
      bnd (v5 - v5 / 15 * 15) fun z6 : Int32 =>
      bnd (α := Int32) (
        if z2 < z6 then
          1
        else
          if z6 = z2 then
            if x1 ≤ y4 then
              0
            else
              1
          else
            0) fun p8 =>
      bnd (y3 + p8) fun z9 : Int32 =>
      bnd (y4 + 1) fun z10 : Int32 =>
      L_X7_ahead_20 M x1 x2 z2 f z9 z10

def s_X7_ahead (M : Mem) (x1 : Int32) (x2 : Int32) : Option (Int32) :=
  (mrd 21 (M 25) ((3 * x1) + x2)).bind fun v1 =>
  bnd (v1 - v1 / 15 * 15) fun z2 : Int32 =>
  (L_X7_ahead_20 M x1 x2 z2 FU 0 0).bind fun p11 =>
  some p11.1

def L_X7_findsShares_14 (y1 : Int32) : Nat → Int32 → Int32 → Int32 → Mem → Option (Int32 × Int32 × Int32 × Mem)
  | 0, _, _, _, _ => none
  | f + 1, y3, y4, y5, M6 =>
    if 7 ≤ y5 then
      some (y3, y4, y5, M6)
    else
      (mrd 21 (M6 25) ((3 * y5) + y1)).bind fun v7 =>
      bnd (y3 + v7) fun z8 : Int32 =>
      (mrd 21 (M6 25) ((3 * y5) + y1)).bind fun v9 =>
      (mwr 21 M6 26 ((3 * y5) + y1) (v9 / 15)).bind fun M10 =>
      (mrd 21 (M10 25) ((3 * y5) + y1)).bind fun v11 =>
      bnd (y4 - (v11 / 15)) fun z12 : Int32 =>
      bnd (y5 + 1) fun z13 : Int32 =>
      L_X7_findsShares_14 y1 f z8 z12 z13 M10

def L_X7_findsShares_108 (y1 : Int32) (z17 : Int32) : Nat → Int32 → Mem → Option (Int32 × Mem)
  | 0, _, _ => none
  | f + 1, y18, M19 =>
    if 7 ≤ y18 then
      some (y18, M19)
    else
      (mrd 21 (M19 26) ((3 * y18) + y1)).bind fun v20 =>
      (s_X7_ahead M19 y18 y1).bind fun r21 =>
      bnd (α := Int32) (
        if z17 ≤ r21 then
          0
        else
          1) fun p23 =>
      (mwr 21 M19 26 ((3 * y18) + y1) (v20 + p23)).bind fun M24 =>
      bnd (y18 + 1) fun z25 : Int32 =>
      L_X7_findsShares_108 y1 z17 f z25 M24

def L_X7_findsShares_2 : Nat → Int32 → Mem → Option (Int32 × Mem)
  | 0, _, _ => none
  | f + 1, y1, M2 =>
    if 3 ≤ y1 then
      some (y1, M2)
    else
      (L_X7_findsShares_14 y1 FU 0 0 0 M2).bind fun p14 =>
      (mwr 3 p14.2.2.2 27 y1 ((p14.1 + 7) / 15)).bind fun M15 =>
      (mrd 3 (M15 27) y1).bind fun v16 =>
      bnd (p14.2.1 + v16) fun z17 : Int32 =>
      (L_X7_findsShares_108 y1 z17 FU 0 M15).bind fun p26 =>
      bnd (y1 + 1) fun z27 : Int32 =>
      L_X7_findsShares_2 f z27 p26.2

def s_X7_findsShares (M : Mem) : Option (Mem) :=
  (L_X7_findsShares_2 FU 0 M).bind fun p28 =>
  some p28.2

def L_X7_lays_7 : Nat → Int32 → Mem → Option (Int32 × Mem)
  | 0, _, _ => none
  | f + 1, y2, M3 =>
    if 10080 < y2 then
      some (y2, M3)
    else
      (mwr 10081 M3 20 y2 0).bind fun M4 =>
      (mwr 10081 M4 21 y2 0).bind fun M5 =>
      bnd (y2 + 1) fun z6 : Int32 =>
      L_X7_lays_7 f z6 M5

def L_X7_lays_36 : Nat → Int32 → Mem → Option (Int32 × Mem)
  | 0, _, _ => none
  | f + 1, y8, M9 =>
    if (M9 1 19) ≤ y8 then
      some (y8, M9)
    else
      (mrd 41 (M9 18) y8).bind fun v10 =>
      (mrd 41 (M9 19) y8).bind fun v11 =>
      (s_X7_marks M9 20 v10 v11).bind fun r12 =>
      bnd (y8 + 1) fun z13 : Int32 =>
      L_X7_lays_36 f z13 r12

def L_X7_lays_75 (x1 : Int32) : Nat → Int32 → Mem → Option (Int32 × Mem)
  | 0, _, _ => none
  | f + 1, y16, M17 =>
    (mrd 6 (M17 8) x1).bind fun v18 =>
    if ((20 * x1) + v18) ≤ y16 then
      some (y16, M17)
    else
      (mrd 120 (M17 9) y16).bind fun v19 =>
      (mrd 120 (M17 10) y16).bind fun v20 =>
      (s_X7_marks M17 20 v19 v20).bind fun r21 =>
      bnd (y16 + 1) fun z22 : Int32 =>
      L_X7_lays_75 x1 f z22 r21

def L_X7_lays_121 (x1 : Int32) : Nat → Int32 → Mem → Option (Int32 × Mem)
  | 0, _, _ => none
  | f + 1, y25, M26 =>
    (mrd 6 (M26 11) x1).bind fun v27 =>
    if ((20 * x1) + v27) ≤ y25 then
      some (y25, M26)
    else
      (mrd 120 (M26 12) y25).bind fun v28 =>
      (mrd 120 (M26 13) y25).bind fun v29 =>
      (s_X7_marks M26 21 v28 v29).bind fun r30 =>
      bnd (y25 + 1) fun z31 : Int32 =>
      L_X7_lays_121 x1 f z31 r30

def s_X7_lays (M : Mem) (x1 : Int32) : Option (Mem) :=
  (s_X7_findsShifts M x1).bind fun r1 =>
  (L_X7_lays_7 FU 0 r1).bind fun p7 =>
  (L_X7_lays_36 FU 0 p7.2).bind fun p14 =>
  bnd (20 * x1) fun z15 : Int32 =>
  (L_X7_lays_75 x1 FU z15 p14.2).bind fun p23 =>
  bnd (20 * x1) fun z24 : Int32 =>
  (L_X7_lays_121 x1 FU z24 p23.2).bind fun p32 =>
  (s_X7_findsPaid p32.2).bind fun r33 =>
  (s_X7_findsKinds r33).bind fun r34 =>
  (s_X7_findsShares r34).bind fun r35 =>
  some r35

def s_X7_applies (M : Mem) (x1 : Int32) (x2 : Int32) : Option (Int32) :=
  bnd (x2 - x2 / 1440 * 1440) fun z1 : Int32 =>
  (mrd 6 (M 15) x1).bind fun v2 =>
  (mrd 6 (M 16) x1).bind fun v3 =>
  Option.bind (α := Int32) (
    if v3 ≤ v2 then
      if v2 = v3 then
        some 1
      else
        if v2 ≤ z1 then
          some 1
        else
          if v3 ≤ z1 then
            some 0
          else
            some 1
    else
      (s_X7_in z1 v2 (v3 - 1)).bind fun r5 =>
      some r5) fun p6 =>
  (mrd 6 (M 14) x1).bind fun v7 =>
  if ((v7 >>> ((x2 / 1440) &&& 31)) - (v7 >>> ((x2 / 1440) &&& 31)) / 2 * 2) = 1 then
    if p6 = 0 then
      some 0
    else
      some 1
  else
    some 0

def L_X7_extra_16 (M : Mem) (y2 : Int32) : Nat → Int32 → Int32 → Option (Int32 × Int32)
  | 0, _, _ => none
  | f + 1, y3, y4 =>
    if (M 1 14) ≤ y4 then
      some (y3, y4)
    else
      (mrd 10080 (M 22) y2).bind fun v5 =>
      if v5 = ((-1)) then
        some (y3, y4)
      else
        (mrd 6 (M 17) y4).bind fun v6 =>
        Option.bind (α := Int32) (
          if v6 ≤ y3 then
            some y3
          else
            (s_X7_applies M y4 y2).bind fun r8 =>
            if r8 = 0 then
              some y3
            else
              (mrd 6 (M 17) y4).bind fun v9 =>
              some v9) fun p10 =>
        bnd (y4 + 1) fun z11 : Int32 =>
        L_X7_extra_16 M y2 f p10 z11

def L_X7_extra_4 (M : Mem) : Nat → Int32 → Int32 → Option (Int32 × Int32)
  | 0, _, _ => none
  | f + 1, y1, y2 =>
    if 10080 ≤ y2 then
      some (y1, y2)
    else
      (L_X7_extra_16 M y2 FU 0 0).bind fun p12 =>
      bnd (y1 + p12.1) fun z13 : Int32 =>
      bnd (y2 + 1) fun z14 : Int32 =>
      L_X7_extra_4 M f z13 z14

def s_X7_extra (M : Mem) : Option (Int32) :=
  (L_X7_extra_4 M FU 0 0).bind fun p15 =>
  some ((p15.1 + 30) / 60)

def s_X7_payOf (M : Mem) (x1 : Int32) : Option (Int32 × Mem) :=
  (s_X7_lays M x1).bind fun r1 =>
  (mrd 6 (r1 2) x1).bind fun v2 =>
  (mrd 3 (r1 27) 0).bind fun v3 =>
  (mrd 3 (r1 27) 1).bind fun v4 =>
  (mrd 3 (r1 27) 2).bind fun v5 =>
  bnd (v2 * (((2 * v3) + (3 * v4)) + (4 * v5))) fun z6 : Int32 =>
  (s_X7_extra r1).bind fun r7 =>
  some (((z6 + 4) / 8) + r7, r1)

def s_X7_closeWeek (M : Mem) (G : Mel) (x1 : Int32) : Option (Int32 × Mem × Mel) :=
  (s_X7_isOne M x1).bind fun r1 =>
  Option.bind (α := Int32) (
    if r1 = 0 then
      some 1
    else
      (mrd 6 (M 5) x1).bind fun v3 =>
      if v3 = 0 then
        (mrd 6 (M 8) x1).bind fun v4 =>
        if v4 = 0 then
          some 2
        else
          some 0
      else
        some 0) fun p5 =>
  bnd (mst M 1 0 p5) fun M6 : Mem =>
  if (M6 1 0) ≤ 0 then
    (s_X7_payOf M6 x1).bind fun r7 =>
    (mrdL 6 (G 4) x1).bind fun v8 =>
    (mwrL 6 G 4 x1 (v8 + r7.1.toInt64)).bind fun G9 =>
    (mrd 6 (r7.2 3) x1).bind fun v10 =>
    (mwr 6 r7.2 3 x1 (v10 + 1)).bind fun M11 =>
    (mwr 6 M11 5 x1 0).bind fun M12 =>
    (mwr 6 M12 8 x1 0).bind fun M13 =>
    (mwr 6 M13 11 x1 0).bind fun M14 =>
    some (r7.1, M14, G9)
  else
    some (0, M6, G)

def s_X7_employees (M : Mem) : Option (Int32 × Mem) :=
  bnd (mst M 1 0 0) fun M1 : Mem =>
  some (M1 1 1, M1)

def s_X7_fails (M : Mem) (x1 : Int32) : Option (Int32 × Mem) :=
  bnd (mst M 1 0 x1) fun M1 : Mem =>
  some (0, M1)

def s_X7_closedWeeks (M : Mem) (x1 : Int32) : Option (Int32 × Mem) :=
  bnd (mst M 1 0 0) fun M1 : Mem =>
  (s_X7_isOne M1 x1).bind fun r2 =>
  if r2 = 0 then
    (s_X7_fails M1 1).bind fun r3 =>
    some (r3.1, r3.2)
  else
    (mrd 6 (M1 3) x1).bind fun v4 =>
    some (v4, M1)

def s_X7_earned (M : Mem) (G : Mel) (x1 : Int32) : Option (Int64 × Mem) :=
  (s_X7_isOne M x1).bind fun r1 =>
  bnd (α := Int32) (
    if r1 = 0 then
      1
    else
      0) fun p3 =>
  bnd (mst M 1 0 p3) fun M4 : Mem =>
  Option.bind (α := Int64) (
    if (M4 1 0) ≤ 0 then
      (mrdL 6 (G 4) x1).bind fun v6 =>
      some v6
    else
      some 0) fun p7 =>
  some (p7, M4)

def s_X7_looks (M : Mem) (x1 : Int32) : Option (Int32 × Mem) :=
  (s_X7_isOne M x1).bind fun r1 =>
  bnd (α := Int32) (
    if r1 = 0 then
      1
    else
      0) fun p3 =>
  bnd (mst M 1 0 p3) fun M4 : Mem =>
  Option.bind (α := Mem) (
    if (M4 1 0) = 0 then
      (s_X7_lays M4 x1).bind fun r6 =>
      some r6
    else
      some M4) fun p7 =>
  if (p7 1 0) = 0 then
    some (1, p7)
  else
    some (0, p7)

def s_X7_shifts (M : Mem) (x1 : Int32) : Option (Int32 × Mem) :=
  (s_X7_looks M x1).bind fun r1 =>
  if r1.1 = 0 then
    some (0, r1.2)
  else
    some (r1.2 1 19, r1.2)

def s_X7_shiftBegin (M : Mem) (x1 : Int32) (x2 : Int32) : Option (Int32 × Mem) :=
  (s_X7_looks M x1).bind fun r1 =>
  Option.bind (α := Int32) (
    if r1.1 = 0 then
      some 0
    else
      (s_X7_in x2 0 ((r1.2 1 19) - 1)).bind fun r3 =>
      if r3 = 0 then
        some 0
      else
        some 1) fun p4 =>
  if p4 = 0 then
    (s_X7_fails r1.2 1).bind fun r5 =>
    some (r5.1, r5.2)
  else
    (mrd 41 (r1.2 18) x2).bind fun v6 =>
    some (v6, r1.2)

def s_X7_shiftEnd (M : Mem) (x1 : Int32) (x2 : Int32) : Option (Int32 × Mem) :=
  (s_X7_looks M x1).bind fun r1 =>
  Option.bind (α := Int32) (
    if r1.1 = 0 then
      some 0
    else
      (s_X7_in x2 0 ((r1.2 1 19) - 1)).bind fun r3 =>
      if r3 = 0 then
        some 0
      else
        some 1) fun p4 =>
  if p4 = 0 then
    (s_X7_fails r1.2 1).bind fun r5 =>
    some (r5.1, r5.2)
  else
    (mrd 41 (r1.2 19) x2).bind fun v6 =>
    some (v6, r1.2)

def s_X7_repairedShifts (M : Mem) (x1 : Int32) : Option (Int32 × Mem) :=
  (s_X7_looks M x1).bind fun r1 =>
  if r1.1 = 0 then
    some (0, r1.2)
  else
    some (r1.2 1 20, r1.2)

def s_X7_coverage (M : Mem) (x1 : Int32) (x2 : Int32) : Option (Int32 × Mem) :=
  (s_X7_looks M x1).bind fun r1 =>
  Option.bind (α := Int32) (
    if r1.1 = 0 then
      some (r1.2 1 0)
    else
      (s_X7_in x2 0 10079).bind fun r3 =>
      if r3 = 0 then
        some 2
      else
        some (r1.2 1 0)) fun p4 =>
  bnd (mst r1.2 1 0 p4) fun M5 : Mem =>
  if (M5 1 0) ≤ 0 then
    (mrd 10081 (M5 20) x2).bind fun v6 =>
    some (v6, M5)
  else
    some (0, M5)

def s_X7_overlap (M : Mem) (x1 : Int32) : Option (Int32 × Mem) :=
  (s_X7_looks M x1).bind fun r1 =>
  if r1.1 = 0 then
    some (0, r1.2)
  else
    some (r1.2 1 31, r1.2)

def s_X7_workedOn (M : Mem) (x1 : Int32) (x2 : Int32) : Option (Int32 × Mem) :=
  (s_X7_looks M x1).bind fun r1 =>
  Option.bind (α := Int32) (
    if r1.1 = 0 then
      some (r1.2 1 0)
    else
      (s_X7_in x2 0 6).bind fun r3 =>
      if r3 = 0 then
        some 2
      else
        some (r1.2 1 0)) fun p4 =>
  bnd (mst r1.2 1 0 p4) fun M5 : Mem =>
  if (M5 1 0) ≤ 0 then
    (mrd 7 (M5 23) x2).bind fun v6 =>
    some (v6, M5)
  else
    some (0, M5)

def s_X7_stretches (M : Mem) (x1 : Int32) : Option (Int32 × Mem) :=
  (s_X7_looks M x1).bind fun r1 =>
  if r1.1 = 0 then
    some (0, r1.2)
  else
    some (r1.2 1 32, r1.2)

def s_X7_longestStretch (M : Mem) (x1 : Int32) : Option (Int32 × Mem) :=
  (s_X7_looks M x1).bind fun r1 =>
  if r1.1 = 0 then
    some (0, r1.2)
  else
    some (r1.2 1 33, r1.2)

def s_X7_category (M : Mem) (x1 : Int32) (x2 : Int32) : Option (Int32 × Mem) :=
  (s_X7_looks M x1).bind fun r1 =>
  Option.bind (α := Int32) (
    if r1.1 = 0 then
      some (r1.2 1 0)
    else
      (s_X7_in x2 0 10079).bind fun r3 =>
      if r3 = 0 then
        some 2
      else
        some (r1.2 1 0)) fun p4 =>
  bnd (mst r1.2 1 0 p4) fun M5 : Mem =>
  if (M5 1 0) ≤ 0 then
    (mrd 10080 (M5 22) x2).bind fun v6 =>
    some (v6, M5)
  else
    some (0, M5)

def s_X7_told (M : Mem) (x1 : Int32) (x2 : Int32) (x3 : Int32) (q4 : Nat) : Option (Int32 × Mem) :=
  (s_X7_looks M x1).bind fun r1 =>
  Option.bind (α := Int32) (
    if r1.1 = 0 then
      some (r1.2 1 0)
    else
      (s_X7_in x2 0 6).bind fun r3 =>
      if r3 = 0 then
        some 2
      else
        (s_X7_in x3 0 2).bind fun r4 =>
        if r4 = 0 then
          some 2
        else
          some (r1.2 1 0)) fun p5 =>
  bnd (mst r1.2 1 0 p5) fun M6 : Mem =>
  if (M6 1 0) ≤ 0 then
    (mrd 21 (M6 q4) ((3 * x2) + x3)).bind fun v7 =>
    some (v7, M6)
  else
    some (0, M6)

def s_X7_minutes (M : Mem) (x1 : Int32) (x2 : Int32) (x3 : Int32) : Option (Int32 × Mem) :=
  (s_X7_told M x1 x2 x3 25).bind fun r1 =>
  some (r1.1, r1.2)

def s_X7_quarters (M : Mem) (x1 : Int32) (x2 : Int32) (x3 : Int32) : Option (Int32 × Mem) :=
  (s_X7_told M x1 x2 x3 26).bind fun r1 =>
  some (r1.1, r1.2)

def s_X7_premiumPay (M : Mem) (x1 : Int32) : Option (Int32 × Mem) :=
  (s_X7_looks M x1).bind fun r1 =>
  if r1.1 = 0 then
    some (0, r1.2)
  else
    (s_X7_extra r1.2).bind fun r2 =>
    some (r2, r1.2)

def s_X7_pay (M : Mem) (x1 : Int32) : Option (Int32 × Mem) :=
  (s_X7_isOne M x1).bind fun r1 =>
  bnd (α := Int32) (
    if r1 = 0 then
      1
    else
      0) fun p3 =>
  bnd (mst M 1 0 p3) fun M4 : Mem =>
  if (M4 1 0) ≤ 0 then
    (s_X7_payOf M4 x1).bind fun r5 =>
    some (r5.1, r5.2)
  else
    some (0, M4)

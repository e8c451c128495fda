/-! the meanings of the methods, printed by program -/
theorem thr_z {α : Type} {x : Option (Nat × α)} {r : Nat × α} (h : x = some r) (hk : r.1 = 0) : x = some (0, r.2) := by rw [h, ← hk]
theorem thr_y {x : Option Nat} {r : Nat} (h : x = some r) (hk : r = 0) : x = some 0 := by rw [h, hk]
def s_X4_size (M : Mem) (t : Nat) : Option (Int32) :=
  some (M t 2)

def L_X4_insert_46 (t : Nat) (x1 : Int32) : Nat → Int32 → Mem → Option (Int32 × Mem)
  | 0, _, _ => none
  | f + 1, y2, M3 =>
    if y2 < ((x1 + 1) * (tw t)) then
      some (y2, M3)
    else
      (mrd (tl t) (M3 (t + 1)) (y2 - (tw t))).bind fun v4 =>
      (mwr (tl t) M3 (t + 1) y2 v4).bind fun M5 =>
      bnd (y2 + (-1)) fun z6 : Int32 =>
      L_X4_insert_46 t x1 f z6 M5

def s_X4_insert (M : Mem) (t : Nat) (x1 : Int32) : Option (Mem) :=
  if x1 < 0 then
    some M
  else
    if (M t 2) < x1 then
      some M
    else
      if (((M t 2) + 1) * (tw t)) ≤ (nI (tl t)) then
        bnd ((((M t 2) + 1) * (tw t)) - 1) fun z1 : Int32 =>
        (L_X4_insert_46 t x1 FU z1 M).bind fun p7 =>
        bnd (mst p7.2 t 2 ((p7.2 t 2) + 1)) fun M8 : Mem =>
        some M8
      else
        some M

def s_X4_set (M : Mem) (t : Nat) (x1 : Int32) (x2 : Int32) (x3 : Int32) : Option (Mem) :=
  if x1 < 0 then
    some M
  else
    if (M t 2) ≤ x1 then
      some M
    else
      if x2 < 0 then
        some M
      else
        if x2 < (tw t) then
          bnd ((x1 * (tw t)) + x2) fun z1 : Int32 =>
          if z1 < 0 then
            some M
          else
            if (nI (tl t)) ≤ z1 then
              some M
            else
              (mwr (tl t) M (t + 1) z1 x3).bind fun M2 =>
              some M2
        else
          some M

def s_X4_addSpan (M : Mem) (t : Nat) (x1 : Int32) (x2 : Int32) : Option (Mem) :=
  bnd (M t 2) fun z1 : Int32 =>
  (s_X4_insert M t z1).bind fun r2 =>
  (s_X4_set r2 t z1 0 x1).bind fun r3 =>
  (s_X4_set r3 t z1 1 x2).bind fun r4 =>
  some r4

def s_X4_clear (M : Mem) (t : Nat) : Option (Mem) :=
  bnd (mst M t 2 0) fun M1 : Mem =>
  some M1

def s_X4_get (M : Mem) (t : Nat) (x1 : Int32) (x2 : Int32) : Option (Int32) :=
  if x1 < 0 then
    some 0
  else
    if (M t 2) ≤ x1 then
      some 0
    else
      if x2 < 0 then
        some 0
      else
        if x2 < (tw t) then
          bnd ((x1 * (tw t)) + x2) fun z1 : Int32 =>
          if z1 < 0 then
            some 0
          else
            if (nI (tl t)) ≤ z1 then
              some 0
            else
              (mrd (tl t) (M (t + 1)) z1).bind fun v2 =>
              some v2
        else
          some 0

def s_X0_beginNextWeek (M : Mem) (G : Mel) (e : Nat) (x1 : Int32) : Option (Mem × Mel) :=
  bnd (mstL G e 2 ((G e 2) + x1.toInt64)) fun G1 : Mel =>
  bnd (mst M e 1 ((M e 1) + 1)) fun M2 : Mem =>
  (s_X4_clear M2 (e + 1)).bind fun r3 =>
  (s_X4_clear r3 (e + 3)).bind fun r4 =>
  (s_X4_clear r4 (e + 5)).bind fun r5 =>
  some (r5, G1)

def s_X3_isIn (M : Mem) (t0 : Nat) (x1 : Int32) : Option (Int32) :=
  (s_X4_get M t0 x1 1).bind fun r1 =>
  if r1 = 1 then
    some 1
  else
    some 0

def s_X3_addFromIn (M : Mem) (t1 : Nat) (x2 : Int32) : Option (Mem) :=
  (s_X4_get M t1 x2 0).bind fun r1 =>
  (s_X4_size M t1).bind fun r2 =>
  bnd (α := Int32) (
    if (x2 + 1) < r2 then
      0
    else
      1) fun p4 =>
  Option.bind (α := Int32) (
    if p4 = 0 then
      (s_X4_get M t1 (x2 + 1) 0).bind fun r6 =>
      some r6
    else
      some 10080) fun p7 =>
  if p4 = 0 then
    (s_X3_isIn M t1 (x2 + 1)).bind fun r10 =>
    if r10 = 0 then
      (s_X4_addSpan M 44 r1 p7).bind fun r11 =>
      some r11
    else
      bnd (mst M 43 1 ((M 43 1) + 1)) fun M12 : Mem =>
      (s_X4_addSpan M12 44 r1 (if p7 < r1 + 480 then p7 else r1 + 480)).bind fun r13 =>
      some r13
  else
    bnd (mst M 43 1 ((M 43 1) + 1)) fun M8 : Mem =>
    (s_X4_addSpan M8 44 r1 (if p7 < r1 + 480 then p7 else r1 + 480)).bind fun r9 =>
    some r9

def s_X3_addFromLoneOut (M : Mem) (t1 : Nat) (x2 : Int32) : Option (Mem) :=
  (s_X4_get M t1 x2 0).bind fun r1 =>
  Option.bind (α := Int32) (
    if x2 = 0 then
      some 0
    else
      (s_X4_get M t1 (x2 - 1) 0).bind fun r3 =>
      some r3) fun p4 =>
  bnd (mst M 43 1 ((M 43 1) + 1)) fun M5 : Mem =>
  (s_X4_addSpan M5 44 (if r1 - 480 < p4 then p4 else r1 - 480) r1).bind fun r6 =>
  some r6

def L_X3_read_14 (t1 : Nat) : Nat → Int32 → Mem → Option (Int32 × Mem)
  | 0, _, _ => none
  | f + 1, y3, M4 =>
    (s_X4_size M4 t1).bind fun r5 =>
    if r5 ≤ y3 then
      some (y3, M4)
    else
      (s_X3_isIn M4 t1 y3).bind fun r6 =>
      Option.bind (α := Mem) (
        if r6 = 0 then
          (s_X3_isIn M4 t1 (y3 - 1)).bind fun r8 =>
          if r8 = 0 then
            (s_X3_addFromLoneOut M4 t1 y3).bind fun r9 =>
            some r9
          else
            some M4
        else
          (s_X3_addFromIn M4 t1 y3).bind fun r10 =>
          some r10) fun p11 =>
      bnd (y3 + 1) fun z12 : Int32 =>
      L_X3_read_14 t1 f z12 p11

def s_X3_read (M : Mem) (t1 : Nat) : Option (Mem) :=
  (s_X4_clear M 44).bind fun r1 =>
  bnd (mst r1 43 1 0) fun M2 : Mem =>
  (L_X3_read_14 t1 FU 0 M2).bind fun p13 =>
  some p13.2

def L_X5_addEvent_15 (M : Mem) (x1 : Int32) : Nat → Int32 → Int32 → Option (Int32 × Int32)
  | 0, _, _ => none
  | f + 1, y3, y4 =>
    if y4 < 0 then
      some (y3, y4)
    else
      (s_X4_get M 39 y4 0).bind fun r5 =>
      if r5 ≤ x1 then
        some (y3, y4)
      else
        bnd (y4 + (-1)) fun z6 : Int32 =>
        L_X5_addEvent_15 M x1 f y4 z6

def s_X5_addEvent (M : Mem) (x1 : Int32) (x2 : Int32) (x3 : Int32) : Option (Mem) :=
  (s_X4_size M 39).bind fun r1 =>
  bnd (r1 - 1) fun z2 : Int32 =>
  (L_X5_addEvent_15 M x1 FU r1 z2).bind fun p7 =>
  (s_X4_insert M 39 p7.1).bind fun r8 =>
  (s_X4_set r8 39 p7.1 0 x1).bind fun r9 =>
  (s_X4_set r9 39 p7.1 1 x2).bind fun r10 =>
  (s_X4_set r10 39 p7.1 2 x3).bind fun r11 =>
  some r11

def L_X5_addEvents_3 (t1 : Nat) (x2 : Int32) (x3 : Int32) : Nat → Int32 → Mem → Option (Int32 × Mem)
  | 0, _, _ => none
  | f + 1, y1, M2 =>
    (s_X4_size M2 t1).bind fun r3 =>
    if r3 ≤ y1 then
      some (y1, M2)
    else
      (s_X4_get M2 t1 y1 0).bind fun r4 =>
      (s_X5_addEvent M2 r4 x2 x3).bind fun r5 =>
      (s_X4_get r5 t1 y1 1).bind fun r6 =>
      (s_X5_addEvent r5 r6 (-x2) (-x3)).bind fun r7 =>
      bnd (y1 + 1) fun z8 : Int32 =>
      L_X5_addEvents_3 t1 x2 x3 f z8 r7

def s_X5_addEvents (M : Mem) (t1 : Nat) (x2 : Int32) (x3 : Int32) : Option (Mem) :=
  (L_X5_addEvents_3 t1 x2 x3 FU 0 M).bind fun p9 =>
  some p9.2

def s_X5_addWorked (M : Mem) (x1 : Int32) (x2 : Int32) : Option (Mem) :=
  (s_X4_size M 41).bind fun r1 =>
  bnd (r1 - 1) fun z2 : Int32 =>
  if z2 < 0 then
    (s_X4_addSpan M 41 x1 x2).bind fun r3 =>
    some r3
  else
    (s_X4_get M 41 z2 1).bind fun r4 =>
    if r4 = x1 then
      (s_X4_set M 41 z2 1 x2).bind fun r6 =>
      some r6
    else
      (s_X4_addSpan M 41 x1 x2).bind fun r5 =>
      some r5

def L_X5_goThroughEvents_21 : Nat → Int32 → Int32 → Int32 → Int32 → Mem → Option (Int32 × Int32 × Int32 × Int32 × Mem)
  | 0, _, _, _, _, _ => none
  | f + 1, y3, y4, y5, y6, M7 =>
    (s_X4_size M7 39).bind fun r8 =>
    if r8 ≤ y6 then
      some (y3, y4, y5, y6, M7)
    else
      (s_X4_get M7 39 y6 0).bind fun r9 =>
      bnd (α := Mem) (
        if y3 < 2 then
          M7
        else
          bnd (mst M7 38 3 ((M7 38 3) + (r9 - y5))) fun M11 : Mem =>
          M11) fun p12 =>
      Option.bind (α := Mem) (
        if r9 ≤ y5 then
          some p12
        else
          if y3 < 1 then
            some p12
          else
            if y4 = 0 then
              (s_X5_addWorked p12 y5 r9).bind fun r14 =>
              some r14
            else
              some p12) fun p15 =>
      (s_X4_get p15 39 y6 1).bind fun r16 =>
      bnd (y3 + r16) fun z17 : Int32 =>
      (s_X4_get p15 39 y6 2).bind fun r18 =>
      bnd (y4 + r18) fun z19 : Int32 =>
      bnd (y6 + 1) fun z20 : Int32 =>
      L_X5_goThroughEvents_21 f z17 z19 r9 z20 p15

def s_X5_goThroughEvents (M : Mem) : Option (Mem) :=
  (s_X4_clear M 41).bind fun r1 =>
  bnd (mst r1 38 3 0) fun M2 : Mem =>
  (L_X5_goThroughEvents_21 FU 0 0 0 0 M2).bind fun p21 =>
  some p21.2.2.2.2

def s_X5_read (M : Mem) (e1 : Nat) : Option (Mem) :=
  (s_X3_read M (e1 + 1)).bind fun r1 =>
  (s_X4_clear r1 39).bind fun r2 =>
  (s_X5_addEvents r2 44 1 0).bind fun r3 =>
  (s_X5_addEvents r3 (e1 + 3) 1 0).bind fun r4 =>
  (s_X5_addEvents r4 (e1 + 5) 0 1).bind fun r5 =>
  (s_X5_goThroughEvents r5).bind fun r6 =>
  some r6

def L_X1_takeOffAutomaticBreaks_9 (t1 : Nat) : Nat → Int32 → Mem → Option (Int32 × Mem)
  | 0, _, _ => none
  | f + 1, y2, M3 =>
    (s_X4_size M3 t1).bind fun r4 =>
    if r4 ≤ y2 then
      some (y2, M3)
    else
      (s_X4_get M3 t1 y2 0).bind fun r5 =>
      (s_X4_get M3 t1 y2 1).bind fun r6 =>
      (s_X4_addSpan M3 34 r5 (if r5 + 360 < r6 then r5 + 360 else r6)).bind fun r7 =>
      Option.bind (α := Mem) (
        if r6 ≤ (r5 + 390) then
          some r7
        else
          (s_X4_addSpan r7 34 (r5 + 390) r6).bind fun r9 =>
          some r9) fun p10 =>
      bnd (y2 + 1) fun z11 : Int32 =>
      L_X1_takeOffAutomaticBreaks_9 t1 f z11 p10

def s_X1_takeOffAutomaticBreaks (M : Mem) (t1 : Nat) : Option (Mem) :=
  (s_X4_clear M 34).bind fun r1 =>
  (L_X1_takeOffAutomaticBreaks_9 t1 FU 0 r1).bind fun p12 =>
  some p12.2

def L_X6_minutesOnDay_4 (M : Mem) (t0 : Nat) (x1 : Int32) : Nat → Int32 → Int32 → Option (Int32 × Int32)
  | 0, _, _ => none
  | f + 1, y1, y2 =>
    (s_X4_size M t0).bind fun r3 =>
    if r3 ≤ y2 then
      some (y1, y2)
    else
      (s_X4_get M t0 y2 0).bind fun r4 =>
      bnd (if r4 < x1 * 1440 then x1 * 1440 else r4) fun z5 : Int32 =>
      (s_X4_get M t0 y2 1).bind fun r6 =>
      bnd (if (x1 + 1) * 1440 < r6 then (x1 + 1) * 1440 else r6) fun z7 : Int32 =>
      bnd (y1 + (if z7 - z5 < 0 then 0 else z7 - z5)) fun z8 : Int32 =>
      bnd (y2 + 1) fun z9 : Int32 =>
      L_X6_minutesOnDay_4 M t0 x1 f z8 z9

def s_X6_minutesOnDay (M : Mem) (t0 : Nat) (x1 : Int32) : Option (Int32) :=
  (L_X6_minutesOnDay_4 M t0 x1 FU 0 0).bind fun p10 =>
  some p10.1

def L_X1_isFull_4 (M : Mem) : Nat → Int32 → Int32 → Option (Int32 × Int32)
  | 0, _, _ => none
  | f + 1, y1, y2 =>
    if 6 ≤ y2 then
      some (y1, y2)
    else
      Option.bind (α := Int32) (
        if y1 = 0 then
          some 0
        else
          (s_X6_minutesOnDay M 34 y2).bind fun r4 =>
          if r4 ≤ 0 then
            some 0
          else
            some 1) fun p5 =>
      bnd (y2 + 1) fun z6 : Int32 =>
      L_X1_isFull_4 M f p5 z6

def s_X1_isFull (M : Mem) : Option (Int32) :=
  (L_X1_isFull_4 M FU 1 0).bind fun p7 =>
  (bchk p7.1).bind fun v8 =>
  some v8

def s_X1_untilLimit (x0 : Int32) (x1 : Int32) : Option (Int32) :=
  bnd (α := Int32) (
    if 480 ≤ x0 then
      if 720 ≤ x0 then
        10080
      else
        bnd (720 - x0) fun z2 : Int32 =>
        z2
    else
      bnd (480 - x0) fun z3 : Int32 =>
      z3) fun p4 =>
  if 2400 ≤ x1 then
    some p4
  else
    some (if 2400 - x1 < p4 then 2400 - x1 else p4)

def s_X1_categoryFor (x0 : Int32) (x1 : Int32) (x2 : Int32) : Option (Int32) :=
  if 720 ≤ x0 then
    some 2
  else
    if x2 = 0 then
      if 480 ≤ x0 then
        some 1
      else
        if 2400 ≤ x1 then
          some 1
        else
          if x2 = 0 then
            some 0
          else
            some 1
    else
      if x0 < 480 then
        if 480 ≤ x0 then
          some 1
        else
          if 2400 ≤ x1 then
            some 1
          else
            if x2 = 0 then
              some 0
            else
              some 1
      else
        some 2

def L_X1_addParts_6 (x1 : Int32) (x2 : Int32) (x3 : Int32) (x4 : Int32) (x5 : Int32) : Nat → Int32 → Int32 → Mem → Option (Int32 × Int32 × Mem)
  | 0, _, _, _ => none
  | f + 1, y1, y2, M3 =>
    if 1440 ≤ y2 then
      some (y1, y2, M3)
    else
      if x2 ≤ y1 then
        some (y1, y2, M3)
      else
        bnd ((x3 + y1) - x1) fun z4 : Int32 =>
        bnd ((x4 + y1) - x1) fun z5 : Int32 =>
        (s_X1_untilLimit z4 z5).bind fun r6 =>
        bnd (if r6 < x2 - y1 then r6 else x2 - y1) fun z7 : Int32 =>
        (s_X4_size M3 36).bind fun r8 =>
        (s_X4_addSpan M3 36 y1 (y1 + z7)).bind fun r9 =>
        (s_X1_categoryFor z4 z5 x5).bind fun r10 =>
        (s_X4_set r9 36 r8 2 r10).bind fun r11 =>
        bnd (y1 + z7) fun z12 : Int32 =>
        bnd (y2 + 1) fun z13 : Int32 =>
        L_X1_addParts_6 x1 x2 x3 x4 x5 f z12 z13 r11

def s_X1_addParts (M : Mem) (x1 : Int32) (x2 : Int32) (x3 : Int32) (x4 : Int32) (x5 : Int32) : Option (Mem) :=
  (L_X1_addParts_6 x1 x2 x3 x4 x5 FU x1 0 M).bind fun p14 =>
  some p14.2.2

def L_X1_addPartsOfDay_6 (x1 : Int32) (x2 : Int32) (x3 : Int32) : Nat → Int32 → Int32 → Mem → Option (Int32 × Int32 × Mem)
  | 0, _, _, _ => none
  | f + 1, y1, y2, M3 =>
    (s_X4_size M3 34).bind fun r4 =>
    if r4 ≤ y2 then
      some (y1, y2, M3)
    else
      (s_X4_get M3 34 y2 0).bind fun r5 =>
      bnd (if r5 < x1 * 1440 then x1 * 1440 else r5) fun z6 : Int32 =>
      (s_X4_get M3 34 y2 1).bind fun r7 =>
      bnd (if (x1 + 1) * 1440 < r7 then (x1 + 1) * 1440 else r7) fun z8 : Int32 =>
      Option.bind (α := Int32 × Mem) (
        if z8 ≤ z6 then
          some (y1, M3)
        else
          (s_X1_addParts M3 z6 z8 y1 (x2 + y1) x3).bind fun r10 =>
          bnd (y1 + (z8 - z6)) fun z11 : Int32 =>
          some (z11, r10)) fun p12 =>
      bnd (y2 + 1) fun z13 : Int32 =>
      L_X1_addPartsOfDay_6 x1 x2 x3 f p12.1 z13 p12.2

def s_X1_addPartsOfDay (M : Mem) (x1 : Int32) (x2 : Int32) (x3 : Int32) : Option (Mem) :=
  (L_X1_addPartsOfDay_6 x1 x2 x3 FU 0 0 M).bind fun p14 =>
  some p14.2.2

def L_X1_read_36 (r4 : Int32) : Nat → Int32 → Int32 → Mem → Option (Int32 × Int32 × Mem)
  | 0, _, _, _ => none
  | f + 1, y5, y6, M7 =>
    if 7 ≤ y6 then
      some (y5, y6, M7)
    else
      bnd (α := Int32) (
        if r4 = 0 then
          0
        else
          if y6 = 6 then
            1
          else
            0) fun p9 =>
      (s_X1_addPartsOfDay M7 y6 y5 p9).bind fun r10 =>
      (s_X6_minutesOnDay r10 34 y6).bind fun r11 =>
      bnd (y5 + r11) fun z12 : Int32 =>
      bnd (y6 + 1) fun z13 : Int32 =>
      L_X1_read_36 r4 f z12 z13 r10

def s_X1_read (M : Mem) (e1 : Nat) : Option (Mem) :=
  (s_X5_read M e1).bind fun r1 =>
  (s_X1_takeOffAutomaticBreaks r1 41).bind fun r2 =>
  (s_X4_clear r2 36).bind fun r3 =>
  (s_X1_isFull r3).bind fun r4 =>
  (L_X1_read_36 r4 FU 0 0 r3).bind fun p14 =>
  some p14.2.2

def L_X1_minutesOf_5 (M : Mem) (x1 : Int32) (x2 : Int32) : Nat → Int32 → Int32 → Option (Int32 × Int32)
  | 0, _, _ => none
  | f + 1, y1, y2 =>
    (s_X4_size M 36).bind fun r3 =>
    if r3 ≤ y2 then
      some (y1, y2)
    else
      (s_X4_get M 36 y2 2).bind fun r4 =>
      Option.bind (α := Int32) (
        if r4 = x2 then
          (s_X4_get M 36 y2 0).bind fun r6 =>
          if (r6 / 1440) = x1 then
            (s_X4_get M 36 y2 1).bind fun r7 =>
            (s_X4_get M 36 y2 0).bind fun r8 =>
            bnd (y1 + (r7 - r8)) fun z9 : Int32 =>
            some z9
          else
            some y1
        else
          some y1) fun p10 =>
      bnd (y2 + 1) fun z11 : Int32 =>
      L_X1_minutesOf_5 M x1 x2 f p10 z11

def s_X1_minutesOf (M : Mem) (x1 : Int32) (x2 : Int32) : Option (Int32) :=
  (L_X1_minutesOf_5 M x1 x2 FU 0 0).bind fun p12 =>
  some p12.1

def L_X1_quartersOfWeek_4 (M : Mem) (x1 : Int32) : Nat → Int32 → Int32 → Option (Int32 × Int32)
  | 0, _, _ => none
  | f + 1, y1, y2 =>
    if 7 ≤ y2 then
      some (y1, y2)
    else
      (s_X1_minutesOf M y2 x1).bind fun r3 =>
      bnd (y1 + r3) fun z4 : Int32 =>
      bnd (y2 + 1) fun z5 : Int32 =>
      L_X1_quartersOfWeek_4 M x1 f z4 z5

def s_X1_quartersOfWeek (M : Mem) (x1 : Int32) : Option (Int32) :=
  (L_X1_quartersOfWeek_4 M x1 FU 0 0).bind fun p6 =>
  some ((p6.1 + 7) / 15)

def L_X1_quartersOf_20 (M : Mem) (x1 : Int32) (x2 : Int32) (r1 : Int32) : Nat → Int32 → Int32 → Int32 → Option (Int32 × Int32 × Int32)
  | 0, _, _, _ => none
  | f + 1, y3, y4, y5 =>
    if 7 ≤ y5 then
      some (y3, y4, y5)
    else
      (s_X1_minutesOf M y5 x2).bind fun r6 =>
      bnd ((r6 - r6 / 15 * 15) - (r1 - r1 / 15 * 15)) fun z7 : Int32 =>
      bnd (y3 - (r6 / 15)) fun z8 : Int32 =>
      bnd (α := Int32) (
        if 0 < z7 then
          bnd (y4 + 1) fun z10 : Int32 =>
          z10
        else
          if z7 = 0 then
            if x1 ≤ y5 then
              y4
            else
              bnd (y4 + 1) fun z11 : Int32 =>
              z11
          else
            y4) fun p12 =>
      bnd (y5 + 1) fun z13 : Int32 =>
      L_X1_quartersOf_20 M x1 x2 r1 f z8 p12 z13

def s_X1_quartersOf (M : Mem) (x1 : Int32) (x2 : Int32) : Option (Int32) :=
  (s_X1_minutesOf M x1 x2).bind fun r1 =>
  (s_X1_quartersOfWeek M x2).bind fun r2 =>
  (L_X1_quartersOf_20 M x1 x2 r1 FU r2 0 0).bind fun p14 =>
  bnd (α := Int32) (
    if p14.1 ≤ p14.2.1 then
      0
    else
      1) fun p16 =>
  some ((r1 / 15) + p16)

def s_X1_basicPay (M : Mem) (x1 : Int32) : Option (Int32) :=
  (s_X1_quartersOfWeek M 0).bind fun r1 =>
  (s_X1_quartersOfWeek M 1).bind fun r2 =>
  (s_X1_quartersOfWeek M 2).bind fun r3 =>
  bnd (((2 * r1) + (3 * r2)) + (4 * r3)) fun z4 : Int32 =>
  some (((x1 * z4) + 4) / 8)

def s_X2_add (M : Mem) (x1 : Int32) (x2 : Int32) (x3 : Int32) (x4 : Int32) : Option (Int32 × Mem) :=
  (s_X4_size M 31).bind fun r1 =>
  (s_X4_insert M 31 r1).bind fun r2 =>
  (s_X4_set r2 31 r1 0 x1).bind fun r3 =>
  (s_X4_set r3 31 r1 1 x2).bind fun r4 =>
  (s_X4_set r4 31 r1 2 x3).bind fun r5 =>
  (s_X4_set r5 31 r1 3 x4).bind fun r6 =>
  some (r1, r6)

def L_X2_nextChange_6 (M : Mem) (x1 : Int32) : Nat → Int32 → Int32 → Option (Int32 × Int32)
  | 0, _, _ => none
  | f + 1, y1, y2 =>
    (s_X4_size M 31).bind fun r3 =>
    if r3 ≤ y2 then
      some (y1, y2)
    else
      (s_X4_get M 31 y2 1).bind fun r4 =>
      (s_X4_get M 31 y2 2).bind fun r5 =>
      bnd (α := Int32) (
        if r4 ≤ x1 then
          y1
        else
          (if r4 < y1 then r4 else y1)) fun p7 =>
      bnd (α := Int32) (
        if r5 ≤ x1 then
          p7
        else
          (if r5 < p7 then r5 else p7)) fun p9 =>
      bnd (y2 + 1) fun z10 : Int32 =>
      L_X2_nextChange_6 M x1 f p9 z10

def s_X2_nextChange (M : Mem) (x1 : Int32) : Option (Int32) :=
  (L_X2_nextChange_6 M x1 FU 1440 0).bind fun p11 =>
  some p11.1

def s_X2_isBetween (x0 : Int32) (x1 : Int32) (x2 : Int32) : Option (Int32) :=
  if x2 ≤ x1 then
    if x1 = x2 then
      some 1
    else
      if x1 ≤ x0 then
        some 1
      else
        if x2 ≤ x0 then
          some 0
        else
          some 1
  else
    if x0 < x1 then
      some 0
    else
      if x2 ≤ x0 then
        some 0
      else
        some 1

def L_X2_greatestRate_5 (M : Mem) (x1 : Int32) (x2 : Int32) : Nat → Int32 → Int32 → Option (Int32 × Int32)
  | 0, _, _ => none
  | f + 1, y1, y2 =>
    (s_X4_size M 31).bind fun r3 =>
    if r3 ≤ y2 then
      some (y1, y2)
    else
      (s_X4_get M 31 y2 0).bind fun r4 =>
      bnd (α := Int32) (
        if ((r4 >>> (x1 &&& 31)) &&& 1) = 1 then
          1
        else
          0) fun p6 =>
      Option.bind (α := Int32) (
        if p6 = 0 then
          some y1
        else
          (s_X4_get M 31 y2 1).bind fun r8 =>
          (s_X4_get M 31 y2 2).bind fun r9 =>
          (s_X2_isBetween x2 r8 r9).bind fun r10 =>
          if r10 = 0 then
            some y1
          else
            (s_X4_get M 31 y2 3).bind fun r11 =>
            bnd (if y1 < r11 then r11 else y1) fun z12 : Int32 =>
            some z12) fun p13 =>
      bnd (y2 + 1) fun z14 : Int32 =>
      L_X2_greatestRate_5 M x1 x2 f p13 z14

def s_X2_greatestRate (M : Mem) (x1 : Int32) (x2 : Int32) : Option (Int32) :=
  (L_X2_greatestRate_5 M x1 x2 FU 0 0).bind fun p15 =>
  some p15.1

def L_X2_sumOver_8 (M : Mem) (x2 : Int32) : Nat → Int32 → Int32 → Int32 → Option (Int32 × Int32 × Int32)
  | 0, _, _, _ => none
  | f + 1, y1, y2, y3 =>
    if 1440 ≤ y3 then
      some (y1, y2, y3)
    else
      if x2 ≤ y2 then
        some (y1, y2, y3)
      else
        bnd (y2 / 1440) fun z4 : Int32 =>
        (s_X2_nextChange M (y2 - y2 / 1440 * 1440)).bind fun r5 =>
        bnd (if (z4 * 1440) + r5 < x2 then (z4 * 1440) + r5 else x2) fun z6 : Int32 =>
        (s_X2_greatestRate M z4 (y2 - y2 / 1440 * 1440)).bind fun r7 =>
        bnd (y1 + (r7 * (z6 - y2))) fun z8 : Int32 =>
        bnd (y3 + 1) fun z9 : Int32 =>
        L_X2_sumOver_8 M x2 f z8 z6 z9

def s_X2_sumOver (M : Mem) (x1 : Int32) (x2 : Int32) : Option (Int32) :=
  (L_X2_sumOver_8 M x2 FU 0 x1 0).bind fun p10 =>
  some p10.1

def L_X2_payFor_4 (M : Mem) (t1 : Nat) : Nat → Int32 → Int32 → Option (Int32 × Int32)
  | 0, _, _ => none
  | f + 1, y1, y2 =>
    (s_X4_size M t1).bind fun r3 =>
    if r3 ≤ y2 then
      some (y1, y2)
    else
      (s_X4_get M t1 y2 0).bind fun r4 =>
      (s_X4_get M t1 y2 1).bind fun r5 =>
      (s_X2_sumOver M r4 r5).bind fun r6 =>
      bnd (y1 + r6) fun z7 : Int32 =>
      bnd (y2 + 1) fun z8 : Int32 =>
      L_X2_payFor_4 M t1 f z7 z8

def s_X2_payFor (M : Mem) (t1 : Nat) : Option (Int32) :=
  (L_X2_payFor_4 M t1 FU 0 0).bind fun p9 =>
  some ((p9.1 + 30) / 60)

def s_X6_requireWithin (x0 : Int32) (x1 : Int32) (x2 : Int32) : Option (Nat) :=
  if x0 < x1 then
    some 1
  else
    if x0 ≤ x2 then
      some 0
    else
      some 1

def s_X6_requireRoom (M : Mem) (t0 : Nat) (x1 : Int32) : Option (Nat) :=
  (s_X4_size M t0).bind fun r1 =>
  if r1 < x1 then
    some 0
  else
    some 2

def s_X6_addPremium (M : Mem) (x1 : Int32) (x2 : Int32) (x3 : Int32) (x4 : Int32) : Option (Nat × Int32 × Mem) :=
  (s_X6_requireWithin x1 1 127).bind fun r1 =>
  if ¬ r1 = 0 then some (r1, 0, M) else
  (s_X6_requireWithin x2 0 1439).bind fun r2 =>
  if ¬ r2 = 0 then some (r2, 0, M) else
  (s_X6_requireWithin x3 0 1439).bind fun r3 =>
  if ¬ r3 = 0 then some (r3, 0, M) else
  (s_X6_requireWithin x4 1 10000).bind fun r4 =>
  if ¬ r4 = 0 then some (r4, 0, M) else
  (s_X6_requireRoom M 31 6).bind fun r5 =>
  if ¬ r5 = 0 then some (r5, 0, M) else
  (s_X2_add M x1 x2 x3 x4).bind fun r6 =>
  some (0, r6.1, r6.2)

def s_X6_find (hn : Nat) (x1 : Int32) : Option (Nat × Nat) :=
  if x1 < 0 then
    some (3, 0)
  else
    if (nI hn) ≤ x1 then
      some (3, 0)
    else
      if x1 < 6 then
        (mrs hn x1).bind fun u1 =>
        some (0, u1)
      else
        some (3, 0)

def s_X6_addByHand (M : Mem) (t0 : Nat) (x1 : Int32) (x2 : Int32) (x3 : Int32) : Option (Nat × Int32 × Mem) :=
  (s_X6_requireWithin x1 0 10079).bind fun r1 =>
  if ¬ r1 = 0 then some (r1, 0, M) else
  (s_X6_requireWithin x2 (x1 + 1) 10080).bind fun r2 =>
  if ¬ r2 = 0 then some (r2, 0, M) else
  (s_X6_requireRoom M t0 x3).bind fun r3 =>
  if ¬ r3 = 0 then some (r3, 0, M) else
  (s_X4_addSpan M t0 x1 x2).bind fun r4 =>
  (s_X4_size r4 t0).bind fun r5 =>
  some (0, r5 - 1, r4)

def s_X6_enter (M : Mem) (hn : Nat) (x1 : Int32) (x2 : Int32) (x3 : Int32) : Option (Nat × Int32 × Mem) :=
  (s_X6_find hn x1).bind fun r1 =>
  if ¬ r1.1 = 0 then some (r1.1, 0, M) else
  (s_X6_addByHand M (r1.2 + 3) x2 x3 20).bind fun r2 =>
  if ¬ r2.1 = 0 then some (r2.1, 0, r2.2.2) else
  some (0, r2.2.1, r2.2.2)

def s_X6_enterBreak (M : Mem) (hn : Nat) (x1 : Int32) (x2 : Int32) (x3 : Int32) : Option (Nat × Int32 × Mem) :=
  (s_X6_find hn x1).bind fun r1 =>
  if ¬ r1.1 = 0 then some (r1.1, 0, M) else
  (s_X6_addByHand M (r1.2 + 5) x2 x3 20).bind fun r2 =>
  if ¬ r2.1 = 0 then some (r2.1, 0, r2.2.2) else
  some (0, r2.2.1, r2.2.2)

def s_X6_minutes (M : Mem) (hn : Nat) (x1 : Int32) (x2 : Int32) (x3 : Int32) : Option (Nat × Int32 × Mem) :=
  (s_X6_find hn x1).bind fun r1 =>
  if ¬ r1.1 = 0 then some (r1.1, 0, M) else
  (s_X6_requireWithin x2 0 6).bind fun r2 =>
  if ¬ r2 = 0 then some (r2, 0, M) else
  (s_X6_requireWithin x3 0 2).bind fun r3 =>
  if ¬ r3 = 0 then some (r3, 0, M) else
  (s_X1_read M r1.2).bind fun r4 =>
  (s_X1_minutesOf r4 x2 x3).bind fun r5 =>
  some (0, r5, r4)

def s_X6_quarters (M : Mem) (hn : Nat) (x1 : Int32) (x2 : Int32) (x3 : Int32) : Option (Nat × Int32 × Mem) :=
  (s_X6_find hn x1).bind fun r1 =>
  if ¬ r1.1 = 0 then some (r1.1, 0, M) else
  (s_X6_requireWithin x2 0 6).bind fun r2 =>
  if ¬ r2 = 0 then some (r2, 0, M) else
  (s_X6_requireWithin x3 0 2).bind fun r3 =>
  if ¬ r3 = 0 then some (r3, 0, M) else
  (s_X1_read M r1.2).bind fun r4 =>
  (s_X1_quartersOf r4 x2 x3).bind fun r5 =>
  some (0, r5, r4)

def s_X6_premiumPay (M : Mem) (hn : Nat) (x1 : Int32) : Option (Nat × Int32 × Mem) :=
  (s_X6_find hn x1).bind fun r1 =>
  if ¬ r1.1 = 0 then some (r1.1, 0, M) else
  (s_X1_read M r1.2).bind fun r2 =>
  (s_X2_payFor r2 36).bind fun r3 =>
  some (0, r3, r2)

def s_X6_pay (M : Mem) (hn : Nat) (x1 : Int32) : Option (Nat × Int32 × Mem) :=
  (s_X6_find hn x1).bind fun r1 =>
  if ¬ r1.1 = 0 then some (r1.1, 0, M) else
  (s_X1_read M r1.2).bind fun r2 =>
  (s_X1_basicPay r2 (r2 r1.2 0)).bind fun r3 =>
  (s_X2_payFor r2 36).bind fun r4 =>
  some (0, r3 + r4, r2)

def s_X6_workedOn (M : Mem) (hn : Nat) (x1 : Int32) (x2 : Int32) : Option (Nat × Int32 × Mem) :=
  (s_X6_find hn x1).bind fun r1 =>
  if ¬ r1.1 = 0 then some (r1.1, 0, M) else
  (s_X6_requireWithin x2 0 6).bind fun r2 =>
  if ¬ r2 = 0 then some (r2, 0, M) else
  (s_X5_read M r1.2).bind fun r3 =>
  (s_X6_minutesOnDay r3 41 x2).bind fun r4 =>
  some (0, r4, r3)

def s_X6_closeWeek (M : Mem) (G : Mel) (hn : Nat) (x1 : Int32) : Option (Nat × Int32 × Mem × Mel) :=
  (s_X6_find hn x1).bind fun r1 =>
  if ¬ r1.1 = 0 then some (r1.1, 0, M, G) else
  (s_X4_size M (r1.2 + 1)).bind fun r2 =>
  if r2 = 0 then
    (s_X4_size M (r1.2 + 3)).bind fun r8 =>
    if r8 = 0 then
      some (2, 0, M, G)
    else
      (s_X1_read M r1.2).bind fun r9 =>
      (s_X1_basicPay r9 (r9 r1.2 0)).bind fun r10 =>
      (s_X2_payFor r9 36).bind fun r11 =>
      bnd (r10 + r11) fun z12 : Int32 =>
      (s_X0_beginNextWeek r9 G r1.2 z12).bind fun r13 =>
      some (0, z12, r13.1, r13.2)
  else
    (s_X1_read M r1.2).bind fun r3 =>
    (s_X1_basicPay r3 (r3 r1.2 0)).bind fun r4 =>
    (s_X2_payFor r3 36).bind fun r5 =>
    bnd (r4 + r5) fun z6 : Int32 =>
    (s_X0_beginNextWeek r3 G r1.2 z6).bind fun r7 =>
    some (0, z6, r7.1, r7.2)

def s_X6_earned (G : Mel) (hn : Nat) (x1 : Int32) : Option (Nat × Int64) :=
  (s_X6_find hn x1).bind fun r1 =>
  if ¬ r1.1 = 0 then some (r1.1, 0) else
  some (0, G r1.2 2)

def s_X6_closedWeeks (M : Mem) (hn : Nat) (x1 : Int32) : Option (Nat × Int32) :=
  (s_X6_find hn x1).bind fun r1 =>
  if ¬ r1.1 = 0 then some (r1.1, 0) else
  some (0, M r1.2 1)

def s_X6_shifts (M : Mem) (hn : Nat) (x1 : Int32) : Option (Nat × Int32 × Mem) :=
  (s_X6_find hn x1).bind fun r1 =>
  if ¬ r1.1 = 0 then some (r1.1, 0, M) else
  (s_X3_read M (r1.2 + 1)).bind fun r2 =>
  (s_X4_size r2 44).bind fun r3 =>
  some (0, r3, r2)

def s_X6_stretches (M : Mem) (hn : Nat) (x1 : Int32) : Option (Nat × Int32 × Mem) :=
  (s_X6_find hn x1).bind fun r1 =>
  if ¬ r1.1 = 0 then some (r1.1, 0, M) else
  (s_X5_read M r1.2).bind fun r2 =>
  (s_X4_size r2 41).bind fun r3 =>
  some (0, r3, r2)

def s_X6_overlap (M : Mem) (hn : Nat) (x1 : Int32) : Option (Nat × Int32 × Mem) :=
  (s_X6_find hn x1).bind fun r1 =>
  if ¬ r1.1 = 0 then some (r1.1, 0, M) else
  (s_X5_read M r1.2).bind fun r2 =>
  some (0, r2 38 3, r2)

def L_X6_longest_4 (M : Mem) (t0 : Nat) : Nat → Int32 → Int32 → Option (Int32 × Int32)
  | 0, _, _ => none
  | f + 1, y1, y2 =>
    (s_X4_size M t0).bind fun r3 =>
    if r3 ≤ y2 then
      some (y1, y2)
    else
      (s_X4_get M t0 y2 1).bind fun r4 =>
      (s_X4_get M t0 y2 0).bind fun r5 =>
      bnd (if y1 < r4 - r5 then r4 - r5 else y1) fun z6 : Int32 =>
      bnd (y2 + 1) fun z7 : Int32 =>
      L_X6_longest_4 M t0 f z6 z7

def s_X6_longest (M : Mem) (t0 : Nat) : Option (Int32) :=
  (L_X6_longest_4 M t0 FU 0 0).bind fun p8 =>
  some p8.1

def s_X6_longestStretch (M : Mem) (hn : Nat) (x1 : Int32) : Option (Nat × Int32 × Mem) :=
  (s_X6_find hn x1).bind fun r1 =>
  if ¬ r1.1 = 0 then some (r1.1, 0, M) else
  (s_X5_read M r1.2).bind fun r2 =>
  (s_X6_longest r2 41).bind fun r3 =>
  some (0, r3, r2)

def s_X6_repairedShifts (M : Mem) (hn : Nat) (x1 : Int32) : Option (Nat × Int32 × Mem) :=
  (s_X6_find hn x1).bind fun r1 =>
  if ¬ r1.1 = 0 then some (r1.1, 0, M) else
  (s_X3_read M (r1.2 + 1)).bind fun r2 =>
  some (0, r2 43 1, r2)

/-! the law's cases: what each does -/
def lw_1 (M : Mem) (G : Mel) (hn : Nat) (a1 : Int32) (a2 : Int32) : Option (Mem × Mel) :=
  (s_L_setWage M G hn a1 a2).bind fun r1 =>
  (s_X7_setWage r1.2.1 a1 a2).bind fun r2 =>
  (s_X7_thrown r2.2).bind fun r3 =>
  if r3 = r1.1 then
    if r1.1 = 0 then
      (mrdL 1 (r1.2.2 0) 0).bind fun v4 =>
      if v4 = r2.1.toInt64 then
        some (r2.2, r1.2.2)
      else
        none
    else
      some (r2.2, r1.2.2)
  else
    none

def lw_2 (M : Mem) (G : Mel) (hn : Nat) (a1 : Int32) (a2 : Int32) (a3 : Int32) : Option (Mem × Mel) :=
  bnd (α := Int32) (
    if a3 = 0 then
      0
    else
      1) fun p2 =>
  (s_L_punch M G hn a1 a2 p2).bind fun r3 =>
  bnd (α := Int32) (
    if a3 = 0 then
      0
    else
      1) fun p5 =>
  (s_X7_punch r3.2.1 a1 a2 p5).bind fun r6 =>
  (s_X7_thrown r6.2).bind fun r7 =>
  if r7 = r3.1 then
    if r3.1 = 0 then
      (mrdL 1 (r3.2.2 0) 0).bind fun v8 =>
      if v8 = r6.1.toInt64 then
        some (r6.2, r3.2.2)
      else
        none
    else
      some (r6.2, r3.2.2)
  else
    none

def lw_3 (M : Mem) (G : Mel) (hn : Nat) (a1 : Int32) (a2 : Int32) : Option (Mem × Mel) :=
  (s_L_removePunch M G hn a1 a2).bind fun r1 =>
  (s_X7_removePunch r1.2.1 a1 a2).bind fun r2 =>
  (s_X7_thrown r2.2).bind fun r3 =>
  if r3 = r1.1 then
    if r1.1 = 0 then
      (mrdL 1 (r1.2.2 0) 0).bind fun v4 =>
      bnd (α := Int64) (
        if r2.1 = 0 then
          0
        else
          1) fun p6 =>
      if v4 = p6 then
        some (r2.2, r1.2.2)
      else
        none
    else
      some (r2.2, r1.2.2)
  else
    none

def lw_4 (M : Mem) (G : Mel) (hn : Nat) (a1 : Int32) (a2 : Int32) (a3 : Int32) : Option (Mem × Mel) :=
  (s_L_enter M G hn a1 a2 a3).bind fun r1 =>
  (s_X7_enter r1.2.1 a1 a2 a3).bind fun r2 =>
  (s_X7_thrown r2.2).bind fun r3 =>
  if r3 = r1.1 then
    if r1.1 = 0 then
      (mrdL 1 (r1.2.2 0) 0).bind fun v4 =>
      if v4 = r2.1.toInt64 then
        some (r2.2, r1.2.2)
      else
        none
    else
      some (r2.2, r1.2.2)
  else
    none

def lw_5 (M : Mem) (G : Mel) (hn : Nat) (a1 : Int32) (a2 : Int32) : Option (Mem × Mel) :=
  (s_L_removeEntry M G hn a1 a2).bind fun r1 =>
  (s_X7_removeEntry r1.2.1 a1 a2).bind fun r2 =>
  (s_X7_thrown r2.2).bind fun r3 =>
  if r3 = r1.1 then
    if r1.1 = 0 then
      (mrdL 1 (r1.2.2 0) 0).bind fun v4 =>
      if v4 = r2.1.toInt64 then
        some (r2.2, r1.2.2)
      else
        none
    else
      some (r2.2, r1.2.2)
  else
    none

def lw_6 (M : Mem) (G : Mel) (hn : Nat) (a1 : Int32) (a2 : Int32) (a3 : Int32) : Option (Mem × Mel) :=
  (s_L_enterBreak M G hn a1 a2 a3).bind fun r1 =>
  (s_X7_enterBreak r1.2.1 a1 a2 a3).bind fun r2 =>
  (s_X7_thrown r2.2).bind fun r3 =>
  if r3 = r1.1 then
    if r1.1 = 0 then
      (mrdL 1 (r1.2.2 0) 0).bind fun v4 =>
      if v4 = r2.1.toInt64 then
        some (r2.2, r1.2.2)
      else
        none
    else
      some (r2.2, r1.2.2)
  else
    none

def lw_7 (M : Mem) (G : Mel) (hn : Nat) (a1 : Int32) (a2 : Int32) : Option (Mem × Mel) :=
  (s_L_removeBreak M G hn a1 a2).bind fun r1 =>
  (s_X7_removeBreak r1.2.1 a1 a2).bind fun r2 =>
  (s_X7_thrown r2.2).bind fun r3 =>
  if r3 = r1.1 then
    if r1.1 = 0 then
      (mrdL 1 (r1.2.2 0) 0).bind fun v4 =>
      if v4 = r2.1.toInt64 then
        some (r2.2, r1.2.2)
      else
        none
    else
      some (r2.2, r1.2.2)
  else
    none

def lw_8 (M : Mem) (G : Mel) (hn : Nat) (a1 : Int32) (a2 : Int32) (a3 : Int32) (a4 : Int32) : Option (Mem × Mel) :=
  (s_L_addPremium M G a1 a2 a3 a4).bind fun r1 =>
  (s_X7_addPremium r1.2.1 a1 a2 a3 a4).bind fun r2 =>
  (s_X7_thrown r2.2).bind fun r3 =>
  if r3 = r1.1 then
    if r1.1 = 0 then
      (mrdL 1 (r1.2.2 0) 0).bind fun v4 =>
      if v4 = r2.1.toInt64 then
        some (r2.2, r1.2.2)
      else
        none
    else
      some (r2.2, r1.2.2)
  else
    none

def lw_9 (M : Mem) (G : Mel) (hn : Nat) (a1 : Int32) : Option (Mem × Mel) :=
  (s_L_removePremium M G a1).bind fun r1 =>
  (s_X7_removePremium r1.2.1 a1).bind fun r2 =>
  (s_X7_thrown r2.2).bind fun r3 =>
  if r3 = r1.1 then
    if r1.1 = 0 then
      (mrdL 1 (r1.2.2 0) 0).bind fun v4 =>
      if v4 = r2.1.toInt64 then
        some (r2.2, r1.2.2)
      else
        none
    else
      some (r2.2, r1.2.2)
  else
    none

def lw_10 (M : Mem) (G : Mel) (hn : Nat) (a1 : Int32) : Option (Mem × Mel) :=
  (s_L_closeWeek M G hn a1).bind fun r1 =>
  (s_X7_closeWeek r1.2.1 r1.2.2 a1).bind fun r2 =>
  (s_X7_thrown r2.2.1).bind fun r3 =>
  if r3 = r1.1 then
    if r1.1 = 0 then
      (mrdL 1 (r2.2.2 0) 0).bind fun v4 =>
      if v4 = r2.1.toInt64 then
        some (r2.2.1, r2.2.2)
      else
        none
    else
      some (r2.2.1, r2.2.2)
  else
    none

def lw_11 (M : Mem) (G : Mel) (hn : Nat) : Option (Mem × Mel) :=
  (s_X6_employees hn).bind fun r1 =>
  (s_X7_employees M).bind fun r2 =>
  if r1 = r2.1 then
    some (r2.2, G)
  else
    none

def lw_12 (M : Mem) (G : Mel) (hn : Nat) (a1 : Int32) : Option (Mem × Mel) :=
  (s_L_closedWeeks M G hn a1).bind fun r1 =>
  (s_X7_closedWeeks M a1).bind fun r2 =>
  (s_X7_thrown r2.2).bind fun r3 =>
  if r3 = r1.1 then
    if r1.1 = 0 then
      (mrdL 1 (r1.2 0) 0).bind fun v4 =>
      if v4 = r2.1.toInt64 then
        some (r2.2, r1.2)
      else
        none
    else
      some (r2.2, r1.2)
  else
    none

def lw_13 (M : Mem) (G : Mel) (hn : Nat) (a1 : Int32) : Option (Mem × Mel) :=
  (s_L_earned G hn a1).bind fun r1 =>
  (s_X7_earned M r1.2 a1).bind fun r2 =>
  (s_X7_thrown r2.2).bind fun r3 =>
  if r3 = r1.1 then
    if r1.1 = 0 then
      (mrdL 1 (r1.2 0) 0).bind fun v4 =>
      if v4 = r2.1 then
        some (r2.2, r1.2)
      else
        none
    else
      some (r2.2, r1.2)
  else
    none

def lw_14 (M : Mem) (G : Mel) (hn : Nat) (a1 : Int32) : Option (Mem × Mel) :=
  (s_L_shifts M G hn a1).bind fun r1 =>
  (s_X7_shifts r1.2.1 a1).bind fun r2 =>
  (s_X7_thrown r2.2).bind fun r3 =>
  if r3 = r1.1 then
    if r1.1 = 0 then
      (mrdL 1 (r1.2.2 0) 0).bind fun v4 =>
      if v4 = r2.1.toInt64 then
        some (r2.2, r1.2.2)
      else
        none
    else
      some (r2.2, r1.2.2)
  else
    none

def lw_15 (M : Mem) (G : Mel) (hn : Nat) (a1 : Int32) (a2 : Int32) : Option (Mem × Mel) :=
  (s_L_shiftBegin M G hn a1 a2).bind fun r1 =>
  (s_X7_shiftBegin r1.2.1 a1 a2).bind fun r2 =>
  (s_X7_thrown r2.2).bind fun r3 =>
  if r3 = r1.1 then
    if r1.1 = 0 then
      (mrdL 1 (r1.2.2 0) 0).bind fun v4 =>
      if v4 = r2.1.toInt64 then
        some (r2.2, r1.2.2)
      else
        none
    else
      some (r2.2, r1.2.2)
  else
    none

def lw_16 (M : Mem) (G : Mel) (hn : Nat) (a1 : Int32) (a2 : Int32) : Option (Mem × Mel) :=
  (s_L_shiftEnd M G hn a1 a2).bind fun r1 =>
  (s_X7_shiftEnd r1.2.1 a1 a2).bind fun r2 =>
  (s_X7_thrown r2.2).bind fun r3 =>
  if r3 = r1.1 then
    if r1.1 = 0 then
      (mrdL 1 (r1.2.2 0) 0).bind fun v4 =>
      if v4 = r2.1.toInt64 then
        some (r2.2, r1.2.2)
      else
        none
    else
      some (r2.2, r1.2.2)
  else
    none

def lw_17 (M : Mem) (G : Mel) (hn : Nat) (a1 : Int32) : Option (Mem × Mel) :=
  (s_L_repairedShifts M G hn a1).bind fun r1 =>
  (s_X7_repairedShifts r1.2.1 a1).bind fun r2 =>
  (s_X7_thrown r2.2).bind fun r3 =>
  if r3 = r1.1 then
    if r1.1 = 0 then
      (mrdL 1 (r1.2.2 0) 0).bind fun v4 =>
      if v4 = r2.1.toInt64 then
        some (r2.2, r1.2.2)
      else
        none
    else
      some (r2.2, r1.2.2)
  else
    none

def lw_18 (M : Mem) (G : Mel) (hn : Nat) (a1 : Int32) (a2 : Int32) : Option (Mem × Mel) :=
  (s_L_coverage M G hn a1 a2).bind fun r1 =>
  (s_X7_coverage r1.2.1 a1 a2).bind fun r2 =>
  (s_X7_thrown r2.2).bind fun r3 =>
  if r3 = r1.1 then
    if r1.1 = 0 then
      (mrdL 1 (r1.2.2 0) 0).bind fun v4 =>
      if v4 = r2.1.toInt64 then
        some (r2.2, r1.2.2)
      else
        none
    else
      some (r2.2, r1.2.2)
  else
    none

def lw_19 (M : Mem) (G : Mel) (hn : Nat) (a1 : Int32) : Option (Mem × Mel) :=
  (s_L_overlap M G hn a1).bind fun r1 =>
  (s_X7_overlap r1.2.1 a1).bind fun r2 =>
  (s_X7_thrown r2.2).bind fun r3 =>
  if r3 = r1.1 then
    if r1.1 = 0 then
      (mrdL 1 (r1.2.2 0) 0).bind fun v4 =>
      if v4 = r2.1.toInt64 then
        some (r2.2, r1.2.2)
      else
        none
    else
      some (r2.2, r1.2.2)
  else
    none

def lw_20 (M : Mem) (G : Mel) (hn : Nat) (a1 : Int32) (a2 : Int32) : Option (Mem × Mel) :=
  (s_L_workedOn M G hn a1 a2).bind fun r1 =>
  (s_X7_workedOn r1.2.1 a1 a2).bind fun r2 =>
  (s_X7_thrown r2.2).bind fun r3 =>
  if r3 = r1.1 then
    if r1.1 = 0 then
      (mrdL 1 (r1.2.2 0) 0).bind fun v4 =>
      if v4 = r2.1.toInt64 then
        some (r2.2, r1.2.2)
      else
        none
    else
      some (r2.2, r1.2.2)
  else
    none

def lw_21 (M : Mem) (G : Mel) (hn : Nat) (a1 : Int32) : Option (Mem × Mel) :=
  (s_L_stretches M G hn a1).bind fun r1 =>
  (s_X7_stretches r1.2.1 a1).bind fun r2 =>
  (s_X7_thrown r2.2).bind fun r3 =>
  if r3 = r1.1 then
    if r1.1 = 0 then
      (mrdL 1 (r1.2.2 0) 0).bind fun v4 =>
      if v4 = r2.1.toInt64 then
        some (r2.2, r1.2.2)
      else
        none
    else
      some (r2.2, r1.2.2)
  else
    none

def lw_22 (M : Mem) (G : Mel) (hn : Nat) (a1 : Int32) : Option (Mem × Mel) :=
  (s_L_longestStretch M G hn a1).bind fun r1 =>
  (s_X7_longestStretch r1.2.1 a1).bind fun r2 =>
  (s_X7_thrown r2.2).bind fun r3 =>
  if r3 = r1.1 then
    if r1.1 = 0 then
      (mrdL 1 (r1.2.2 0) 0).bind fun v4 =>
      if v4 = r2.1.toInt64 then
        some (r2.2, r1.2.2)
      else
        none
    else
      some (r2.2, r1.2.2)
  else
    none

def lw_23 (M : Mem) (G : Mel) (hn : Nat) (a1 : Int32) (a2 : Int32) : Option (Mem × Mel) :=
  (s_L_category M G hn a1 a2).bind fun r1 =>
  (s_X7_category r1.2.1 a1 a2).bind fun r2 =>
  (s_X7_thrown r2.2).bind fun r3 =>
  if r3 = r1.1 then
    if r1.1 = 0 then
      (mrdL 1 (r1.2.2 0) 0).bind fun v4 =>
      if v4 = r2.1.toInt64 then
        some (r2.2, r1.2.2)
      else
        none
    else
      some (r2.2, r1.2.2)
  else
    none

def lw_24 (M : Mem) (G : Mel) (hn : Nat) (a1 : Int32) (a2 : Int32) (a3 : Int32) : Option (Mem × Mel) :=
  (s_L_minutes M G hn a1 a2 a3).bind fun r1 =>
  (s_X7_minutes r1.2.1 a1 a2 a3).bind fun r2 =>
  (s_X7_thrown r2.2).bind fun r3 =>
  if r3 = r1.1 then
    if r1.1 = 0 then
      (mrdL 1 (r1.2.2 0) 0).bind fun v4 =>
      if v4 = r2.1.toInt64 then
        some (r2.2, r1.2.2)
      else
        none
    else
      some (r2.2, r1.2.2)
  else
    none

def lw_25 (M : Mem) (G : Mel) (hn : Nat) (a1 : Int32) (a2 : Int32) (a3 : Int32) : Option (Mem × Mel) :=
  (s_L_quarters M G hn a1 a2 a3).bind fun r1 =>
  (s_X7_quarters r1.2.1 a1 a2 a3).bind fun r2 =>
  (s_X7_thrown r2.2).bind fun r3 =>
  if r3 = r1.1 then
    if r1.1 = 0 then
      (mrdL 1 (r1.2.2 0) 0).bind fun v4 =>
      if v4 = r2.1.toInt64 then
        some (r2.2, r1.2.2)
      else
        none
    else
      some (r2.2, r1.2.2)
  else
    none

def lw_26 (M : Mem) (G : Mel) (hn : Nat) (a1 : Int32) : Option (Mem × Mel) :=
  (s_L_premiumPay M G hn a1).bind fun r1 =>
  (s_X7_premiumPay r1.2.1 a1).bind fun r2 =>
  (s_X7_thrown r2.2).bind fun r3 =>
  if r3 = r1.1 then
    if r1.1 = 0 then
      (mrdL 1 (r1.2.2 0) 0).bind fun v4 =>
      if v4 = r2.1.toInt64 then
        some (r2.2, r1.2.2)
      else
        none
    else
      some (r2.2, r1.2.2)
  else
    none

def lw_27 (M : Mem) (G : Mel) (hn : Nat) (a1 : Int32) : Option (Mem × Mel) :=
  (s_L_pay M G hn a1).bind fun r1 =>
  (s_X7_pay r1.2.1 a1).bind fun r2 =>
  (s_X7_thrown r2.2).bind fun r3 =>
  if r3 = r1.1 then
    if r1.1 = 0 then
      (mrdL 1 (r1.2.2 0) 0).bind fun v4 =>
      if v4 = r2.1.toInt64 then
        some (r2.2, r1.2.2)
      else
        none
    else
      some (r2.2, r1.2.2)
  else
    none

def lw_0b (M : Mem) (G : Mel) (hn : Nat) (kc : Int32) (a1 : Int32) : Option (Mem × Mel) :=
  (s_X7_hire M a1).bind fun r1 =>
  (s_X7_thrown r1.2).bind fun r2 =>
  if r2 = kc then
    if kc = 0 then
      (mrdL 1 (G 0) 0).bind fun v3 =>
      if v3 = r1.1.toInt64 then
        some (r1.2, G)
      else
        none
    else
      some (r1.2, G)
  else
    none

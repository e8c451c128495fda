/-! what the wrappers of the law give, printed by program (gen/lk.py) -/
theorem mwrL_0 (G : Mel) (x : Int64) : mwrL 1 G 0 0 x = some (mstL G 0 0 x) := by
  unfold mwrL
  rw [if_neg (by decide)]
  rfl
theorem mrdL_0 (g : Nat → Int64) : mrdL 1 g 0 = some (g 0) := by
  unfold mrdL
  rw [if_neg (by decide)]
  rfl
theorem L_setWage_ok {M M1 : Mem} {G : Mel} {hn : Nat} {x1 x2 v : Int32} (h : s_X6_setWage M hn x1 x2 = some (0, v, M1)) : s_L_setWage M G hn x1 x2 = some (0, M1, mstL G 0 0 v.toInt64) := by
  rw [s_L_setWage, h, Option.bind_some, mwrL_0]
  rfl
theorem L_setWage_x3 {M M1 : Mem} {G : Mel} {hn : Nat} {x1 x2 v : Int32} (h : s_X6_setWage M hn x1 x2 = some (3, v, M1)) : s_L_setWage M G hn x1 x2 = some (1, M1, G) := by
  rw [s_L_setWage, h]
  rfl
theorem L_setWage_x1 {M M1 : Mem} {G : Mel} {hn : Nat} {x1 x2 v : Int32} (h : s_X6_setWage M hn x1 x2 = some (1, v, M1)) : s_L_setWage M G hn x1 x2 = some (2, M1, G) := by
  rw [s_L_setWage, h]
  rfl
theorem L_punch_ok {M M1 : Mem} {G : Mel} {hn : Nat} {x1 x2 x3 v : Int32} (h : s_X6_punch M hn x1 x2 x3 = some (0, v, M1)) : s_L_punch M G hn x1 x2 x3 = some (0, M1, mstL G 0 0 v.toInt64) := by
  rw [s_L_punch, h, Option.bind_some, mwrL_0]
  rfl
theorem L_punch_x3 {M M1 : Mem} {G : Mel} {hn : Nat} {x1 x2 x3 v : Int32} (h : s_X6_punch M hn x1 x2 x3 = some (3, v, M1)) : s_L_punch M G hn x1 x2 x3 = some (1, M1, G) := by
  rw [s_L_punch, h]
  rfl
theorem L_punch_x1 {M M1 : Mem} {G : Mel} {hn : Nat} {x1 x2 x3 v : Int32} (h : s_X6_punch M hn x1 x2 x3 = some (1, v, M1)) : s_L_punch M G hn x1 x2 x3 = some (2, M1, G) := by
  rw [s_L_punch, h]
  rfl
theorem L_punch_x2 {M M1 : Mem} {G : Mel} {hn : Nat} {x1 x2 x3 v : Int32} (h : s_X6_punch M hn x1 x2 x3 = some (2, v, M1)) : s_L_punch M G hn x1 x2 x3 = some (3, M1, G) := by
  rw [s_L_punch, h]
  rfl
theorem L_enter_ok {M M1 : Mem} {G : Mel} {hn : Nat} {x1 x2 x3 v : Int32} (h : s_X6_enter M hn x1 x2 x3 = some (0, v, M1)) : s_L_enter M G hn x1 x2 x3 = some (0, M1, mstL G 0 0 v.toInt64) := by
  rw [s_L_enter, h, Option.bind_some, mwrL_0]
  rfl
theorem L_enter_x3 {M M1 : Mem} {G : Mel} {hn : Nat} {x1 x2 x3 v : Int32} (h : s_X6_enter M hn x1 x2 x3 = some (3, v, M1)) : s_L_enter M G hn x1 x2 x3 = some (1, M1, G) := by
  rw [s_L_enter, h]
  rfl
theorem L_enter_x1 {M M1 : Mem} {G : Mel} {hn : Nat} {x1 x2 x3 v : Int32} (h : s_X6_enter M hn x1 x2 x3 = some (1, v, M1)) : s_L_enter M G hn x1 x2 x3 = some (2, M1, G) := by
  rw [s_L_enter, h]
  rfl
theorem L_enter_x2 {M M1 : Mem} {G : Mel} {hn : Nat} {x1 x2 x3 v : Int32} (h : s_X6_enter M hn x1 x2 x3 = some (2, v, M1)) : s_L_enter M G hn x1 x2 x3 = some (3, M1, G) := by
  rw [s_L_enter, h]
  rfl
theorem L_removeEntry_ok {M M1 : Mem} {G : Mel} {hn : Nat} {x1 x2 v : Int32} (h : s_X6_removeEntry M hn x1 x2 = some (0, v, M1)) : s_L_removeEntry M G hn x1 x2 = some (0, M1, mstL G 0 0 v.toInt64) := by
  rw [s_L_removeEntry, h, Option.bind_some, mwrL_0]
  rfl
theorem L_removeEntry_x3 {M M1 : Mem} {G : Mel} {hn : Nat} {x1 x2 v : Int32} (h : s_X6_removeEntry M hn x1 x2 = some (3, v, M1)) : s_L_removeEntry M G hn x1 x2 = some (1, M1, G) := by
  rw [s_L_removeEntry, h]
  rfl
theorem L_enterBreak_ok {M M1 : Mem} {G : Mel} {hn : Nat} {x1 x2 x3 v : Int32} (h : s_X6_enterBreak M hn x1 x2 x3 = some (0, v, M1)) : s_L_enterBreak M G hn x1 x2 x3 = some (0, M1, mstL G 0 0 v.toInt64) := by
  rw [s_L_enterBreak, h, Option.bind_some, mwrL_0]
  rfl
theorem L_enterBreak_x3 {M M1 : Mem} {G : Mel} {hn : Nat} {x1 x2 x3 v : Int32} (h : s_X6_enterBreak M hn x1 x2 x3 = some (3, v, M1)) : s_L_enterBreak M G hn x1 x2 x3 = some (1, M1, G) := by
  rw [s_L_enterBreak, h]
  rfl
theorem L_enterBreak_x1 {M M1 : Mem} {G : Mel} {hn : Nat} {x1 x2 x3 v : Int32} (h : s_X6_enterBreak M hn x1 x2 x3 = some (1, v, M1)) : s_L_enterBreak M G hn x1 x2 x3 = some (2, M1, G) := by
  rw [s_L_enterBreak, h]
  rfl
theorem L_enterBreak_x2 {M M1 : Mem} {G : Mel} {hn : Nat} {x1 x2 x3 v : Int32} (h : s_X6_enterBreak M hn x1 x2 x3 = some (2, v, M1)) : s_L_enterBreak M G hn x1 x2 x3 = some (3, M1, G) := by
  rw [s_L_enterBreak, h]
  rfl
theorem L_removeBreak_ok {M M1 : Mem} {G : Mel} {hn : Nat} {x1 x2 v : Int32} (h : s_X6_removeBreak M hn x1 x2 = some (0, v, M1)) : s_L_removeBreak M G hn x1 x2 = some (0, M1, mstL G 0 0 v.toInt64) := by
  rw [s_L_removeBreak, h, Option.bind_some, mwrL_0]
  rfl
theorem L_removeBreak_x3 {M M1 : Mem} {G : Mel} {hn : Nat} {x1 x2 v : Int32} (h : s_X6_removeBreak M hn x1 x2 = some (3, v, M1)) : s_L_removeBreak M G hn x1 x2 = some (1, M1, G) := by
  rw [s_L_removeBreak, h]
  rfl
theorem L_addPremium_ok {M M1 : Mem} {G : Mel} {x1 x2 x3 x4 v : Int32} (h : s_X6_addPremium M x1 x2 x3 x4 = some (0, v, M1)) : s_L_addPremium M G x1 x2 x3 x4 = some (0, M1, mstL G 0 0 v.toInt64) := by
  rw [s_L_addPremium, h, Option.bind_some, mwrL_0]
  rfl
theorem L_addPremium_x1 {M M1 : Mem} {G : Mel} {x1 x2 x3 x4 v : Int32} (h : s_X6_addPremium M x1 x2 x3 x4 = some (1, v, M1)) : s_L_addPremium M G x1 x2 x3 x4 = some (1, M1, G) := by
  rw [s_L_addPremium, h]
  rfl
theorem L_addPremium_x2 {M M1 : Mem} {G : Mel} {x1 x2 x3 x4 v : Int32} (h : s_X6_addPremium M x1 x2 x3 x4 = some (2, v, M1)) : s_L_addPremium M G x1 x2 x3 x4 = some (2, M1, G) := by
  rw [s_L_addPremium, h]
  rfl
theorem L_removePremium_ok {M M1 : Mem} {G : Mel} {x1 v : Int32} (h : s_X6_removePremium M x1 = some (0, v, M1)) : s_L_removePremium M G x1 = some (0, M1, mstL G 0 0 v.toInt64) := by
  rw [s_L_removePremium, h, Option.bind_some, mwrL_0]
  rfl
theorem L_removePremium_x3 {M M1 : Mem} {G : Mel} {x1 v : Int32} (h : s_X6_removePremium M x1 = some (3, v, M1)) : s_L_removePremium M G x1 = some (1, M1, G) := by
  rw [s_L_removePremium, h]
  rfl
theorem L_shifts_ok {M M1 : Mem} {G : Mel} {hn : Nat} {x1 v : Int32} (h : s_X6_shifts M hn x1 = some (0, v, M1)) : s_L_shifts M G hn x1 = some (0, M1, mstL G 0 0 v.toInt64) := by
  rw [s_L_shifts, h, Option.bind_some, mwrL_0]
  rfl
theorem L_shifts_x3 {M M1 : Mem} {G : Mel} {hn : Nat} {x1 v : Int32} (h : s_X6_shifts M hn x1 = some (3, v, M1)) : s_L_shifts M G hn x1 = some (1, M1, G) := by
  rw [s_L_shifts, h]
  rfl
theorem L_shiftBegin_ok {M M1 : Mem} {G : Mel} {hn : Nat} {x1 x2 v : Int32} (h : s_X6_shiftBegin M hn x1 x2 = some (0, v, M1)) : s_L_shiftBegin M G hn x1 x2 = some (0, M1, mstL G 0 0 v.toInt64) := by
  rw [s_L_shiftBegin, h, Option.bind_some, mwrL_0]
  rfl
theorem L_shiftBegin_x3 {M M1 : Mem} {G : Mel} {hn : Nat} {x1 x2 v : Int32} (h : s_X6_shiftBegin M hn x1 x2 = some (3, v, M1)) : s_L_shiftBegin M G hn x1 x2 = some (1, M1, G) := by
  rw [s_L_shiftBegin, h]
  rfl
theorem L_shiftEnd_ok {M M1 : Mem} {G : Mel} {hn : Nat} {x1 x2 v : Int32} (h : s_X6_shiftEnd M hn x1 x2 = some (0, v, M1)) : s_L_shiftEnd M G hn x1 x2 = some (0, M1, mstL G 0 0 v.toInt64) := by
  rw [s_L_shiftEnd, h, Option.bind_some, mwrL_0]
  rfl
theorem L_shiftEnd_x3 {M M1 : Mem} {G : Mel} {hn : Nat} {x1 x2 v : Int32} (h : s_X6_shiftEnd M hn x1 x2 = some (3, v, M1)) : s_L_shiftEnd M G hn x1 x2 = some (1, M1, G) := by
  rw [s_L_shiftEnd, h]
  rfl
theorem L_repairedShifts_ok {M M1 : Mem} {G : Mel} {hn : Nat} {x1 v : Int32} (h : s_X6_repairedShifts M hn x1 = some (0, v, M1)) : s_L_repairedShifts M G hn x1 = some (0, M1, mstL G 0 0 v.toInt64) := by
  rw [s_L_repairedShifts, h, Option.bind_some, mwrL_0]
  rfl
theorem L_repairedShifts_x3 {M M1 : Mem} {G : Mel} {hn : Nat} {x1 v : Int32} (h : s_X6_repairedShifts M hn x1 = some (3, v, M1)) : s_L_repairedShifts M G hn x1 = some (1, M1, G) := by
  rw [s_L_repairedShifts, h]
  rfl
theorem L_coverage_ok {M M1 : Mem} {G : Mel} {hn : Nat} {x1 x2 v : Int32} (h : s_X6_coverage M hn x1 x2 = some (0, v, M1)) : s_L_coverage M G hn x1 x2 = some (0, M1, mstL G 0 0 v.toInt64) := by
  rw [s_L_coverage, h, Option.bind_some, mwrL_0]
  rfl
theorem L_coverage_x3 {M M1 : Mem} {G : Mel} {hn : Nat} {x1 x2 v : Int32} (h : s_X6_coverage M hn x1 x2 = some (3, v, M1)) : s_L_coverage M G hn x1 x2 = some (1, M1, G) := by
  rw [s_L_coverage, h]
  rfl
theorem L_coverage_x1 {M M1 : Mem} {G : Mel} {hn : Nat} {x1 x2 v : Int32} (h : s_X6_coverage M hn x1 x2 = some (1, v, M1)) : s_L_coverage M G hn x1 x2 = some (2, M1, G) := by
  rw [s_L_coverage, h]
  rfl
theorem L_overlap_ok {M M1 : Mem} {G : Mel} {hn : Nat} {x1 v : Int32} (h : s_X6_overlap M hn x1 = some (0, v, M1)) : s_L_overlap M G hn x1 = some (0, M1, mstL G 0 0 v.toInt64) := by
  rw [s_L_overlap, h, Option.bind_some, mwrL_0]
  rfl
theorem L_overlap_x3 {M M1 : Mem} {G : Mel} {hn : Nat} {x1 v : Int32} (h : s_X6_overlap M hn x1 = some (3, v, M1)) : s_L_overlap M G hn x1 = some (1, M1, G) := by
  rw [s_L_overlap, h]
  rfl
theorem L_workedOn_ok {M M1 : Mem} {G : Mel} {hn : Nat} {x1 x2 v : Int32} (h : s_X6_workedOn M hn x1 x2 = some (0, v, M1)) : s_L_workedOn M G hn x1 x2 = some (0, M1, mstL G 0 0 v.toInt64) := by
  rw [s_L_workedOn, h, Option.bind_some, mwrL_0]
  rfl
theorem L_workedOn_x3 {M M1 : Mem} {G : Mel} {hn : Nat} {x1 x2 v : Int32} (h : s_X6_workedOn M hn x1 x2 = some (3, v, M1)) : s_L_workedOn M G hn x1 x2 = some (1, M1, G) := by
  rw [s_L_workedOn, h]
  rfl
theorem L_workedOn_x1 {M M1 : Mem} {G : Mel} {hn : Nat} {x1 x2 v : Int32} (h : s_X6_workedOn M hn x1 x2 = some (1, v, M1)) : s_L_workedOn M G hn x1 x2 = some (2, M1, G) := by
  rw [s_L_workedOn, h]
  rfl
theorem L_stretches_ok {M M1 : Mem} {G : Mel} {hn : Nat} {x1 v : Int32} (h : s_X6_stretches M hn x1 = some (0, v, M1)) : s_L_stretches M G hn x1 = some (0, M1, mstL G 0 0 v.toInt64) := by
  rw [s_L_stretches, h, Option.bind_some, mwrL_0]
  rfl
theorem L_stretches_x3 {M M1 : Mem} {G : Mel} {hn : Nat} {x1 v : Int32} (h : s_X6_stretches M hn x1 = some (3, v, M1)) : s_L_stretches M G hn x1 = some (1, M1, G) := by
  rw [s_L_stretches, h]
  rfl
theorem L_longestStretch_ok {M M1 : Mem} {G : Mel} {hn : Nat} {x1 v : Int32} (h : s_X6_longestStretch M hn x1 = some (0, v, M1)) : s_L_longestStretch M G hn x1 = some (0, M1, mstL G 0 0 v.toInt64) := by
  rw [s_L_longestStretch, h, Option.bind_some, mwrL_0]
  rfl
theorem L_longestStretch_x3 {M M1 : Mem} {G : Mel} {hn : Nat} {x1 v : Int32} (h : s_X6_longestStretch M hn x1 = some (3, v, M1)) : s_L_longestStretch M G hn x1 = some (1, M1, G) := by
  rw [s_L_longestStretch, h]
  rfl
theorem L_category_ok {M M1 : Mem} {G : Mel} {hn : Nat} {x1 x2 v : Int32} (h : s_X6_category M hn x1 x2 = some (0, v, M1)) : s_L_category M G hn x1 x2 = some (0, M1, mstL G 0 0 v.toInt64) := by
  rw [s_L_category, h, Option.bind_some, mwrL_0]
  rfl
theorem L_category_x3 {M M1 : Mem} {G : Mel} {hn : Nat} {x1 x2 v : Int32} (h : s_X6_category M hn x1 x2 = some (3, v, M1)) : s_L_category M G hn x1 x2 = some (1, M1, G) := by
  rw [s_L_category, h]
  rfl
theorem L_category_x1 {M M1 : Mem} {G : Mel} {hn : Nat} {x1 x2 v : Int32} (h : s_X6_category M hn x1 x2 = some (1, v, M1)) : s_L_category M G hn x1 x2 = some (2, M1, G) := by
  rw [s_L_category, h]
  rfl
theorem L_minutes_ok {M M1 : Mem} {G : Mel} {hn : Nat} {x1 x2 x3 v : Int32} (h : s_X6_minutes M hn x1 x2 x3 = some (0, v, M1)) : s_L_minutes M G hn x1 x2 x3 = some (0, M1, mstL G 0 0 v.toInt64) := by
  rw [s_L_minutes, h, Option.bind_some, mwrL_0]
  rfl
theorem L_minutes_x3 {M M1 : Mem} {G : Mel} {hn : Nat} {x1 x2 x3 v : Int32} (h : s_X6_minutes M hn x1 x2 x3 = some (3, v, M1)) : s_L_minutes M G hn x1 x2 x3 = some (1, M1, G) := by
  rw [s_L_minutes, h]
  rfl
theorem L_minutes_x1 {M M1 : Mem} {G : Mel} {hn : Nat} {x1 x2 x3 v : Int32} (h : s_X6_minutes M hn x1 x2 x3 = some (1, v, M1)) : s_L_minutes M G hn x1 x2 x3 = some (2, M1, G) := by
  rw [s_L_minutes, h]
  rfl
theorem L_quarters_ok {M M1 : Mem} {G : Mel} {hn : Nat} {x1 x2 x3 v : Int32} (h : s_X6_quarters M hn x1 x2 x3 = some (0, v, M1)) : s_L_quarters M G hn x1 x2 x3 = some (0, M1, mstL G 0 0 v.toInt64) := by
  rw [s_L_quarters, h, Option.bind_some, mwrL_0]
  rfl
theorem L_quarters_x3 {M M1 : Mem} {G : Mel} {hn : Nat} {x1 x2 x3 v : Int32} (h : s_X6_quarters M hn x1 x2 x3 = some (3, v, M1)) : s_L_quarters M G hn x1 x2 x3 = some (1, M1, G) := by
  rw [s_L_quarters, h]
  rfl
theorem L_quarters_x1 {M M1 : Mem} {G : Mel} {hn : Nat} {x1 x2 x3 v : Int32} (h : s_X6_quarters M hn x1 x2 x3 = some (1, v, M1)) : s_L_quarters M G hn x1 x2 x3 = some (2, M1, G) := by
  rw [s_L_quarters, h]
  rfl
theorem L_premiumPay_ok {M M1 : Mem} {G : Mel} {hn : Nat} {x1 v : Int32} (h : s_X6_premiumPay M hn x1 = some (0, v, M1)) : s_L_premiumPay M G hn x1 = some (0, M1, mstL G 0 0 v.toInt64) := by
  rw [s_L_premiumPay, h, Option.bind_some, mwrL_0]
  rfl
theorem L_premiumPay_x3 {M M1 : Mem} {G : Mel} {hn : Nat} {x1 v : Int32} (h : s_X6_premiumPay M hn x1 = some (3, v, M1)) : s_L_premiumPay M G hn x1 = some (1, M1, G) := by
  rw [s_L_premiumPay, h]
  rfl
theorem L_pay_ok {M M1 : Mem} {G : Mel} {hn : Nat} {x1 v : Int32} (h : s_X6_pay M hn x1 = some (0, v, M1)) : s_L_pay M G hn x1 = some (0, M1, mstL G 0 0 v.toInt64) := by
  rw [s_L_pay, h, Option.bind_some, mwrL_0]
  rfl
theorem L_pay_x3 {M M1 : Mem} {G : Mel} {hn : Nat} {x1 v : Int32} (h : s_X6_pay M hn x1 = some (3, v, M1)) : s_L_pay M G hn x1 = some (1, M1, G) := by
  rw [s_L_pay, h]
  rfl
/-! the law's comparison -/
def lwq (A : Option (Int32 × Mem × Mel)) (F : Mem → Option (Int32 × Mem)) : Option (Mem × Mel) :=
  A.bind fun r1 =>
  (F r1.2.1).bind fun r2 =>
  (s_X7_thrown r2.2).bind fun r3 =>
  if r3 = r1.1 then
    if r1.1 = 0 then
      (mrdL 1 (r1.2.2 0) 0).bind fun v4 =>
      if v4 = r2.1.toInt64 then
        some (r2.2, r1.2.2)
      else
        none
    else
      some (r2.2, r1.2.2)
  else
    none
theorem lwq_ok {A : Option (Int32 × Mem × Mel)} {F : Mem → Option (Int32 × Mem)} {c v : Int32} {M1 M2 : Mem} {G1 : Mel} (hA : A = some (c, M1, G1)) (hF : F M1 = some (v, M2)) (hc : M2 1 0 = c) (hv : c = 0 → G1 0 0 = v.toInt64) : lwq A F = some (M2, G1) := by
  unfold lwq
  rw [hA, Option.bind_some]
  dsimp only
  rw [hF, Option.bind_some]
  unfold s_X7_thrown
  rw [Option.bind_some, if_pos hc]
  dsimp only
  by_cases h : c = 0
  · rw [if_pos h, mrdL_0, Option.bind_some, if_pos (hv h)]
  · rw [if_neg h]
theorem mstL_00 (G : Mel) (x : Int64) : mstL G 0 0 x 0 0 = x := by rw [mstL_self]; rfl
theorem mstL_0k (G : Mel) (x : Int64) : ∀ k, k ≠ 0 → mstL G 0 0 x k = G k := fun k hk => mstL_ne G 0 x hk
theorem query_ok {hn : Nat} {M : Mem} {G : Mel} (hI : Inv hn M G) {A : Option (Int32 × Mem × Mel)} {F : Mem → Option (Int32 × Mem)} {v : Int32} {M1 M2 : Mem} (hA : A = some (0, M1, mstL G 0 0 v.toInt64)) (hF : F M1 = some (v, M2)) (hc : M2 1 0 = 0) (h1 : Fq M M1) (h2 : Fq M1 M2) : ∃ (M' : Mem) (G' : Mel), lwq A F = some (M', G') ∧ Inv hn M' G' :=
  ⟨M2, _, lwq_ok hA hF hc (fun _ => mstL_00 G _), hI.fq (h1.tr h2) (mstL_0k G _)⟩
theorem query_no {hn : Nat} {M : Mem} {G : Mel} (hI : Inv hn M G) {A : Option (Int32 × Mem × Mel)} {F : Mem → Option (Int32 × Mem)} {c v : Int32} {M1 M2 : Mem} (hA : A = some (c, M1, G)) (hc0 : c ≠ 0) (hF : F M1 = some (v, M2)) (hc : M2 1 0 = c) (h1 : Fq M M1) (h2 : Fq M1 M2) : ∃ (M' : Mem) (G' : Mel), lwq A F = some (M', G') ∧ Inv hn M' G' :=
  ⟨M2, G, lwq_ok hA hF hc (fun h => absurd h hc0), hI.fq (h1.tr h2) (fun _ _ => rfl)⟩
theorem Fq.of3 {M M' : Mem} (h : ∀ k, k ≠ 43 → k ≠ 44 → k ≠ 45 → M' k = M k) : Fq M M' := ⟨fun k hk => h k (by omega) (by omega) (by omega), by rw [h 1 (by omega) (by omega) (by omega)], by rw [h 1 (by omega) (by omega) (by omega)]⟩
theorem Fq.of1 {M M' : Mem} (h : ∀ k, k < 34 ∨ 45 < k → M' k = M k) : Fq M M' := ⟨fun k hk => h k (by omega), by rw [h 1 (by omega)], by rw [h 1 (by omega)]⟩
theorem Fq.of5 {M M' : Mem} (h : ∀ k, k < 38 ∨ 45 < k → M' k = M k) : Fq M M' := Fq.of1 (fun k hk => h k (by omega))
theorem X4_sz {M : Mem} {t n : Nat} {f : Nat → Nat → Int} (h : Tb M t n f) : s_X4_size M t = some (iI (n : Int)) := X4_size h
theorem wthn (x : Int32) {a b : Int} (ha : -2147483648 ≤ a ∧ a < 2147483648) (hb : -2147483648 ≤ b ∧ b < 2147483648) : (∃ k : Int, a ≤ k ∧ k ≤ b ∧ x = iI k ∧ s_X6_requireWithin x (iI a) (iI b) = some 0 ∧ s_X7_in x (iI a) (iI b) = some 1) ∨ (s_X6_requireWithin x (iI a) (iI b) = some 1 ∧ s_X7_in x (iI a) (iI b) = some 0) := by
  obtain ⟨k, rfl, hk⟩ := iI_ex x
  have e1 : s_X6_requireWithin (iI k) (iI a) (iI b) = if a ≤ k ∧ k ≤ b then some 0 else some 1 := by
    unfold s_X6_requireWithin
    by_cases c : k < a
    · rw [if_pos ((iI_lt hk ha).mpr c), if_neg (by omega)]
    · rw [if_neg (fun h => c ((iI_lt hk ha).mp h))]
      by_cases d : k ≤ b
      · rw [if_pos ((iI_le hk hb).mpr d), if_pos (by omega)]
      · rw [if_neg (fun h => d ((iI_le hk hb).mp h)), if_neg (by omega)]
  by_cases c : a ≤ k ∧ k ≤ b
  · exact Or.inl ⟨k, c.1, c.2, rfl, by rw [e1, if_pos c], by rw [X7_in hk ha hb, decide_eq_true c]; rfl⟩
  · exact Or.inr ⟨by rw [e1, if_neg c], by rw [X7_in hk ha hb, decide_eq_false c]; rfl⟩
/-- a number below n -/
theorem nmbr {M : Mem} {t n : Nat} {f : Nat → Nat → Int} (h : Tb M t n f) (x : Int32) : (∃ k : Nat, k < n ∧ x = iI (k : Int) ∧ s_X6_requireNumber M t x = some 0 ∧ s_X7_in x 0 (iI (n : Int) - 1) = some 1) ∨ (s_X6_requireNumber M t x = some 3 ∧ s_X7_in x 0 (iI (n : Int) - 1) = some 0) := by
  obtain ⟨k, rfl, hk⟩ := iI_ex x
  have hn := h.n_b
  have e2 : s_X7_in (iI k) 0 (iI (n : Int) - 1) = some (bI (decide (0 ≤ k ∧ k ≤ (n : Int) - 1))) := by
    rw [li_0, li_1, iI_sub, X7_in hk (by omega) (by omega)]
  have e1 : s_X6_requireNumber M t (iI k) = if 0 ≤ k ∧ k ≤ (n : Int) - 1 then some 0 else some 3 := by
    unfold s_X6_requireNumber
    rw [X4_sz h, li_0]
    by_cases c : k < 0
    · rw [if_pos (by rw [iI_lt] <;> omega), if_neg (by omega)]
    · rw [if_neg (by rw [iI_lt] <;> omega), Option.bind_some]
      by_cases d : k < n
      · rw [if_pos (by rw [iI_lt] <;> omega), if_pos (by omega)]
      · rw [if_neg (by rw [iI_lt] <;> omega), if_neg (by omega)]
  by_cases c : 0 ≤ k ∧ k ≤ (n : Int) - 1
  · exact Or.inl ⟨k.toNat, by omega, congrArg iI (by omega), by rw [e1, if_pos c], by rw [e2, decide_eq_true c]; rfl⟩
  · exact Or.inr ⟨by rw [e1, if_neg c], by rw [e2, decide_eq_false c]; rfl⟩
/-! the model lays out -/
theorem X7_looks_no {M : Mem} {x : Int32} (h : s_X7_isOne M x = some 0) : s_X7_looks M x = some (0, mst M 1 0 1) := by
  have e : mst M 1 0 1 1 0 = 1 := by rw [mst_a, if_pos rfl, if_pos rfl]
  unfold s_X7_looks bnd
  rw [h, Option.bind_some, if_pos rfl]
  dsimp only
  rw [e, if_neg (by decide), Option.bind_some, e, if_neg (by decide)]
theorem X7_looks_ok {hn e n : Nat} {tm : Nat → Nat} {inn : Nat → Bool} {E B : List (Nat × Nat)} {M : Mem} {G : Mel} (h : M 1 1 = iI (hn : Int)) (hh : hn ≤ 6) (he : e < hn) (hE : EmpI M G e n tm inn E B) {w : Nat → Bool} (hw : w = wk (cvr (shL n tm inn n) E) (brk B)) : ∃ M', s_X7_looks M (iI e) = some (1, M') ∧ Laid M' (shL n tm inn n) (shR n inn n) (cvr (shL n tm inn n) E) (brk B) (pd w) (flg (pd w) 6) ∧ M' 1 0 = 0 ∧ Fq M M' := by
  have h1 := X7_isOne_ok h hh he
  have hF := Fq.thrown M 0
  have hE' : EmpI (mst M 1 0 0) G e n tm inn E B := hE.fq hF (fun _ _ => rfl)
  obtain ⟨M', a1, a2, a3, a4⟩ := X7_lays (by omega) hE'.1.1 hE'.1.2.2 hE'.2.1.2.2 hE'.2.2.1.2.2 hE'.2.1.1 hE'.2.2.1.1 hw
  have e0 : mst M 1 0 0 1 0 = 0 := by rw [mst_a, if_pos rfl, if_pos rfl]
  have e1 : M' 1 0 = 0 := by rw [a4 0 (by omega) (by omega) (by omega) (by omega) (by omega), e0]
  refine ⟨M', ?_, a2, e1, hF.tr ⟨fun k hk => a3 k (by omega) (by omega), a4 1 (by omega) (by omega) (by omega) (by omega) (by omega), a4 14 (by omega) (by omega) (by omega) (by omega) (by omega)⟩⟩
  unfold s_X7_looks bnd
  rw [h1, Option.bind_some, if_neg (by decide)]
  dsimp only
  rw [e0, if_pos rfl, a1, Option.bind_some, Option.bind_some, e1, if_pos rfl]

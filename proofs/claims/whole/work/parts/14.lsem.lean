/-! the wrappers of the law: links and meanings, printed by program -/
theorem kw_initL : Cond.initialized RL ∈ BG := bg_1 (List.mem_of_getElem? (l := tables_1_1) (i := 0) rfl) rfl
theorem wl_L_109 : WL RL 109 yL_hire cL_hire 4 (some .int) [(0, 9, 12, 13), (0, 9, 15, 15)] := ⟨kw_107, kw_108, kw_initL, kw_110, by decide +kernel, by decide +kernel⟩
theorem pd_yL_hire : (parseMethodDescriptor yL_hire.desc).map (fun d => d.parameters.length) = some 3 := by decide +kernel
theorem wl_L_119 : WL RL 119 yL_setWage cL_setWage 5 (some .int) [(0, 10, 13, 21), (0, 10, 17, 13)] := ⟨kw_152, kw_153, kw_initL, kw_154, by decide +kernel, by decide +kernel⟩
theorem pd_yL_setWage : (parseMethodDescriptor yL_setWage.desc).map (fun d => d.parameters.length) = some 4 := by decide +kernel
theorem wl_L_123 : WL RL 123 yL_punch cL_punch 6 (some .int) [(0, 12, 15, 21), (0, 12, 19, 13), (0, 12, 23, 15)] := ⟨kw_174, kw_175, kw_initL, kw_176, by decide +kernel, by decide +kernel⟩
theorem pd_yL_punch : (parseMethodDescriptor yL_punch.desc).map (fun d => d.parameters.length) = some 5 := by decide +kernel
theorem wl_L_127 : WL RL 127 yL_removePunch cL_removePunch 5 (some .int) [(0, 17, 20, 21), (0, 17, 24, 31)] := ⟨kw_218, kw_219, kw_initL, kw_220, by decide +kernel, by decide +kernel⟩
theorem pd_yL_removePunch : (parseMethodDescriptor yL_removePunch.desc).map (fun d => d.parameters.length) = some 4 := by decide +kernel
theorem wl_L_130 : WL RL 130 yL_enter cL_enter 6 (some .int) [(0, 12, 15, 21), (0, 12, 19, 13), (0, 12, 23, 15)] := ⟨kw_236, kw_237, kw_initL, kw_238, by decide +kernel, by decide +kernel⟩
theorem pd_yL_enter : (parseMethodDescriptor yL_enter.desc).map (fun d => d.parameters.length) = some 5 := by decide +kernel
theorem wl_L_134 : WL RL 134 yL_removeEntry cL_removeEntry 5 (some .int) [(0, 10, 13, 21)] := ⟨kw_260, kw_261, kw_initL, kw_262, by decide +kernel, by decide +kernel⟩
theorem pd_yL_removeEntry : (parseMethodDescriptor yL_removeEntry.desc).map (fun d => d.parameters.length) = some 4 := by decide +kernel
theorem wl_L_137 : WL RL 137 yL_enterBreak cL_enterBreak 6 (some .int) [(0, 12, 15, 21), (0, 12, 19, 13), (0, 12, 23, 15)] := ⟨kw_281, kw_282, kw_initL, kw_283, by decide +kernel, by decide +kernel⟩
theorem pd_yL_enterBreak : (parseMethodDescriptor yL_enterBreak.desc).map (fun d => d.parameters.length) = some 5 := by decide +kernel
theorem wl_L_140 : WL RL 140 yL_removeBreak cL_removeBreak 5 (some .int) [(0, 10, 13, 21)] := ⟨kw_292, kw_293, kw_initL, kw_294, by decide +kernel, by decide +kernel⟩
theorem pd_yL_removeBreak : (parseMethodDescriptor yL_removeBreak.desc).map (fun d => d.parameters.length) = some 4 := by decide +kernel
theorem wl_L_143 : WL RL 143 yL_addPremium cL_addPremium 7 (some .int) [(0, 14, 17, 13), (0, 14, 21, 15)] := ⟨kw_303, kw_304, kw_initL, kw_305, by decide +kernel, by decide +kernel⟩
theorem pd_yL_addPremium : (parseMethodDescriptor yL_addPremium.desc).map (fun d => d.parameters.length) = some 6 := by decide +kernel
theorem wl_L_147 : WL RL 147 yL_removePremium cL_removePremium 4 (some .int) [(0, 9, 12, 21)] := ⟨kw_322, kw_323, kw_initL, kw_324, by decide +kernel, by decide +kernel⟩
theorem pd_yL_removePremium : (parseMethodDescriptor yL_removePremium.desc).map (fun d => d.parameters.length) = some 3 := by decide +kernel
theorem wl_L_150 : WL RL 150 yL_closeWeek cL_closeWeek 4 (some .int) [(0, 9, 12, 21), (0, 9, 15, 15)] := ⟨kw_333, kw_334, kw_initL, kw_335, by decide +kernel, by decide +kernel⟩
theorem pd_yL_closeWeek : (parseMethodDescriptor yL_closeWeek.desc).map (fun d => d.parameters.length) = some 3 := by decide +kernel
theorem wl_L_157 : WL RL 157 yL_closedWeeks cL_closedWeeks 4 (some .int) [(0, 9, 12, 21)] := ⟨kw_532, kw_533, kw_initL, kw_534, by decide +kernel, by decide +kernel⟩
theorem pd_yL_closedWeeks : (parseMethodDescriptor yL_closedWeeks.desc).map (fun d => d.parameters.length) = some 3 := by decide +kernel
theorem wl_L_160 : WL RL 160 yL_earned cL_earned 4 (some .int) [(0, 8, 11, 21)] := ⟨kw_547, kw_548, kw_initL, kw_549, by decide +kernel, by decide +kernel⟩
theorem pd_yL_earned : (parseMethodDescriptor yL_earned.desc).map (fun d => d.parameters.length) = some 3 := by decide +kernel
theorem wl_L_163 : WL RL 163 yL_shifts cL_shifts 4 (some .int) [(0, 9, 12, 21)] := ⟨kw_558, kw_559, kw_initL, kw_560, by decide +kernel, by decide +kernel⟩
theorem pd_yL_shifts : (parseMethodDescriptor yL_shifts.desc).map (fun d => d.parameters.length) = some 3 := by decide +kernel
theorem wl_L_166 : WL RL 166 yL_shiftBegin cL_shiftBegin 5 (some .int) [(0, 10, 13, 21)] := ⟨kw_574, kw_575, kw_initL, kw_576, by decide +kernel, by decide +kernel⟩
theorem pd_yL_shiftBegin : (parseMethodDescriptor yL_shiftBegin.desc).map (fun d => d.parameters.length) = some 4 := by decide +kernel
theorem wl_L_169 : WL RL 169 yL_shiftEnd cL_shiftEnd 5 (some .int) [(0, 10, 13, 21)] := ⟨kw_585, kw_586, kw_initL, kw_587, by decide +kernel, by decide +kernel⟩
theorem pd_yL_shiftEnd : (parseMethodDescriptor yL_shiftEnd.desc).map (fun d => d.parameters.length) = some 4 := by decide +kernel
theorem wl_L_172 : WL RL 172 yL_repairedShifts cL_repairedShifts 4 (some .int) [(0, 9, 12, 21)] := ⟨kw_596, kw_597, kw_initL, kw_598, by decide +kernel, by decide +kernel⟩
theorem pd_yL_repairedShifts : (parseMethodDescriptor yL_repairedShifts.desc).map (fun d => d.parameters.length) = some 3 := by decide +kernel
theorem wl_L_175 : WL RL 175 yL_coverage cL_coverage 5 (some .int) [(0, 10, 13, 21), (0, 10, 17, 13)] := ⟨kw_607, kw_608, kw_initL, kw_609, by decide +kernel, by decide +kernel⟩
theorem pd_yL_coverage : (parseMethodDescriptor yL_coverage.desc).map (fun d => d.parameters.length) = some 4 := by decide +kernel
theorem wl_L_178 : WL RL 178 yL_overlap cL_overlap 4 (some .int) [(0, 9, 12, 21)] := ⟨kw_621, kw_622, kw_initL, kw_623, by decide +kernel, by decide +kernel⟩
theorem pd_yL_overlap : (parseMethodDescriptor yL_overlap.desc).map (fun d => d.parameters.length) = some 3 := by decide +kernel
theorem wl_L_181 : WL RL 181 yL_workedOn cL_workedOn 5 (some .int) [(0, 10, 13, 21), (0, 10, 17, 13)] := ⟨kw_633, kw_634, kw_initL, kw_635, by decide +kernel, by decide +kernel⟩
theorem pd_yL_workedOn : (parseMethodDescriptor yL_workedOn.desc).map (fun d => d.parameters.length) = some 4 := by decide +kernel
theorem wl_L_184 : WL RL 184 yL_stretches cL_stretches 4 (some .int) [(0, 9, 12, 21)] := ⟨kw_645, kw_646, kw_initL, kw_647, by decide +kernel, by decide +kernel⟩
theorem pd_yL_stretches : (parseMethodDescriptor yL_stretches.desc).map (fun d => d.parameters.length) = some 3 := by decide +kernel
theorem wl_L_187 : WL RL 187 yL_longestStretch cL_longestStretch 4 (some .int) [(0, 9, 12, 21)] := ⟨kw_656, kw_657, kw_initL, kw_658, by decide +kernel, by decide +kernel⟩
theorem pd_yL_longestStretch : (parseMethodDescriptor yL_longestStretch.desc).map (fun d => d.parameters.length) = some 3 := by decide +kernel
theorem wl_L_190 : WL RL 190 yL_category cL_category 5 (some .int) [(0, 10, 13, 21), (0, 10, 17, 13)] := ⟨kw_670, kw_671, kw_initL, kw_672, by decide +kernel, by decide +kernel⟩
theorem pd_yL_category : (parseMethodDescriptor yL_category.desc).map (fun d => d.parameters.length) = some 4 := by decide +kernel
theorem wl_L_193 : WL RL 193 yL_minutes cL_minutes 6 (some .int) [(0, 12, 15, 21), (0, 12, 19, 13)] := ⟨kw_685, kw_686, kw_initL, kw_687, by decide +kernel, by decide +kernel⟩
theorem pd_yL_minutes : (parseMethodDescriptor yL_minutes.desc).map (fun d => d.parameters.length) = some 5 := by decide +kernel
theorem wl_L_196 : WL RL 196 yL_quarters cL_quarters 6 (some .int) [(0, 12, 15, 21), (0, 12, 19, 13)] := ⟨kw_701, kw_702, kw_initL, kw_703, by decide +kernel, by decide +kernel⟩
theorem pd_yL_quarters : (parseMethodDescriptor yL_quarters.desc).map (fun d => d.parameters.length) = some 5 := by decide +kernel
theorem wl_L_199 : WL RL 199 yL_premiumPay cL_premiumPay 4 (some .int) [(0, 9, 12, 21)] := ⟨kw_716, kw_717, kw_initL, kw_718, by decide +kernel, by decide +kernel⟩
theorem pd_yL_premiumPay : (parseMethodDescriptor yL_premiumPay.desc).map (fun d => d.parameters.length) = some 3 := by decide +kernel
theorem wl_L_202 : WL RL 202 yL_pay cL_pay 4 (some .int) [(0, 9, 12, 21)] := ⟨kw_727, kw_728, kw_initL, kw_729, by decide +kernel, by decide +kernel⟩
theorem pd_yL_pay : (parseMethodDescriptor yL_pay.desc).map (fun d => d.parameters.length) = some 3 := by decide +kernel
theorem cast_1 : Cond.castable eIAE eIAE ∈ lw_tbl := tb_in_1 (List.mem_of_getElem? (l := tables_1_1) (i := 156) rfl)
theorem cast_2 : Cond.castable eISE eISE ∈ lw_tbl := tb_in_1 (List.mem_of_getElem? (l := tables_1_1) (i := 225) rfl)
theorem cast_3 : Cond.castable eIOB eIOB ∈ lw_tbl := tb_in_2 (List.mem_of_getElem? (l := tables_1_2) (i := 48) rfl)
theorem cast_4 : Cond.castable eNSE eNSE ∈ lw_tbl := tb_in_2 (List.mem_of_getElem? (l := tables_1_2) (i := 106) rfl)
def s_L_setWage (M : Mem) (G : Mel) (hn : Nat) (x1 : Int32) (x2 : Int32) : Option (Int32 × Mem × Mel) :=
  (s_X6_setWage M hn x1 x2).bind fun r1 =>
  if ¬ r1.1 = 0 then
    (if r1.1 = 3 then
      some (1, r1.2.2, G)
    else
    (if r1.1 = 1 then
      some (2, r1.2.2, G)
    else
    none))
  else
  (mwrL 1 G 0 0 r1.2.1.toInt64).bind fun G4 =>
  some (0, r1.2.2, G4)

def s_L_punch (M : Mem) (G : Mel) (hn : Nat) (x1 : Int32) (x2 : Int32) (x3 : Int32) : Option (Int32 × Mem × Mel) :=
  (s_X6_punch M hn x1 x2 x3).bind fun r1 =>
  if ¬ r1.1 = 0 then
    (if r1.1 = 3 then
      some (1, r1.2.2, G)
    else
    (if r1.1 = 1 then
      some (2, r1.2.2, G)
    else
    (if r1.1 = 2 then
      some (3, r1.2.2, G)
    else
    none)))
  else
  (mwrL 1 G 0 0 r1.2.1.toInt64).bind fun G5 =>
  some (0, r1.2.2, G5)

def s_L_removePunch (M : Mem) (G : Mel) (hn : Nat) (x1 : Int32) (x2 : Int32) : Option (Int32 × Mem × Mel) :=
  (s_X6_removePunch M hn x1 x2).bind fun r1 =>
  if ¬ r1.1 = 0 then
    (if r1.1 = 3 then
      some (1, r1.2.2, G)
    else
    (if r1.1 = 4 then
      some (2, r1.2.2, G)
    else
    none))
  else
  bnd (α := Int64) (
    if r1.2.1 = 0 then
      0
    else
      1) fun p5 =>
  (mwrL 1 G 0 0 p5).bind fun G6 =>
  some (0, r1.2.2, G6)

def s_L_enter (M : Mem) (G : Mel) (hn : Nat) (x1 : Int32) (x2 : Int32) (x3 : Int32) : Option (Int32 × Mem × Mel) :=
  (s_X6_enter M hn x1 x2 x3).bind fun r1 =>
  if ¬ r1.1 = 0 then
    (if r1.1 = 3 then
      some (1, r1.2.2, G)
    else
    (if r1.1 = 1 then
      some (2, r1.2.2, G)
    else
    (if r1.1 = 2 then
      some (3, r1.2.2, G)
    else
    none)))
  else
  (mwrL 1 G 0 0 r1.2.1.toInt64).bind fun G5 =>
  some (0, r1.2.2, G5)

def s_L_removeEntry (M : Mem) (G : Mel) (hn : Nat) (x1 : Int32) (x2 : Int32) : Option (Int32 × Mem × Mel) :=
  (s_X6_removeEntry M hn x1 x2).bind fun r1 =>
  if ¬ r1.1 = 0 then
    (if r1.1 = 3 then
      some (1, r1.2.2, G)
    else
    none)
  else
  (mwrL 1 G 0 0 r1.2.1.toInt64).bind fun G3 =>
  some (0, r1.2.2, G3)

def s_L_enterBreak (M : Mem) (G : Mel) (hn : Nat) (x1 : Int32) (x2 : Int32) (x3 : Int32) : Option (Int32 × Mem × Mel) :=
  (s_X6_enterBreak M hn x1 x2 x3).bind fun r1 =>
  if ¬ r1.1 = 0 then
    (if r1.1 = 3 then
      some (1, r1.2.2, G)
    else
    (if r1.1 = 1 then
      some (2, r1.2.2, G)
    else
    (if r1.1 = 2 then
      some (3, r1.2.2, G)
    else
    none)))
  else
  (mwrL 1 G 0 0 r1.2.1.toInt64).bind fun G5 =>
  some (0, r1.2.2, G5)

def s_L_removeBreak (M : Mem) (G : Mel) (hn : Nat) (x1 : Int32) (x2 : Int32) : Option (Int32 × Mem × Mel) :=
  (s_X6_removeBreak M hn x1 x2).bind fun r1 =>
  if ¬ r1.1 = 0 then
    (if r1.1 = 3 then
      some (1, r1.2.2, G)
    else
    none)
  else
  (mwrL 1 G 0 0 r1.2.1.toInt64).bind fun G3 =>
  some (0, r1.2.2, G3)

def s_L_addPremium (M : Mem) (G : Mel) (x1 : Int32) (x2 : Int32) (x3 : Int32) (x4 : Int32) : Option (Int32 × Mem × Mel) :=
  (s_X6_addPremium M x1 x2 x3 x4).bind fun r1 =>
  if ¬ r1.1 = 0 then
    (if r1.1 = 1 then
      some (1, r1.2.2, G)
    else
    (if r1.1 = 2 then
      some (2, r1.2.2, G)
    else
    none))
  else
  (mwrL 1 G 0 0 r1.2.1.toInt64).bind fun G4 =>
  some (0, r1.2.2, G4)

def s_L_removePremium (M : Mem) (G : Mel) (x1 : Int32) : Option (Int32 × Mem × Mel) :=
  (s_X6_removePremium M x1).bind fun r1 =>
  if ¬ r1.1 = 0 then
    (if r1.1 = 3 then
      some (1, r1.2.2, G)
    else
    none)
  else
  (mwrL 1 G 0 0 r1.2.1.toInt64).bind fun G3 =>
  some (0, r1.2.2, G3)

def s_L_closeWeek (M : Mem) (G : Mel) (hn : Nat) (x1 : Int32) : Option (Int32 × Mem × Mel) :=
  (s_X6_closeWeek M G hn x1).bind fun r1 =>
  if ¬ r1.1 = 0 then
    (if r1.1 = 3 then
      some (1, r1.2.2.1, r1.2.2.2)
    else
    (if r1.1 = 2 then
      some (2, r1.2.2.1, r1.2.2.2)
    else
    none))
  else
  (mwrL 1 r1.2.2.2 0 0 r1.2.1.toInt64).bind fun G4 =>
  some (0, r1.2.2.1, G4)

def s_L_closedWeeks (M : Mem) (G : Mel) (hn : Nat) (x1 : Int32) : Option (Int32 × Mel) :=
  (s_X6_closedWeeks M hn x1).bind fun r1 =>
  if ¬ r1.1 = 0 then
    (if r1.1 = 3 then
      some (1, G)
    else
    none)
  else
  (mwrL 1 G 0 0 r1.2.toInt64).bind fun G3 =>
  some (0, G3)

def s_L_earned (G : Mel) (hn : Nat) (x1 : Int32) : Option (Int32 × Mel) :=
  (s_X6_earned G hn x1).bind fun r1 =>
  if ¬ r1.1 = 0 then
    (if r1.1 = 3 then
      some (1, G)
    else
    none)
  else
  (mwrL 1 G 0 0 r1.2).bind fun G3 =>
  some (0, G3)

def s_L_shifts (M : Mem) (G : Mel) (hn : Nat) (x1 : Int32) : Option (Int32 × Mem × Mel) :=
  (s_X6_shifts M hn x1).bind fun r1 =>
  if ¬ r1.1 = 0 then
    (if r1.1 = 3 then
      some (1, r1.2.2, G)
    else
    none)
  else
  (mwrL 1 G 0 0 r1.2.1.toInt64).bind fun G3 =>
  some (0, r1.2.2, G3)

def s_L_shiftBegin (M : Mem) (G : Mel) (hn : Nat) (x1 : Int32) (x2 : Int32) : Option (Int32 × Mem × Mel) :=
  (s_X6_shiftBegin M hn x1 x2).bind fun r1 =>
  if ¬ r1.1 = 0 then
    (if r1.1 = 3 then
      some (1, r1.2.2, G)
    else
    none)
  else
  (mwrL 1 G 0 0 r1.2.1.toInt64).bind fun G3 =>
  some (0, r1.2.2, G3)

def s_L_shiftEnd (M : Mem) (G : Mel) (hn : Nat) (x1 : Int32) (x2 : Int32) : Option (Int32 × Mem × Mel) :=
  (s_X6_shiftEnd M hn x1 x2).bind fun r1 =>
  if ¬ r1.1 = 0 then
    (if r1.1 = 3 then
      some (1, r1.2.2, G)
    else
    none)
  else
  (mwrL 1 G 0 0 r1.2.1.toInt64).bind fun G3 =>
  some (0, r1.2.2, G3)

def s_L_repairedShifts (M : Mem) (G : Mel) (hn : Nat) (x1 : Int32) : Option (Int32 × Mem × Mel) :=
  (s_X6_repairedShifts M hn x1).bind fun r1 =>
  if ¬ r1.1 = 0 then
    (if r1.1 = 3 then
      some (1, r1.2.2, G)
    else
    none)
  else
  (mwrL 1 G 0 0 r1.2.1.toInt64).bind fun G3 =>
  some (0, r1.2.2, G3)

def s_L_coverage (M : Mem) (G : Mel) (hn : Nat) (x1 : Int32) (x2 : Int32) : Option (Int32 × Mem × Mel) :=
  (s_X6_coverage M hn x1 x2).bind fun r1 =>
  if ¬ r1.1 = 0 then
    (if r1.1 = 3 then
      some (1, r1.2.2, G)
    else
    (if r1.1 = 1 then
      some (2, r1.2.2, G)
    else
    none))
  else
  (mwrL 1 G 0 0 r1.2.1.toInt64).bind fun G4 =>
  some (0, r1.2.2, G4)

def s_L_overlap (M : Mem) (G : Mel) (hn : Nat) (x1 : Int32) : Option (Int32 × Mem × Mel) :=
  (s_X6_overlap M hn x1).bind fun r1 =>
  if ¬ r1.1 = 0 then
    (if r1.1 = 3 then
      some (1, r1.2.2, G)
    else
    none)
  else
  (mwrL 1 G 0 0 r1.2.1.toInt64).bind fun G3 =>
  some (0, r1.2.2, G3)

def s_L_workedOn (M : Mem) (G : Mel) (hn : Nat) (x1 : Int32) (x2 : Int32) : Option (Int32 × Mem × Mel) :=
  (s_X6_workedOn M hn x1 x2).bind fun r1 =>
  if ¬ r1.1 = 0 then
    (if r1.1 = 3 then
      some (1, r1.2.2, G)
    else
    (if r1.1 = 1 then
      some (2, r1.2.2, G)
    else
    none))
  else
  (mwrL 1 G 0 0 r1.2.1.toInt64).bind fun G4 =>
  some (0, r1.2.2, G4)

def s_L_stretches (M : Mem) (G : Mel) (hn : Nat) (x1 : Int32) : Option (Int32 × Mem × Mel) :=
  (s_X6_stretches M hn x1).bind fun r1 =>
  if ¬ r1.1 = 0 then
    (if r1.1 = 3 then
      some (1, r1.2.2, G)
    else
    none)
  else
  (mwrL 1 G 0 0 r1.2.1.toInt64).bind fun G3 =>
  some (0, r1.2.2, G3)

def s_L_longestStretch (M : Mem) (G : Mel) (hn : Nat) (x1 : Int32) : Option (Int32 × Mem × Mel) :=
  (s_X6_longestStretch M hn x1).bind fun r1 =>
  if ¬ r1.1 = 0 then
    (if r1.1 = 3 then
      some (1, r1.2.2, G)
    else
    none)
  else
  (mwrL 1 G 0 0 r1.2.1.toInt64).bind fun G3 =>
  some (0, r1.2.2, G3)

def s_L_category (M : Mem) (G : Mel) (hn : Nat) (x1 : Int32) (x2 : Int32) : Option (Int32 × Mem × Mel) :=
  (s_X6_category M hn x1 x2).bind fun r1 =>
  if ¬ r1.1 = 0 then
    (if r1.1 = 3 then
      some (1, r1.2.2, G)
    else
    (if r1.1 = 1 then
      some (2, r1.2.2, G)
    else
    none))
  else
  (mwrL 1 G 0 0 r1.2.1.toInt64).bind fun G4 =>
  some (0, r1.2.2, G4)

def s_L_minutes (M : Mem) (G : Mel) (hn : Nat) (x1 : Int32) (x2 : Int32) (x3 : Int32) : Option (Int32 × Mem × Mel) :=
  (s_X6_minutes M hn x1 x2 x3).bind fun r1 =>
  if ¬ r1.1 = 0 then
    (if r1.1 = 3 then
      some (1, r1.2.2, G)
    else
    (if r1.1 = 1 then
      some (2, r1.2.2, G)
    else
    none))
  else
  (mwrL 1 G 0 0 r1.2.1.toInt64).bind fun G4 =>
  some (0, r1.2.2, G4)

def s_L_quarters (M : Mem) (G : Mel) (hn : Nat) (x1 : Int32) (x2 : Int32) (x3 : Int32) : Option (Int32 × Mem × Mel) :=
  (s_X6_quarters M hn x1 x2 x3).bind fun r1 =>
  if ¬ r1.1 = 0 then
    (if r1.1 = 3 then
      some (1, r1.2.2, G)
    else
    (if r1.1 = 1 then
      some (2, r1.2.2, G)
    else
    none))
  else
  (mwrL 1 G 0 0 r1.2.1.toInt64).bind fun G4 =>
  some (0, r1.2.2, G4)

def s_L_premiumPay (M : Mem) (G : Mel) (hn : Nat) (x1 : Int32) : Option (Int32 × Mem × Mel) :=
  (s_X6_premiumPay M hn x1).bind fun r1 =>
  if ¬ r1.1 = 0 then
    (if r1.1 = 3 then
      some (1, r1.2.2, G)
    else
    none)
  else
  (mwrL 1 G 0 0 r1.2.1.toInt64).bind fun G3 =>
  some (0, r1.2.2, G3)

def s_L_pay (M : Mem) (G : Mel) (hn : Nat) (x1 : Int32) : Option (Int32 × Mem × Mel) :=
  (s_X6_pay M hn x1).bind fun r1 =>
  if ¬ r1.1 = 0 then
    (if r1.1 = 3 then
      some (1, r1.2.2, G)
    else
    none)
  else
  (mwrL 1 G 0 0 r1.2.1.toInt64).bind fun G3 =>
  some (0, r1.2.2, G3)

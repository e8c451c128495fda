/-! the model's premium pay -/
def PmM (M : Mem) (n : Nat) (pr : Nat → Nat → Nat) : Prop := M 1 14 = iI (n : Int) ∧ ∀ i, i < n → M 14 i = iI (pr i 0 : Nat) ∧ M 15 i = iI (pr i 1 : Nat) ∧ M 16 i = iI (pr i 2 : Nat) ∧ M 17 i = iI (pr i 3 : Nat)
theorem X7_applies {M : Mem} {n : Nat} {pr : Nat → Nat → Nat} (hp : PmOK n pr) (h : PmM M n pr) {i m : Nat} (hi : i < n) (hm : m < 10080) : s_X7_applies M (iI i) (iI m) = some (bI (onD (pr i 0) (m / 1440) && btw (m % 1440) (pr i 1) (pr i 2))) := by
  have hn := hp.1
  obtain ⟨b0, b1, b2, b3⟩ := hp.2 i hi
  obtain ⟨g0, g1, g2, g3⟩ := h.2 i hi
  have dm : iI (m : Int) / 1440 = iI ((m / 1440 : Nat) : Int) := by
    rw [li_1440, iI_div (by omega) (by omega)]
    congr 1
  have mm : iI (m : Int) - iI ((m / 1440 : Nat) : Int) * 1440 = iI ((m % 1440 : Nat) : Int) := by
    rw [li_1440, iI_mul, iI_sub]
    congr 1
    omega
  have hb := X2_btw (u := m % 1440) (by omega) b1 b2
  have r1 : mrd 6 (M 15) (iI (i : Int)) = some (iI (pr i 1 : Nat)) := by rw [mrd_i (by omega) (by omega), Int.toNat_natCast, g1]
  have r2 : mrd 6 (M 16) (iI (i : Int)) = some (iI (pr i 2 : Nat)) := by rw [mrd_i (by omega) (by omega), Int.toNat_natCast, g2]
  have r0 : mrd 6 (M 14) (iI (i : Int)) = some (iI (pr i 0 : Nat)) := by rw [mrd_i (by omega) (by omega), Int.toNat_natCast, g0]
  have e5 : (if iI (pr i 2 : Nat) ≤ iI (pr i 1 : Nat) then if iI (pr i 1 : Nat) = iI (pr i 2 : Nat) then some (1 : Int32) else if iI (pr i 1 : Nat) ≤ iI ((m % 1440 : Nat) : Int) then some 1 else if iI (pr i 2 : Nat) ≤ iI ((m % 1440 : Nat) : Int) then some 0 else some 1 else (s_X7_in (iI ((m % 1440 : Nat) : Int)) (iI (pr i 1 : Nat)) (iI (pr i 2 : Nat) - 1)).bind fun r5 => some r5) = some (bI (btw (m % 1440) (pr i 1) (pr i 2))) := by
    rw [← hb]
    unfold s_X2_isBetween
    by_cases c : pr i 2 ≤ pr i 1
    · have g : iI (pr i 2 : Nat) ≤ iI (pr i 1 : Nat) := by rw [iI_le] <;> omega
      simp only [if_pos g]
    · have g : ¬ iI (pr i 2 : Nat) ≤ iI (pr i 1 : Nat) := by rw [iI_le] <;> omega
      simp only [if_neg g]
      rw [li_1, iI_sub, X7_in (by omega) (by omega) (by omega), Option.bind_some]
      by_cases c1 : m % 1440 < pr i 1
      · rw [if_pos (by rw [iI_lt] <;> omega), decide_eq_false (by omega)]; rfl
      · rw [if_neg (by rw [iI_lt] <;> omega)]
        by_cases c2 : pr i 2 ≤ m % 1440
        · rw [if_pos (by rw [iI_le] <;> omega), decide_eq_false (by omega)]; rfl
        · rw [if_neg (by rw [iI_le] <;> omega), decide_eq_true (by omega)]; rfl
  have hm2 := onD_mod ⟨pr i 0, b0⟩ ⟨m / 1440, by omega⟩
  dsimp only at hm2
  unfold s_X7_applies bnd
  dsimp only
  rw [dm, mm, r1, Option.bind_some, r2, Option.bind_some, e5, Option.bind_some, r0, Option.bind_some]
  unfold onD
  by_cases c : ((iI ((pr i 0 : Nat) : Int) >>> (iI ((m / 1440 : Nat) : Int) &&& 31)) &&& 1) = 1
  · rw [if_pos (by rw [← hm2]; exact c), decide_eq_true c, Bool.true_and]
    cases btw (m % 1440) (pr i 1) (pr i 2) <;> rfl
  · rw [if_neg (by rw [← hm2]; exact c), decide_eq_false c, Bool.false_and]
    rfl

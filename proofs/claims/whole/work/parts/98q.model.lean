theorem L_ex4 {M : Mem} {n : Nat} {pr : Nat → Nat → Nat} (hp : PmOK n pr) (h : PmM M n pr) {p : Nat → Bool} {full : Bool} (hk : ∀ j, j < 10080 → M 22 j = if p j = true then iI (cm p full j : Nat) else iI (-1)) : ∀ (r fu m : Nat), m + r = 10080 → r < fu → ∃ y, L_X7_extra_4 M fu (iI (ex n pr p m)) (iI m) = some (iI (ex n pr p 10080), y) := by
  have hn := hp.1
  intro r
  induction r with
  | zero =>
    intro fu m hm hf
    cases fu with
    | zero => omega
    | succ fu =>
      have hm' : m = 10080 := by omega
      have hle : 10080 ≤ m := by omega
      refine ⟨iI (m : Int), ?_⟩
      rw [← hm', L_X7_extra_4, if_pos (by rw [li_10080, iI_le] <;> omega)]
  | succ r ih =>
    intro fu m hm hf
    cases fu with
    | zero => omega
    | succ fu =>
      obtain ⟨y, e⟩ := ih fu (m + 1) (by omega) (by omega)
      refine ⟨y, ?_⟩
      have hkm := hk m (by omega)
      have hx : ∃ y', L_X7_extra_16 M (iI m) FU 0 0 = some (iI (if p m = true then rt n pr m else 0), y') := by
        by_cases c : p m = true
        · rw [if_pos c] at hkm ⊢
          have hc := cat_le (od p m) (ow p m) (xd full m)
          obtain ⟨y', g⟩ := L_ex16 hp h (m := m) (by omega) hkm (by unfold cm; omega) n FU 0 (by omega) (by rw [FU_0]; omega)
          exact ⟨y', g⟩
        · rw [if_neg c] at hkm ⊢
          refine ⟨0, ?_⟩
          have r1 : mrd 10080 (M 22) (iI (m : Int)) = some (iI (-1)) := by rw [mrd_i (by omega) (by omega), Int.toNat_natCast, hkm]
          rw [FU_0, L_X7_extra_16, r1, Option.bind_some, if_pos (show iI (-1) = -1 from rfl)]
          split <;> rfl
      obtain ⟨y', g⟩ := hx
      rw [← e, L_X7_extra_4, if_neg (by rw [li_10080, iI_le] <;> omega), g, Option.bind_some]
      unfold bnd
      dsimp only
      rw [li_1, iI_add, iI_add]
      rfl
theorem X7_extra {M : Mem} {n : Nat} {pr : Nat → Nat → Nat} (hp : PmOK n pr) (h : PmM M n pr) {p : Nat → Bool} {full : Bool} (hk : ∀ j, j < 10080 → M 22 j = if p j = true then iI (cm p full j : Nat) else iI (-1)) : s_X7_extra M = some ((iI (ex n pr p 10080) + 30) / 60) := by
  obtain ⟨y, e⟩ := L_ex4 hp h hk 10080 FU 0 (by omega) (by rw [FU_0]; omega)
  have e' : L_X7_extra_4 M FU 0 0 = some (iI (ex n pr p 10080), y) := e
  unfold s_X7_extra
  rw [e']
  rfl

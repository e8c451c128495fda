theorem L_ex16 {M : Mem} {n : Nat} {pr : Nat → Nat → Nat} (hp : PmOK n pr) (h : PmM M n pr) {m : Nat} (hm : m < 10080) {kd : Int} (hk : M 22 m = iI kd) (hkd : 0 ≤ kd ∧ kd ≤ 2) : ∀ (r fu i : Nat), i + r = n → r < fu → ∃ y, L_X7_extra_16 M (iI m) fu (iI (gr pr (m / 1440) (m % 1440) i : Nat)) (iI i) = some (iI (gr pr (m / 1440) (m % 1440) n : Nat), y) := by
  have hn := hp.1
  intro r
  induction r with
  | zero =>
    intro fu i hi hf
    cases fu with
    | zero => omega
    | succ fu =>
      have hi' : i = n := by omega
      subst hi'
      refine ⟨iI (i : Int), ?_⟩
      rw [L_X7_extra_16, h.1, if_pos (by rw [iI_le] <;> omega)]
  | succ r ih =>
    intro fu i hi hf
    cases fu with
    | zero => omega
    | succ fu =>
      obtain ⟨y, e⟩ := ih fu (i + 1) (by omega) (by omega)
      refine ⟨y, ?_⟩
      have hb := (hp.2 i (by omega)).2.2.2
      have hgr := gr_le hp i (by omega) (d := m / 1440) (u := m % 1440)
      have g3 := (h.2 i (by omega)).2.2.2
      have r1 : mrd 10080 (M 22) (iI (m : Int)) = some (iI kd) := by rw [mrd_i (by omega) (by omega), Int.toNat_natCast, hk]
      have r2 : mrd 6 (M 17) (iI (i : Int)) = some (iI (pr i 3 : Nat)) := by rw [mrd_i (by omega) (by omega), Int.toNat_natCast, g3]
      rw [← e, L_X7_extra_16, h.1, if_neg (by rw [iI_le] <;> omega), r1, Option.bind_some, if_neg (by rw [li_m, iI_eq] <;> omega), r2, Option.bind_some, X7_applies hp h (by omega) hm, gr]
      unfold bnd
      dsimp only
      rw [li_1, iI_add]
      by_cases c : pr i 3 ≤ gr pr (m / 1440) (m % 1440) i
      · rw [if_pos (by rw [iI_le] <;> omega), Option.bind_some]
        by_cases c2 : onD (pr i 0) (m / 1440) = true ∧ btw (m % 1440) (pr i 1) (pr i 2) = true
        · rw [if_pos c2, Nat.max_eq_left c]; rfl
        · rw [if_neg c2]; rfl
      · rw [if_neg (by rw [iI_le] <;> omega), Option.bind_some]
        by_cases c2 : onD (pr i 0) (m / 1440) = true ∧ btw (m % 1440) (pr i 1) (pr i 2) = true
        · rw [if_pos c2, c2.1, c2.2, Nat.max_eq_right (by omega), if_neg (by decide), Option.bind_some, Option.bind_some]; rfl
        · have : (onD (pr i 0) (m / 1440) && btw (m % 1440) (pr i 1) (pr i 2)) = false := by
            simp only [Bool.and_eq_false_iff]
            cases h1 : onD (pr i 0) (m / 1440)
            · exact Or.inl rfl
            · right
              cases h2 : btw (m % 1440) (pr i 1) (pr i 2)
              · rfl
              · exact absurd ⟨h1, h2⟩ c2
          rw [if_neg c2, this, if_pos (by rfl), Option.bind_some]; rfl

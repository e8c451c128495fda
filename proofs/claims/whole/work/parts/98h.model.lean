/-! the model: counts by the minute -/
/-- what the model's loop over the minutes keeps: cover and rest summed up below m, marks from there on -/
def PaidI (M0 M : Mem) (C B : Nat → Int) (m : Nat) : Prop :=
  (∀ j, j < m → M 20 j = iI (C j)) ∧ (∀ j, m ≤ j → M 20 j = M0 20 j) ∧ (∀ j, j < m → M 21 j = iI (B j)) ∧ (∀ j, m ≤ j → M 21 j = M0 21 j) ∧
  M 1 31 = iI (db C m : Nat) ∧ M 1 32 = iI ((rr (wk C B) m).length : Nat) ∧ M 1 33 = iI (lg (rr (wk C B) m) : Nat) ∧
  (∀ d, d < 7 → M 23 d = iI (ct (wk C B) (d * 1440) ((d + 1) * 1440) m : Nat)) ∧ (∀ d, d < 7 → M 24 d = iI (ct (pd (wk C B)) (d * 1440) ((d + 1) * 1440) m : Nat)) ∧
  (∀ j, j < m → M 22 j = if pd (wk C B) j = true then iI 0 else iI (-1)) ∧
  (∀ k, k ≠ 1 → k ≠ 20 → k ≠ 21 → k ≠ 22 → k ≠ 23 → k ≠ 24 → M k = M0 k) ∧ ∀ j, j ≠ 31 → j ≠ 32 → j ≠ 33 → M 1 j = M0 1 j
theorem ln_le (w : Nat → Bool) : ∀ T, ln w T ≤ T
  | 0 => Nat.le_refl _
  | T + 1 => by
    have := ln_le w T
    rw [ln]
    split <;> omega
theorem ct_le (w : Nat → Bool) (lo hi : Nat) : ∀ T, ct w lo hi T ≤ T
  | 0 => Nat.le_refl _
  | T + 1 => by
    have := ct_le w lo hi T
    rw [ct]
    split <;> omega
theorem db_le (C : Nat → Int) : ∀ T, db C T ≤ T
  | 0 => Nat.le_refl _
  | T + 1 => by
    have := db_le C T
    rw [db]
    split <;> omega
theorem lg_le (w : Nat → Bool) : ∀ T, lg (rr w T) ≤ T
  | 0 => Nat.le_refl _
  | T + 1 => by
    have := lg_le w T
    have := ln_le w (T + 1)
    rw [rr_lg]
    omega
theorem X7_in {a b c : Int} (ha : -2147483648 ≤ a ∧ a < 2147483648) (hb : -2147483648 ≤ b ∧ b < 2147483648) (hc : -2147483648 ≤ c ∧ c < 2147483648) : s_X7_in (iI a) (iI b) (iI c) = some (bI (decide (b ≤ a ∧ a ≤ c))) := by
  unfold s_X7_in
  by_cases c1 : a < b
  · rw [if_pos ((iI_lt ha hb).mpr c1), decide_eq_false (by omega)]; rfl
  · rw [if_neg (fun h => c1 ((iI_lt ha hb).mp h))]
    by_cases c2 : c < a
    · rw [if_pos ((iI_lt hc ha).mpr c2), decide_eq_false (by omega)]; rfl
    · rw [if_neg (fun h => c2 ((iI_lt hc ha).mp h)), decide_eq_true (by omega)]; rfl
theorem paid_step {M0 M : Mem} {C B : Nat → Int} {m : Nat} (h : PaidI M0 M C B m) (hm : m < 10080) (hC : ∀ j, -100 ≤ C j ∧ C j ≤ 100) (hB : ∀ j, -100 ≤ B j ∧ B j ≤ 100) (hC0 : M0 20 m = iI (C m - (if m = 0 then 0 else C (m - 1)))) (hB0 : M0 21 m = iI (B m - (if m = 0 then 0 else B (m - 1)))) (fu : Nat) : ∃ M', L_X7_findsPaid_47 (fu + 1) (iI (ln (wk C B) m : Nat)) (iI m) M = L_X7_findsPaid_47 fu (iI (ln (wk C B) (m + 1) : Nat)) (iI ((m + 1 : Nat) : Int)) M' ∧ PaidI M0 M' C B (m + 1) := by
  obtain ⟨h1, h2, h3, h4, h5, h6, h7, h8, h9, h10, h11, h12⟩ := h
  have hln := ln_le (wk C B) m
  have hln1 := ln_le (wk C B) (m + 1)
  have hCm := hC m
  have hBm := hB m
  have dm : iI (m : Int) / 1440 = iI ((m / 1440 : Nat) : Int) := by
    rw [li_1440, iI_div (by omega) (by omega)]
    congr 1
  -- the values, in the order of the steps
  have a1 : mrd 10081 (M 20) (iI m) = some (iI (C m - (if m = 0 then 0 else C (m - 1)))) := by
    rw [mrd_i (by omega) (by omega), Int.toNat_natCast, h2 m (Nat.le_refl _), hC0]
  have a2 : (if iI (m : Int) ≤ 0 then some (0 : Int32) else (mrd 10081 (M 20) (iI (m : Int) - 1)).bind fun v15 => some v15) = some (iI (if m = 0 then 0 else C (m - 1))) := by
    by_cases c : m = 0
    · subst c; rfl
    · rw [if_neg (by rw [li_0, iI_le] <;> omega), if_neg c, li_1, iI_sub, mrd_i (by omega) (by omega), show ((m : Int) - 1).toNat = m - 1 by omega, h1 (m - 1) (by omega)]
      rfl
  obtain ⟨M1, e1⟩ : ∃ M1, M1 = mst M 20 m (iI (C m)) := ⟨_, rfl⟩
  have a3 : mwr 10081 M 20 (iI m) (iI (C m)) = some M1 := by rw [mwr_i (by omega) (by omega), Int.toNat_natCast, e1]
  have a4 : mrd 10081 (M1 21) (iI m) = some (iI (B m - (if m = 0 then 0 else B (m - 1)))) := by
    rw [mrd_i (by omega) (by omega), Int.toNat_natCast, e1, mst_k _ _ _ _ (by omega), h4 m (Nat.le_refl _), hB0]
  have a5 : (if iI (m : Int) ≤ 0 then some (0 : Int32) else (mrd 10081 (M1 21) (iI (m : Int) - 1)).bind fun v20 => some v20) = some (iI (if m = 0 then 0 else B (m - 1))) := by
    by_cases c : m = 0
    · subst c; rfl
    · rw [if_neg (by rw [li_0, iI_le] <;> omega), if_neg c, li_1, iI_sub, mrd_i (by omega) (by omega), show ((m : Int) - 1).toNat = m - 1 by omega, e1, mst_k _ _ _ _ (by omega), h3 (m - 1) (by omega)]
      rfl
  obtain ⟨M2, e2⟩ : ∃ M2, M2 = mst M1 21 m (iI (B m)) := ⟨_, rfl⟩
  have a6 : mwr 10081 M1 21 (iI m) (iI (B m)) = some M2 := by rw [mwr_i (by omega) (by omega), Int.toNat_natCast, e2]
  have b20 : M2 20 m = iI (C m) := by rw [e2, mst_k _ _ _ _ (by omega), e1, mst_a, if_pos rfl, if_pos rfl]
  have b21 : M2 21 m = iI (B m) := by rw [e2, mst_a, if_pos rfl, if_pos rfl]
  have a7 : mrd 10081 (M2 20) (iI m) = some (iI (C m)) := by rw [mrd_i (by omega) (by omega), Int.toNat_natCast, b20]
  have a8 : mrd 10081 (M2 21) (iI m) = some (iI (B m)) := by rw [mrd_i (by omega) (by omega), Int.toNat_natCast, b21]
  have a9 : (if iI (C m) ≤ 0 then some (0 : Int32) else (mrd 10081 (M2 21) (iI m)).bind fun v25 => if v25 = 0 then some 1 else some 0) = some (bI (wk C B m)) := by
    rw [a8]
    unfold wk
    by_cases c : C m ≤ 0
    · rw [if_pos (by rw [li_0, iI_le] <;> omega), decide_eq_false (by omega)]; rfl
    · rw [if_neg (by rw [li_0, iI_le] <;> omega), decide_eq_true (by omega), Option.bind_some]
      by_cases c2 : B m = 0
      · rw [if_pos (by rw [li_0, iI_eq] <;> omega), decide_eq_true c2]; rfl
      · rw [if_neg (by rw [li_0, iI_eq] <;> omega), decide_eq_false c2]; rfl
  have p5 : ∀ x : Bool, (bI x = 0) = (x = false) := fun x => propext (bI_0 x)
  have a10 : (if bI (wk C B m) = 0 then (0 : Int32) else iI (ln (wk C B) m : Nat) + 1) = iI (ln (wk C B) (m + 1) : Nat) := by
    simp only [p5]
    rw [ln]
    cases wk C B m
    · rfl
    · rw [if_neg (by decide), if_pos rfl, li_1, iI_add]; rfl
  have hdb := db_le C m
  have hrl : (rr (wk C B) m).length ≤ m := by
    have : ∀ T, (rr (wk C B) T).length ≤ T := by
      intro T
      induction T with
      | zero => exact Nat.le_refl _
      | succ T iT => rw [rr_length]; split <;> omega
    exact this m
  have hlg := lg_le (wk C B) m
  have hd7 : m / 1440 < 7 := by omega
  have c21 : ∀ k, k ≠ 20 → k ≠ 21 → M2 k = M k := fun k k1 k2 => by rw [e2, mst_k _ _ _ _ k2, e1, mst_k _ _ _ _ k1]
  -- covered twice
  obtain ⟨M3, e3⟩ : ∃ M3, M3 = mst M2 1 31 (iI (db C (m + 1) : Nat)) := ⟨_, rfl⟩
  have a11 : mst M2 1 31 (M2 1 31 + (if iI (C m) ≤ 1 then (0 : Int32) else 1)) = M3 := by
    rw [e3, c21 1 (by omega) (by omega), h5, db]
    by_cases c : 1 < C m
    · rw [if_neg (by rw [li_1, iI_le] <;> omega), if_pos c, li_1, iI_add]; rfl
    · rw [if_pos (by rw [li_1, iI_le] <;> omega), if_neg c, li_0, iI_add]; rfl
  -- how many runs
  obtain ⟨M4, e4⟩ : ∃ M4, M4 = mst M3 1 32 (iI ((rr (wk C B) (m + 1)).length : Nat)) := ⟨_, rfl⟩
  have a12 : mst M3 1 32 (M3 1 32 + (if iI (ln (wk C B) (m + 1) : Nat) = 1 then (1 : Int32) else 0)) = M4 := by
    have g : M3 1 32 = iI ((rr (wk C B) m).length : Nat) := by rw [e3, mst_a, if_pos rfl, if_neg (by omega), c21 1 (by omega) (by omega), h6]
    rw [e4, g, rr_length]
    by_cases c : ln (wk C B) (m + 1) = 1
    · rw [if_pos (by rw [li_1, iI_eq] <;> omega), if_pos c, li_1, iI_add]; rfl
    · rw [if_neg (by rw [li_1, iI_eq] <;> omega), if_neg c, li_0, iI_add]; rfl
  -- the longest
  obtain ⟨M5, e5⟩ : ∃ M5, M5 = mst M4 1 33 (iI (lg (rr (wk C B) (m + 1)) : Nat)) := ⟨_, rfl⟩
  have a13 : mst M4 1 33 (if iI (ln (wk C B) (m + 1) : Nat) ≤ M4 1 33 then M4 1 33 else iI (ln (wk C B) (m + 1) : Nat)) = M5 := by
    have g : M4 1 33 = iI (lg (rr (wk C B) m) : Nat) := by rw [e4, mst_a, if_pos rfl, if_neg (by omega), e3, mst_a, if_pos rfl, if_neg (by omega), c21 1 (by omega) (by omega), h7]
    rw [e5, g, rr_lg]
    by_cases c : ln (wk C B) (m + 1) ≤ lg (rr (wk C B) m)
    · rw [if_pos (by rw [iI_le] <;> omega)]; congr 2; omega
    · rw [if_neg (by rw [iI_le] <;> omega)]; congr 2; omega
  have c5 : ∀ k, k ≠ 1 → M5 k = M2 k := fun k k1 => by rw [e5, mst_k _ _ _ _ k1, e4, mst_k _ _ _ _ k1, e3, mst_k _ _ _ _ k1]
  have hct : ∀ (v : Nat → Bool), ct v (m / 1440 * 1440) ((m / 1440 + 1) * 1440) (m + 1) = ct v (m / 1440 * 1440) ((m / 1440 + 1) * 1440) m + (if v m = true then 1 else 0) := by
    intro v
    rw [ct]
    cases v m
    · rw [if_neg (by simp), if_neg (by decide)]
    · rw [if_pos ⟨rfl, by omega, by omega⟩, if_pos rfl]
  -- worked
  obtain ⟨M6, e6⟩ : ∃ M6, M6 = mst M5 23 (m / 1440) (iI (ct (wk C B) (m / 1440 * 1440) ((m / 1440 + 1) * 1440) (m + 1) : Nat)) := ⟨_, rfl⟩
  have a14 : mrd 7 (M5 23) (iI ((m / 1440 : Nat) : Int)) = some (iI (ct (wk C B) (m / 1440 * 1440) ((m / 1440 + 1) * 1440) m : Nat)) := by
    rw [mrd_i (by omega) (by omega), Int.toNat_natCast, c5 23 (by omega), c21 23 (by omega) (by omega), h8 _ hd7]
  have a15 : mwr 7 M5 23 (iI ((m / 1440 : Nat) : Int)) (iI (ct (wk C B) (m / 1440 * 1440) ((m / 1440 + 1) * 1440) m : Nat) + (if bI (wk C B m) = 0 then (0 : Int32) else 1)) = some M6 := by
    rw [mwr_i (by omega) (by omega), Int.toNat_natCast, e6, hct]
    simp only [p5]
    cases wk C B m
    · rw [if_pos rfl, if_neg (by decide), li_0, iI_add]; rfl
    · rw [if_neg (by decide), if_pos rfl, li_1, iI_add]; rfl
  have a16 : (if bI (wk C B m) = 0 then some (0 : Int32) else (s_X7_in (iI (ln (wk C B) (m + 1) : Nat)) 361 390).bind fun r44 => if r44 = 0 then some 1 else some 0) = some (bI (pd (wk C B) m)) := by
    rw [li_361, li_390, X7_in (by omega) (by omega) (by omega), Option.bind_some]
    simp only [p5]
    unfold pd
    cases wk C B m
    · rfl
    · rw [if_neg (by decide), Bool.true_and]
      by_cases c : 361 ≤ ln (wk C B) (m + 1) ∧ ln (wk C B) (m + 1) ≤ 390
      · rw [decide_eq_true (by omega), if_neg (by decide), decide_eq_true c.1, decide_eq_true c.2]; rfl
      · rw [decide_eq_false (by omega), if_pos rfl]
        have : (decide (361 ≤ ln (wk C B) (m + 1)) && decide (ln (wk C B) (m + 1) ≤ 390)) = false := by
          simp only [Bool.and_eq_false_iff, decide_eq_false_iff_not]
          omega
        rw [this]; rfl
  -- kind
  obtain ⟨M7, e7⟩ : ∃ M7, M7 = mst M6 22 m (if pd (wk C B) m = true then iI 0 else iI (-1)) := ⟨_, rfl⟩
  have a17 : mwr 10080 M6 22 (iI m) (if bI (pd (wk C B) m) = 0 then (-1 : Int32) else 0) = some M7 := by
    rw [mwr_i (by omega) (by omega), Int.toNat_natCast, e7]
    simp only [p5]
    cases pd (wk C B) m <;> rfl
  obtain ⟨M8, e8⟩ : ∃ M8, M8 = mst M7 24 (m / 1440) (iI (ct (pd (wk C B)) (m / 1440 * 1440) ((m / 1440 + 1) * 1440) (m + 1) : Nat)) := ⟨_, rfl⟩
  have a18 : mrd 7 (M7 24) (iI ((m / 1440 : Nat) : Int)) = some (iI (ct (pd (wk C B)) (m / 1440 * 1440) ((m / 1440 + 1) * 1440) m : Nat)) := by
    rw [mrd_i (by omega) (by omega), Int.toNat_natCast, e7, mst_k _ _ _ _ (by omega), e6, mst_k _ _ _ _ (by omega), c5 24 (by omega), c21 24 (by omega) (by omega), h9 _ hd7]
  have a19 : mwr 7 M7 24 (iI ((m / 1440 : Nat) : Int)) (iI (ct (pd (wk C B)) (m / 1440 * 1440) ((m / 1440 + 1) * 1440) m : Nat) + (if bI (pd (wk C B) m) = 0 then (0 : Int32) else 1)) = some M8 := by
    rw [mwr_i (by omega) (by omega), Int.toNat_natCast, e8, hct]
    simp only [p5]
    cases pd (wk C B) m
    · rw [if_pos rfl, if_neg (by decide), li_0, iI_add]; rfl
    · rw [if_neg (by decide), if_pos rfl, li_1, iI_add]; rfl
  have ob : ∀ {β : Type} {x : Option Int32} {v : Int32} {f : Int32 → Option β}, x = some v → x.bind f = f v := fun h => by rw [h]; rfl
  refine ⟨M8, ?_, ?_⟩
  · rw [L_X7_findsPaid_47, if_neg (by rw [li_10080, iI_le] <;> omega), a1, Option.bind_some, ob a2, iI_add, show C m - (if m = 0 then 0 else C (m - 1)) + (if m = 0 then 0 else C (m - 1)) = C m by omega, a3, Option.bind_some, a4, Option.bind_some, ob a5, iI_add, show B m - (if m = 0 then 0 else B (m - 1)) + (if m = 0 then 0 else B (m - 1)) = B m by omega, a6, Option.bind_some, a7, Option.bind_some, ob a9]
    unfold bnd
    dsimp only
    rw [a10, Option.bind_some, a11, a12, a13, dm, a14, Option.bind_some, a15, Option.bind_some, ob a16, a17, Option.bind_some, a18, Option.bind_some, a19, Option.bind_some, li_1, iI_add]
    rfl
  · have f20 : ∀ j, M8 20 j = if j = m then iI (C m) else M 20 j := fun j => by rw [e8, mst_k _ _ _ _ (by omega), e7, mst_k _ _ _ _ (by omega), e6, mst_k _ _ _ _ (by omega), c5 20 (by omega), e2, mst_k _ _ _ _ (by omega), e1, mst_a, if_pos rfl]
    have f21 : ∀ j, M8 21 j = if j = m then iI (B m) else M 21 j := fun j => by rw [e8, mst_k _ _ _ _ (by omega), e7, mst_k _ _ _ _ (by omega), e6, mst_k _ _ _ _ (by omega), c5 21 (by omega), e2, mst_a, if_pos rfl, e1, mst_k _ _ _ _ (by omega)]
    have f22 : ∀ j, M8 22 j = if j = m then (if pd (wk C B) m = true then iI 0 else iI (-1)) else M 22 j := fun j => by rw [e8, mst_k _ _ _ _ (by omega), e7, mst_a, if_pos rfl, e6, mst_k _ _ _ _ (by omega), c5 22 (by omega), c21 22 (by omega) (by omega)]
    have f23 : ∀ j, M8 23 j = if j = m / 1440 then iI (ct (wk C B) (m / 1440 * 1440) ((m / 1440 + 1) * 1440) (m + 1) : Nat) else M 23 j := fun j => by rw [e8, mst_k _ _ _ _ (by omega), e7, mst_k _ _ _ _ (by omega), e6, mst_a, if_pos rfl, c5 23 (by omega), c21 23 (by omega) (by omega)]
    have f24 : ∀ j, M8 24 j = if j = m / 1440 then iI (ct (pd (wk C B)) (m / 1440 * 1440) ((m / 1440 + 1) * 1440) (m + 1) : Nat) else M 24 j := fun j => by rw [e8, mst_a, if_pos rfl, e7, mst_k _ _ _ _ (by omega), e6, mst_k _ _ _ _ (by omega), c5 24 (by omega), c21 24 (by omega) (by omega)]
    have f1 : ∀ j, M8 1 j = if j = 33 then iI (lg (rr (wk C B) (m + 1)) : Nat) else if j = 32 then iI ((rr (wk C B) (m + 1)).length : Nat) else if j = 31 then iI (db C (m + 1) : Nat) else M 1 j := fun j => by rw [e8, mst_k _ _ _ _ (by omega), e7, mst_k _ _ _ _ (by omega), e6, mst_k _ _ _ _ (by omega), e5, mst_a, if_pos rfl, e4, mst_a, if_pos rfl, e3, mst_a, if_pos rfl, c21 1 (by omega) (by omega)]
    have hoth : ∀ (v : Nat → Bool) (d : Nat), d ≠ m / 1440 → ct v (d * 1440) ((d + 1) * 1440) (m + 1) = ct v (d * 1440) ((d + 1) * 1440) m := by
      intro v d hd
      rw [ct, if_neg (fun g => hd (by omega))]
      rfl
    refine ⟨fun j hj => ?_, fun j hj => ?_, fun j hj => ?_, fun j hj => ?_, ?_, ?_, ?_, fun d hd => ?_, fun d hd => ?_, fun j hj => ?_, fun k k1 k2 k3 k4 k5 k6 => ?_, fun j j1 j2 j3 => ?_⟩
    · rw [f20]
      by_cases c : j = m
      · rw [if_pos c, c]
      · rw [if_neg c]; exact h1 j (by omega)
    · rw [f20, if_neg (by omega)]; exact h2 j (by omega)
    · rw [f21]
      by_cases c : j = m
      · rw [if_pos c, c]
      · rw [if_neg c]; exact h3 j (by omega)
    · rw [f21, if_neg (by omega)]; exact h4 j (by omega)
    · rw [f1, if_neg (by omega), if_neg (by omega), if_pos rfl]
    · rw [f1, if_neg (by omega), if_pos rfl]
    · rw [f1, if_pos rfl]
    · rw [f23]
      by_cases c : d = m / 1440
      · rw [if_pos c, c]
      · rw [if_neg c, hoth _ d c]; exact h8 d hd
    · rw [f24]
      by_cases c : d = m / 1440
      · rw [if_pos c, c]
      · rw [if_neg c, hoth _ d c]; exact h9 d hd
    · rw [f22]
      by_cases c : j = m
      · rw [if_pos c, c]
      · rw [if_neg c]; exact h10 j (by omega)
    · rw [e8, mst_k _ _ _ _ k6, e7, mst_k _ _ _ _ k4, e6, mst_k _ _ _ _ k5, c5 k k1, c21 k k2 k3]; exact h11 k k1 k2 k3 k4 k5 k6
    · rw [f1, if_neg j3, if_neg j2, if_neg j1]; exact h12 j j1 j2 j3
theorem L_paid {M0 : Mem} {C B : Nat → Int} (hC : ∀ j, -100 ≤ C j ∧ C j ≤ 100) (hB : ∀ j, -100 ≤ B j ∧ B j ≤ 100) (hC0 : ∀ m, m < 10080 → M0 20 m = iI (C m - (if m = 0 then 0 else C (m - 1)))) (hB0 : ∀ m, m < 10080 → M0 21 m = iI (B m - (if m = 0 then 0 else B (m - 1)))) : ∀ (r fu m : Nat) (M : Mem), m + r = 10080 → r < fu → PaidI M0 M C B m → ∃ y1 y2 M', L_X7_findsPaid_47 fu (iI (ln (wk C B) m : Nat)) (iI m) M = some (y1, y2, M') ∧ PaidI M0 M' C B 10080 := by
  intro r
  induction r with
  | zero =>
    intro fu m M hm hf h
    cases fu with
    | zero => omega
    | succ fu =>
      have hm' : m = 10080 := by omega
      have hle : 10080 ≤ m := by omega
      rw [hm'] at h
      refine ⟨iI (ln (wk C B) m : Nat), iI m, M, ?_, h⟩
      rw [L_X7_findsPaid_47, if_pos (by rw [li_10080, iI_le] <;> omega)]
  | succ r ih =>
    intro fu m M hm hf h
    cases fu with
    | zero => omega
    | succ fu =>
      obtain ⟨M1, a1, a2⟩ := paid_step h (by omega) hC hB (hC0 m (by omega)) (hB0 m (by omega)) fu
      obtain ⟨y1, y2, M', b1, b2⟩ := ih fu (m + 1) M1 (by omega) (by omega) a2
      exact ⟨y1, y2, M', by rw [a1, b1], b2⟩

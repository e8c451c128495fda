/-- what findsKinds keeps -/
def KindI (M0 M : Mem) (p : Nat → Bool) (full : Bool) (m : Nat) : Prop :=
  (∀ j, j < m → M 22 j = if p j = true then iI (cm p full j : Nat) else iI (-1)) ∧ (∀ j, m ≤ j → M 22 j = M0 22 j) ∧
  (∀ d c, d < 7 → c < 3 → M 25 (3 * d + c) = iI (kc p full d c m : Nat)) ∧ ∀ k, k ≠ 22 → k ≠ 25 → M k = M0 k
theorem kind_step {M0 M : Mem} {p : Nat → Bool} {full : Bool} {m : Nat} (h : KindI M0 M p full m) (hm : m < 10080) (hK : M0 22 m = if p m = true then iI 0 else iI (-1)) {z : Nat} (hz : m % 1440 ≠ 0 → z = od p m) (hzb : z ≤ 10080) (q7 : Int32 × Int32) (hq : q7.1 = bI full) (fu : Nat) : ∃ M' z', L_X7_findsKinds_63 q7 (fu + 1) (iI (ow p m : Nat)) (iI (z : Nat)) (iI m) M = L_X7_findsKinds_63 q7 fu (iI (ow p (m + 1) : Nat)) (iI (z' : Nat)) (iI ((m + 1 : Nat) : Int)) M' ∧ KindI M0 M' p full (m + 1) ∧ ((m + 1) % 1440 ≠ 0 → z' = od p (m + 1)) ∧ z' ≤ 10080 := by
  obtain ⟨h1, h2, h3, h4⟩ := h
  have how := ow_le p m
  have hod : od p m ≤ m := by
    have : ∀ T, od p T ≤ T := by
      intro T
      induction T with
      | zero => exact Nat.le_refl _
      | succ T iT => rw [od]; (repeat' split) <;> omega
    exact this m
  have hod0 : m % 1440 = 0 → od p m = 0 := by
    intro g
    cases m with
    | zero => rfl
    | succ m => rw [od, if_pos g]
  have dm : iI (m : Int) / 1440 = iI ((m / 1440 : Nat) : Int) := by
    rw [li_1440, iI_div (by omega) (by omega)]
    congr 1
  have e1 : (if iI (m : Int) - iI (m : Int) / 1440 * 1440 = 0 then (0 : Int32) else iI (z : Nat)) = iI (od p m : Nat) := by
    rw [dm, li_1440, iI_mul, iI_sub]
    by_cases c : m % 1440 = 0
    · rw [if_pos (by rw [li_0, iI_eq] <;> omega), hod0 c]; rfl
    · rw [if_neg (by rw [li_0, iI_eq] <;> omega), hz c]
  have e2 : (if iI (m : Int) / 1440 = 6 then if q7.1 = 0 then (0 : Int32) else 1 else 0) = bI (xd full m) := by
    rw [dm, hq]
    have p5 : ∀ x : Bool, (bI x = 0) = (x = false) := fun x => propext (bI_0 x)
    have p6 : (iI ((m / 1440 : Nat) : Int) = 6) = (m / 1440 = 6) := propext (by rw [li_6, iI_eq] <;> omega)
    simp only [p5, p6]
    unfold xd
    by_cases c : m / 1440 = 6
    · cases full <;> simp [c, bI]
    · cases full <;> simp [c, bI]
  have a1 : mrd 10080 (M 22) (iI m) = some (if p m = true then iI 0 else iI (-1)) := by
    rw [mrd_i (by omega) (by omega), Int.toNat_natCast, h2 m (Nat.le_refl _), hK]
  by_cases c : p m = true
  · rw [if_pos c] at a1
    obtain ⟨cv, hcv⟩ : ∃ cv, cv = cm p full m := ⟨_, rfl⟩
    have hc2 : cv ≤ 2 := by rw [hcv]; exact cat_le _ _ _
    have hkc := kc_le p full (m / 1440) cv m
    have e3 : (if (if 720 ≤ iI (od p m : Nat) then (1 : Int32) else if bI (xd full m) = 0 then 0 else if iI (od p m : Nat) < 480 then 0 else 1) = 0 then (if 480 ≤ iI (od p m : Nat) then (1 : Int32) else if 2400 ≤ iI (ow p m : Nat) then 1 else if bI (xd full m) = 0 then 0 else 1) else 2) = iI (cv : Nat) := by
      rw [hcv]
      unfold cm cat
      have p1 : ((720 : Int32) ≤ iI (od p m : Nat)) = (720 ≤ od p m) := propext (by rw [li_720, iI_le] <;> omega)
      have p2 : ((480 : Int32) ≤ iI (od p m : Nat)) = (480 ≤ od p m) := propext (by rw [li_480, iI_le] <;> omega)
      have p3 : (iI (od p m : Nat) < (480 : Int32)) = (od p m < 480) := propext (by rw [li_480, iI_lt] <;> omega)
      have p4 : ((2400 : Int32) ≤ iI (ow p m : Nat)) = (2400 ≤ ow p m) := propext (by rw [li_2400, iI_le] <;> omega)
      have p5 : ∀ x : Bool, (bI x = 0) = (x = false) := fun x => propext (bI_0 x)
      simp only [p1, p2, p3, p4, p5]
      generalize od p m = d
      generalize ow p m = w
      generalize xd full m = x
      by_cases c1 : 720 ≤ d
      · have c2 : 480 ≤ d := by omega
        simp [c1]; rfl
      · by_cases c2 : 480 ≤ d
        · have c3 : ¬ d < 480 := by omega
          cases x <;> simp [c1, c2, c3] <;> rfl
        · have c3 : d < 480 := by omega
          by_cases c4 : 2400 ≤ w
          · cases x <;> simp [c1, c2, c3, c4] <;> rfl
          · cases x <;> simp [c1, c2, c3, c4] <;> rfl
    have eow : ow p (m + 1) = ow p m + 1 := by rw [ow, if_pos c]
    have eix : 3 * iI ((m / 1440 : Nat) : Int) + iI (cv : Nat) = iI ((3 * (m / 1440) + cv : Nat) : Int) := by
      rw [li_3, iI_mul, iI_add]
      congr 1
    obtain ⟨M1, g1⟩ : ∃ M1, M1 = mst M 22 m (iI (cv : Nat)) := ⟨_, rfl⟩
    obtain ⟨M2, g2⟩ : ∃ M2, M2 = mst M1 25 (3 * (m / 1440) + cv) (iI ((kc p full (m / 1440) cv m + 1 : Nat) : Int)) := ⟨_, rfl⟩
    have b1 : mwr 10080 M 22 (iI m) (iI (cv : Nat)) = some M1 := by rw [mwr_i (by omega) (by omega), Int.toNat_natCast, g1]
    have b2 : mrd 10080 (M1 22) (iI m) = some (iI (cv : Nat)) := by rw [mrd_i (by omega) (by omega), Int.toNat_natCast, g1, mst_a, if_pos rfl, if_pos rfl]
    have b3 : mrd 21 (M1 25) (iI ((3 * (m / 1440) + cv : Nat) : Int)) = some (iI (kc p full (m / 1440) cv m : Nat)) := by
      rw [mrd_i (by omega) (by omega), Int.toNat_natCast, g1, mst_k _ _ _ _ (by omega), h3 _ _ (by omega) (by omega)]
    have b4 : mwr 21 M1 25 (iI ((3 * (m / 1440) + cv : Nat) : Int)) (iI (kc p full (m / 1440) cv m : Nat) + 1) = some M2 := by
      rw [li_1, iI_add, mwr_i (by omega) (by omega), Int.toNat_natCast, g2]; rfl
    refine ⟨M2, od p m + 1, ?_, ⟨fun j hj => ?_, fun j hj => ?_, fun d k hd hk => ?_, fun k k1 k2 => ?_⟩, fun g => ?_, by omega⟩
    · rw [L_X7_findsKinds_63, if_neg (by rw [li_10080, iI_le] <;> omega)]
      unfold bnd
      dsimp only
      rw [e1, e2, a1, Option.bind_some, if_neg (show ¬ iI 0 = -1 by decide), e3, b1, Option.bind_some, b2, Option.bind_some, dm, eix, b3, Option.bind_some, b4, Option.bind_some, Option.bind_some, li_1, iI_add, iI_add, iI_add, eow]
      rfl
    · rw [g2, mst_k _ _ _ _ (by omega), g1, mst_a, if_pos rfl]
      by_cases c2 : j = m
      · rw [if_pos c2, c2, if_pos c, hcv]
      · rw [if_neg c2]; exact h1 j (by omega)
    · rw [g2, mst_k _ _ _ _ (by omega), g1, mst_a, if_pos rfl, if_neg (by omega)]
      exact h2 j (by omega)
    · rw [g2, mst_a, if_pos rfl, g1, mst_k _ _ _ _ (by omega), kc]
      by_cases c2 : 3 * d + k = 3 * (m / 1440) + cv
      · have k1 : d = m / 1440 := by omega
        have k2 : k = cv := by omega
        rw [if_pos c2, k1, k2, if_pos ⟨c, hcv.symm, rfl⟩]
      · rw [if_neg c2, if_neg (fun g => c2 (by rw [hcv, g.2.1, g.2.2]))]
        exact h3 d k hd hk
    · rw [g2, mst_k _ _ _ _ k2, g1, mst_k _ _ _ _ k1]; exact h4 k k1 k2
    · rw [od, if_neg g, if_pos c]
  · rw [if_neg c] at a1
    have cf : p m = false := by simpa using c
    refine ⟨M, od p m, ?_, ⟨fun j hj => ?_, fun j hj => h2 j (by omega), fun d k hd hk => ?_, h4⟩, fun g => ?_, by omega⟩
    · rw [L_X7_findsKinds_63, if_neg (by rw [li_10080, iI_le] <;> omega)]
      unfold bnd
      dsimp only
      rw [e1, e2, a1, Option.bind_some, if_pos (show iI (-1) = -1 by rfl), Option.bind_some, li_1, iI_add, ow, if_neg c]
      rfl
    · by_cases c2 : j = m
      · rw [c2, h2 m (Nat.le_refl _), hK, if_neg c, if_neg c]
      · exact h1 j (by omega)
    · rw [kc, if_neg (fun g => c g.1)]; exact h3 d k hd hk
    · rw [od, if_neg g, if_neg c]; rfl

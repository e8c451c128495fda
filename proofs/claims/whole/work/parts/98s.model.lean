def PnM (M : Mem) (e n : Nat) (tm : Nat → Nat) (inn : Nat → Bool) : Prop := M 5 e = iI (n : Int) ∧ ∀ k, k < n → M 6 (41 * e + k) = iI (tm k : Nat) ∧ M 7 (41 * e + k) = bI (inn k)
theorem L_fs {e n : Nat} {tm : Nat → Nat} {inn : Nat → Bool} (he : e < 6) (hp : PnOK n tm) : ∀ (r fu k : Nat) (M : Mem), PnM M e n tm inn → ShA M (shL n tm inn k) (shR n inn k) → k + r = n → r < fu → ∃ y M', L_X7_findsShifts_12 (iI e) fu (iI k) M = some (y, M') ∧ ShA M' (shL n tm inn n) (shR n inn n) ∧ (∀ k, k ≠ 1 → k ≠ 18 → k ≠ 19 → M' k = M k) ∧ ∀ j, j ≠ 19 → j ≠ 20 → M' 1 j = M 1 j := by
  obtain ⟨hp1, hp2, hp3⟩ := id hp
  intro r
  induction r with
  | zero =>
    intro fu k M h hS hk hf
    cases fu with
    | zero => omega
    | succ fu =>
      have hk' : k = n := by omega
      subst hk'
      refine ⟨iI (k : Int), M, ?_, hS, fun _ _ _ _ => rfl, fun _ _ _ => rfl⟩
      rw [L_X7_findsShifts_12, mrd_i (by omega) (by omega), Int.toNat_natCast, h.1, Option.bind_some, if_pos (by rw [iI_le] <;> omega)]
  | succ r ih =>
    intro fu k M h hS hk hf
    cases fu with
    | zero => omega
    | succ fu =>
      have hb := hp3 k (by omega)
      have hlen := shL_len n tm inn k
      have eix : 41 * iI (e : Int) + iI (k : Int) = iI ((41 * e + k : Nat) : Int) := by
        rw [li_41, iI_mul, iI_add]; congr 1
      have r5 : mrd 6 (M 5) (iI (e : Int)) = some (iI (n : Int)) := by rw [mrd_i (by omega) (by omega), Int.toNat_natCast, h.1]
      have r6 : mrd 246 (M 6) (iI ((41 * e + k : Nat) : Int)) = some (iI (tm k : Nat)) := by rw [mrd_i (by omega) (by omega), Int.toNat_natCast, (h.2 k (by omega)).1]
      have r7 : mrd 246 (M 7) (iI ((41 * e + k : Nat) : Int)) = some (bI (inn k)) := by rw [mrd_i (by omega) (by omega), Int.toNat_natCast, (h.2 k (by omega)).2]
      have e9 : (if iI (k : Int) + 1 = iI (n : Int) then (1 : Int32) else 0) = bI (decide (k + 1 = n)) := by
        rw [li_1, iI_add]
        by_cases c : k + 1 = n
        · rw [if_pos (by rw [iI_eq] <;> omega), decide_eq_true c]; rfl
        · rw [if_neg (by rw [iI_eq] <;> omega), decide_eq_false c]; rfl
      have e14 : (if iI (k : Int) = 0 then (1 : Int32) else 0) = bI (decide (k = 0)) := by
        by_cases c : k = 0
        · rw [if_pos (by rw [li_0, iI_eq] <;> omega), decide_eq_true c]; rfl
        · rw [if_neg (by rw [li_0, iI_eq] <;> omega), decide_eq_false c]; rfl
      have p5 : ∀ x : Bool, (bI x = 0) = (x = false) := fun x => propext (bI_0 x)
      have hlim : lim n tm k ≤ 10080 ∧ (k + 1 < n → tm k < lim n tm k) := by
        unfold lim
        by_cases c : k + 1 < n
        · rw [if_pos c]; exact ⟨hp3 _ c, fun _ => hp2 k c⟩
        · rw [if_neg c]; exact ⟨by omega, fun g => absurd g c⟩
      have e12 : (if bI (decide (k + 1 = n)) = 0 then (mrd 246 (M 6) (iI ((41 * e + k : Nat) : Int) + 1)).bind fun v11 => some v11 else some (10080 : Int32)) = some (iI (lim n tm k : Nat)) := by
        simp only [p5]
        unfold lim
        by_cases c : k + 1 = n
        · rw [if_neg (by rw [decide_eq_true c]; decide), if_neg (by omega)]; rfl
        · rw [if_pos (by rw [decide_eq_false c]), if_pos (by omega), li_1, iI_add, mrd_i (by omega) (by omega), show (((41 * e + k : Nat) : Int) + 1).toNat = 41 * e + (k + 1) by omega, (h.2 (k + 1) (by omega)).1]; rfl
      have hv17 : (if k = 0 then 0 else tm (k - 1)) ≤ tm k := by
        by_cases c : k = 0
        · rw [if_pos c]; omega
        · rw [if_neg c]
          have := hp2 (k - 1) (by omega)
          rw [show k - 1 + 1 = k by omega] at this
          omega
      have e17 : (if bI (decide (k = 0)) = 0 then (mrd 246 (M 6) (iI ((41 * e + k : Nat) : Int) - 1)).bind fun v16 => some v16 else some (0 : Int32)) = some (iI ((if k = 0 then 0 else tm (k - 1) : Nat) : Int)) := by
        simp only [p5]
        by_cases c : k = 0
        · rw [if_neg (by rw [decide_eq_true c]; decide), if_pos c]; rfl
        · rw [if_pos (by rw [decide_eq_false c]), if_neg c, li_1, iI_sub, mrd_i (by omega) (by omega), show (((41 * e + k : Nat) : Int) - 1).toNat = 41 * e + (k - 1) by omega, (h.2 (k - 1) (by omega)).1]; rfl
      have ob : ∀ {β : Type} {x : Option Int32} {v : Int32} {f : Int32 → Option β}, x = some v → x.bind f = f v := fun h => by rw [h]; rfl
      have fin : ∀ M1 : Mem, ShA M1 (shL n tm inn (k + 1)) (shR n inn (k + 1)) → (∀ j, j ≠ 1 → j ≠ 18 → j ≠ 19 → M1 j = M j) → (∀ j, j ≠ 19 → j ≠ 20 → M1 1 j = M 1 j) → L_X7_findsShifts_12 (iI e) (fu + 1) (iI k) M = L_X7_findsShifts_12 (iI e) fu (iI ((k + 1 : Nat) : Int)) M1 → ∃ y M', L_X7_findsShifts_12 (iI e) (fu + 1) (iI k) M = some (y, M') ∧ ShA M' (shL n tm inn n) (shR n inn n) ∧ (∀ k, k ≠ 1 → k ≠ 18 → k ≠ 19 → M' k = M k) ∧ ∀ j, j ≠ 19 → j ≠ 20 → M' 1 j = M 1 j := by
        intro M1 s1 s2 s3 s4
        obtain ⟨y, M', a1, a2, a3, a4⟩ := ih fu (k + 1) M1 ⟨by rw [s2 5 (by omega) (by omega) (by omega)]; exact h.1, fun j hj => by rw [s2 6 (by omega) (by omega) (by omega), s2 7 (by omega) (by omega) (by omega)]; exact h.2 j hj⟩ s1 (by omega) (by omega)
        exact ⟨y, M', by rw [s4, a1], a2, fun j j1 j2 j3 => by rw [a3 j j1 j2 j3, s2 j j1 j2 j3], fun j j1 j2 => by rw [a4 j j1 j2, s3 j j1 j2]⟩
      have hstart : ∀ R : Option (Int32 × Mem), (L_X7_findsShifts_12 (iI e) (fu + 1) (iI k) M = R) = (L_X7_findsShifts_12 (iI e) (fu + 1) (iI k) M = R) := fun _ => rfl
      have elone : (if (480 : Int32) ≤ iI (tm k : Nat) - iI ((if k = 0 then 0 else tm (k - 1) : Nat) : Int) then iI (tm k : Nat) - 480 else iI ((if k = 0 then 0 else tm (k - 1) : Nat) : Int)) = iI ((max (tm k - 480) (if k = 0 then 0 else tm (k - 1)) : Nat) : Int) := by
        generalize (if k = 0 then 0 else tm (k - 1)) = v at hv17 ⊢
        rw [iI_sub]
        by_cases c : 480 ≤ tm k - v
        · rw [if_pos (by rw [li_480, iI_le] <;> omega), li_480, iI_sub]; exact congrArg iI (by omega)
        · rw [if_neg (by rw [li_480, iI_le] <;> omega)]; exact congrArg iI (by omega)
      cases hx : inn k with
      | false =>
        by_cases c : k = 0 ∨ inn (k - 1) = false
        · have eL : shL n tm inn (k + 1) = (max (tm k - 480) (if k = 0 then 0 else tm (k - 1)), tm k) :: shL n tm inn k := by
            rw [shL, hx]; exact if_pos c
          have eR : shR n inn (k + 1) = shR n inn k + 1 := by
            rw [shR, hx]; exact if_pos c
          obtain ⟨M1, m1, m2, m3, m4⟩ := X7_makes hS (by omega) (max (tm k - 480) (if k = 0 then 0 else tm (k - 1))) (tm k) true
          refine fin M1 (by rw [eL, eR]; exact m2) m3 m4 ?_
          have m1' : s_X7_makes M (iI ((max (tm k - 480) (if k = 0 then 0 else tm (k - 1)) : Nat) : Int)) (iI (tm k : Nat)) 1 = some M1 := m1
          rw [L_X7_findsShifts_12, r5, Option.bind_some, if_neg (by rw [iI_le] <;> omega), eix, r6, Option.bind_some, Option.bind_some]
          unfold bnd
          dsimp only
          rw [e9, ob e12, e14, ob e17, r7, Option.bind_some, hx, if_pos (show bI false = 0 from rfl), elone, m1', Option.bind_some]
          by_cases c0 : k = 0
          · rw [if_neg (by rw [decide_eq_true c0]; decide), Option.bind_some, li_1, iI_add]; rfl
          · have c1 : inn (k - 1) = false := c.resolve_left c0
            rw [if_pos (by rw [decide_eq_false c0]; rfl), li_1, iI_sub, mrd_i (by omega) (by omega), show (((41 * e + k : Nat) : Int) - 1).toNat = 41 * e + (k - 1) by omega, (h.2 (k - 1) (by omega)).2, Option.bind_some, c1, if_pos (by rfl), Option.bind_some, iI_add]
            rfl
        · have c0 : k ≠ 0 := fun g => c (Or.inl g)
          have c1 : inn (k - 1) = true := by
            cases hy : inn (k - 1) with
            | true => rfl
            | false => exact absurd (Or.inr hy) c
          have eL : shL n tm inn (k + 1) = shL n tm inn k := by
            rw [shL, hx]; exact if_neg c
          have eR : shR n inn (k + 1) = shR n inn k := by
            rw [shR, hx]; exact if_neg c
          refine fin M (by rw [eL, eR]; exact hS) (fun _ _ _ _ => rfl) (fun _ _ _ => rfl) ?_
          rw [L_X7_findsShifts_12, r5, Option.bind_some, if_neg (by rw [iI_le] <;> omega), eix, r6, Option.bind_some, Option.bind_some]
          unfold bnd
          dsimp only
          rw [e9, ob e12, e14, ob e17, r7, Option.bind_some, hx, if_pos (show bI false = 0 from rfl)]
          rw [if_pos (by rw [decide_eq_false c0]; rfl), li_1, iI_sub, mrd_i (by omega) (by omega), show (((41 * e + k : Nat) : Int) - 1).toNat = 41 * e + (k - 1) by omega, (h.2 (k - 1) (by omega)).2, Option.bind_some, c1, if_neg (by decide), Option.bind_some, iI_add]
          rfl
      | true =>
        have eL : shL n tm inn (k + 1) = (tm k, if endd n inn k then tm (k + 1) else min (tm k + 480) (lim n tm k)) :: shL n tm inn k := by
          rw [shL, hx]; exact if_pos rfl
        have eR : shR n inn (k + 1) = if (!endd n inn k) = true then shR n inn k + 1 else shR n inn k := by
          rw [shR, hx, if_pos rfl]
          cases endd n inn k <;> rfl
        obtain ⟨M1, m1, m2, m3, m4⟩ := X7_makes hS (by omega) (tm k) (if endd n inn k then tm (k + 1) else min (tm k + 480) (lim n tm k)) (!endd n inn k)
        refine fin M1 (by rw [eL, eR]; exact m2) m3 m4 ?_
        have e29 : (if bI (decide (k + 1 = n)) = 0 then (mrd 246 (M 7) (iI ((41 * e + k : Nat) : Int) + 1)).bind fun v28 => if v28 = 0 then some 1 else some 0 else some (0 : Int32)) = some (bI (endd n inn k)) := by
          simp only [p5]
          unfold endd
          by_cases c : k + 1 = n
          · rw [if_neg (by rw [decide_eq_true c]; decide), decide_eq_false (by omega)]; rfl
          · rw [if_pos (by rw [decide_eq_false c]), li_1, iI_add, mrd_i (by omega) (by omega), show (((41 * e + k : Nat) : Int) + 1).toNat = 41 * e + (k + 1) by omega, (h.2 (k + 1) (by omega)).2, Option.bind_some, decide_eq_true (by omega)]
            cases inn (k + 1) <;> rfl
        have e31 : (if bI (endd n inn k) = 0 then if (480 : Int32) ≤ iI (lim n tm k : Nat) - iI (tm k : Nat) then iI (tm k : Nat) + 480 else iI (lim n tm k : Nat) else iI (lim n tm k : Nat)) = iI ((if endd n inn k then tm (k + 1) else min (tm k + 480) (lim n tm k) : Nat) : Int) := by
          simp only [p5]
          cases hy : endd n inn k with
          | true =>
            have : lim n tm k = tm (k + 1) := by
              unfold endd at hy
              simp only [Bool.and_eq_true, decide_eq_true_eq] at hy
              unfold lim
              rw [if_pos hy.1]
            rw [if_neg (by decide), if_pos rfl, this]
          | false =>
            rw [if_pos rfl, if_neg (c := false = true) (by decide), iI_sub]
            by_cases c : tm k + 480 ≤ lim n tm k
            · rw [if_pos (by rw [li_480, iI_le] <;> omega), li_480, iI_add]; exact congrArg iI (by omega)
            · rw [if_neg (by rw [li_480, iI_le] <;> omega)]; exact congrArg iI (by omega)
        have e33 : (if bI (endd n inn k) = 0 then (1 : Int32) else 0) = bI (!endd n inn k) := by
          cases endd n inn k <;> rfl
        rw [L_X7_findsShifts_12, r5, Option.bind_some, if_neg (by rw [iI_le] <;> omega), eix, r6, Option.bind_some, Option.bind_some]
        unfold bnd
        dsimp only
        rw [e9, ob e12, e14, ob e17, r7, Option.bind_some, hx, if_neg (show ¬ bI true = 0 by decide), ob e29, e31, e33, m1, Option.bind_some, Option.bind_some, li_1, iI_add]
        rfl

theorem L_paid0 : ∀ (r fu d : Nat) (M : Mem), d + r = 7 → r < fu → (∀ j, j < d → M 23 j = 0 ∧ M 24 j = 0) → ∃ y M', L_X7_findsPaid_17 fu (iI d) M = some (y, M') ∧ (∀ j, j < 7 → M' 23 j = 0 ∧ M' 24 j = 0) ∧ ∀ k, k ≠ 23 → k ≠ 24 → M' k = M k := by
  intro r
  induction r with
  | zero =>
    intro fu d M hd hf h
    cases fu with
    | zero => omega
    | succ fu =>
      have hd' : d = 7 := by omega
      subst hd'
      refine ⟨iI ((7 : Nat) : Int), M, ?_, h, fun _ _ _ => rfl⟩
      rw [L_X7_findsPaid_17, if_pos (by rw [li_7, iI_le] <;> omega)]
  | succ r ih =>
    intro fu d M hd hf h
    cases fu with
    | zero => omega
    | succ fu =>
      obtain ⟨y, M', a1, a2, a3⟩ := ih fu (d + 1) (mst (mst M 23 d 0) 24 d 0) (by omega) (by omega) (fun j hj => by
        rw [mst_k _ _ _ _ (show (23 : Nat) ≠ 24 by omega), mst_a, if_pos rfl, mst_a, if_pos rfl, mst_k _ _ _ _ (show (24 : Nat) ≠ 23 by omega)]
        by_cases c : j = d
        · rw [if_pos c, if_pos c]; exact ⟨rfl, rfl⟩
        · rw [if_neg c, if_neg c]; exact h j (by omega))
      refine ⟨y, M', ?_, a2, fun k k1 k2 => by rw [a3 k k1 k2, mst_k _ _ _ _ k2, mst_k _ _ _ _ k1]⟩
      rw [← a1, L_X7_findsPaid_17, if_neg (by rw [li_7, iI_le] <;> omega), mwr_i (by omega) (by omega), Option.bind_some, mwr_i (by omega) (by omega), Option.bind_some, Int.toNat_natCast]
      unfold bnd
      rw [li_1, iI_add]
      rfl
/-- findsPaid, from the marks -/
theorem X7_paid {M : Mem} {C B : Nat → Int} (hC : ∀ j, -100 ≤ C j ∧ C j ≤ 100) (hB : ∀ j, -100 ≤ B j ∧ B j ≤ 100) (hC0 : ∀ m, m < 10080 → M 20 m = iI (C m - (if m = 0 then 0 else C (m - 1)))) (hB0 : ∀ m, m < 10080 → M 21 m = iI (B m - (if m = 0 then 0 else B (m - 1)))) : ∃ M', s_X7_findsPaid M = some M' ∧ PaidI M M' C B 10080 := by
  obtain ⟨M1, e1⟩ : ∃ M1, M1 = mst (mst (mst M 1 31 0) 1 32 0) 1 33 0 := ⟨_, rfl⟩
  obtain ⟨y, M2, a1, a2, a3⟩ := L_paid0 7 FU 0 M1 (by omega) (by rw [FU_0]; omega) (fun j hj => by omega)
  have c1 : ∀ k, k ≠ 1 → M1 k = M k := fun k hk => by rw [e1, mst_k _ _ _ _ hk, mst_k _ _ _ _ hk, mst_k _ _ _ _ hk]
  have f1 : ∀ j, M1 1 j = if j = 33 then 0 else if j = 32 then 0 else if j = 31 then 0 else M 1 j := fun j => by rw [e1, mst_a, if_pos rfl, mst_a, if_pos rfl, mst_a, if_pos rfl]
  have hI : PaidI M M2 C B 0 := by
    refine ⟨fun j hj => by omega, fun j _ => by rw [a3 20 (by omega) (by omega), c1 20 (by omega)], fun j hj => by omega, fun j _ => by rw [a3 21 (by omega) (by omega), c1 21 (by omega)], ?_, ?_, ?_, fun d hd => (a2 d hd).1, fun d hd => (a2 d hd).2, fun j hj => by omega, fun k k1 k2 k3 k4 k5 k6 => by rw [a3 k k5 k6, c1 k k1], fun j j1 j2 j3 => ?_⟩
    · rw [a3 1 (by omega) (by omega), f1, if_neg (by omega), if_neg (by omega), if_pos rfl]; rfl
    · rw [a3 1 (by omega) (by omega), f1, if_neg (by omega), if_pos rfl]; rfl
    · rw [a3 1 (by omega) (by omega), f1, if_pos rfl]; rfl
    · rw [a3 1 (by omega) (by omega), f1, if_neg j3, if_neg j2, if_neg j1]
  obtain ⟨y1, y2, M', b1, b2⟩ := L_paid hC hB hC0 hB0 10080 FU 0 M2 (by omega) (by rw [FU_0]; omega) hI
  refine ⟨M', ?_, b2⟩
  unfold s_X7_findsPaid bnd
  dsimp only
  rw [← e1]
  have a1' : L_X7_findsPaid_17 FU 0 M1 = some (y, M2) := a1
  have b1' : L_X7_findsPaid_47 FU 0 0 M2 = some (y1, y2, M') := b1
  rw [a1', Option.bind_some, b1']
  rfl

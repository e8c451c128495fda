/-- findsShares, whole: q c d the minutes of category c on day d -/
theorem L_sh2 {q : Nat → Nat → Nat} (hq : ∀ c d, q c d ≤ 10080) {M0 : Mem} (h : ∀ d c, d < 7 → c < 3 → M0 25 (3 * d + c) = iI (q c d : Nat)) : ∀ (r fu c : Nat) (M : Mem), c + r = 3 → r < fu → (∀ k, k ≠ 26 → k ≠ 27 → M k = M0 k) → (∀ j d, j < c → d < 7 → M 26 (3 * d + j) = iI (shq (q j) d : Nat)) → (∀ j, j < c → M 27 j = iI (wq (q j) : Nat)) → ∃ y M', L_X7_findsShares_2 fu (iI c) M = some (y, M') ∧ (∀ k, k ≠ 26 → k ≠ 27 → M' k = M0 k) ∧ (∀ j d, j < 3 → d < 7 → M' 26 (3 * d + j) = iI (shq (q j) d : Nat)) ∧ ∀ j, j < 3 → M' 27 j = iI (wq (q j) : Nat) := by
  intro r
  induction r with
  | zero =>
    intro fu c M hd hf h1 h2 h3
    cases fu with
    | zero => omega
    | succ fu =>
      have hd' : c = 3 := by omega
      subst hd'
      refine ⟨iI ((3 : Nat) : Int), M, ?_, h1, h2, h3⟩
      rw [L_X7_findsShares_2, if_pos (by rw [li_3, iI_le] <;> omega)]
  | succ r ih =>
    intro fu c M hd hf h1 h2 h3
    cases fu with
    | zero => omega
    | succ fu =>
      have hs := sd_le (hq c) 7
      have hlf := lf_b (hq c) (w := (wq (q c) : Int)) 7
      have hwq : wq (q c) ≤ 4705 := by unfold wq; omega
      obtain ⟨y, M1, a1, a2, a3⟩ := L_sh14 (c := c) (by omega) (hq c) (M0 := M) (fun d hd => by rw [h1 25 (by omega) (by omega)]; exact h d c hd (by omega)) 7 FU 0 M (by omega) (by rw [FU_0]; omega) (fun _ _ => rfl) (fun i => by rw [if_neg (by omega)])
      obtain ⟨M2, g2⟩ : ∃ M2, M2 = mst M1 27 c (iI (wq (q c) : Nat)) := ⟨_, rfl⟩
      obtain ⟨y', M3, b1, b2, b3⟩ := L_sh108 (c := c) (by omega) (hq c) (M0 := M2) (fun d hd => by rw [g2, mst_k _ _ _ _ (by omega), a2 25 (by omega), h1 25 (by omega) (by omega)]; exact h d c hd (by omega)) (fun d hd => by rw [g2, mst_k _ _ _ _ (by omega), a3, if_pos (by omega), show (3 * d + c) / 3 = d by omega]) (by omega) 7 FU 0 M2 (by omega) (by rw [FU_0]; omega) (fun _ _ => rfl) (fun i => by rw [if_neg (by omega)])
      obtain ⟨y2, M', c1, c2, c3, c4⟩ := ih fu (c + 1) M3 (by omega) (by omega) (fun k k1 k2 => by rw [b2 k k1, g2, mst_k _ _ _ _ k2, a2 k k1, h1 k k1 k2]) (fun j d hj hd => by
        rw [b3]
        by_cases e : j = c
        · rw [if_pos (by omega), show (3 * d + j) / 3 = d by omega, e]
        · rw [if_neg (by omega), g2, mst_k _ _ _ _ (by omega), a3, if_neg (by omega)]
          exact h2 j d (by omega) hd) (fun j hj => by
        rw [b2 27 (by omega), g2, mst_a, if_pos rfl]
        by_cases e : j = c
        · rw [if_pos e, e]
        · rw [if_neg e, a2 27 (by omega)]; exact h3 j (by omega))
      refine ⟨y2, M', ?_, c2, c3, c4⟩
      have a1' : L_X7_findsShares_14 (iI c) FU 0 0 0 M = some (iI (sd (q c) 7 : Nat), iI (lf (q c) 0 7), y, M1) := a1
      have b1' : L_X7_findsShares_108 (iI c) (iI (lf (q c) (wq (q c)) 7)) FU 0 M2 = some (y', M3) := b1
      have r1 : mwr 3 M1 27 (iI (c : Int)) ((iI (sd (q c) 7 : Nat) + 7) / 15) = some M2 := by
        rw [li_7, iI_add, li_15, iI_div (by omega) (by omega), mwr_i (by omega) (by omega), Int.toNat_natCast, g2]
        rfl
      have r2 : mrd 3 (M2 27) (iI (c : Int)) = some (iI (wq (q c) : Nat)) := by rw [mrd_i (by omega) (by omega), Int.toNat_natCast, g2, mst_a, if_pos rfl, if_pos rfl]
      rw [← c1, L_X7_findsShares_2, if_neg (by rw [li_3, iI_le] <;> omega), a1', Option.bind_some]
      dsimp only
      rw [r1, Option.bind_some, r2, Option.bind_some]
      unfold bnd
      dsimp only
      rw [iI_add, ← lf_add, b1', Option.bind_some, li_1, iI_add]
      rfl
theorem X7_shares {q : Nat → Nat → Nat} (hq : ∀ c d, q c d ≤ 10080) {M : Mem} (h : ∀ d c, d < 7 → c < 3 → M 25 (3 * d + c) = iI (q c d : Nat)) : ∃ M', s_X7_findsShares M = some M' ∧ (∀ k, k ≠ 26 → k ≠ 27 → M' k = M k) ∧ (∀ j d, j < 3 → d < 7 → M' 26 (3 * d + j) = iI (shq (q j) d : Nat)) ∧ ∀ j, j < 3 → M' 27 j = iI (wq (q j) : Nat) := by
  obtain ⟨y, M', a1, a2, a3, a4⟩ := L_sh2 hq h 3 FU 0 M (by omega) (by rw [FU_0]; omega) (fun _ _ _ => rfl) (fun j d hj => by omega) (fun j hj => by omega)
  refine ⟨M', ?_, a2, a3, a4⟩
  have a1' : L_X7_findsShares_2 FU 0 M = some (y, M') := a1
  unfold s_X7_findsShares
  rw [a1']
  rfl

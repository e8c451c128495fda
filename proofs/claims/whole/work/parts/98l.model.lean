/-! the model's shares -/
theorem L_ahead {M : Mem} {q : Nat → Nat} {c x : Nat} (hx : x < 7) (hc : c < 3) (hq : ∀ d, q d ≤ 10080) (h : ∀ d, d < 7 → M 25 (3 * d + c) = iI (q d : Nat)) : ∀ (r fu d : Nat), d + r = 7 → r < fu → ∃ y, L_X7_ahead_20 M (iI x) (iI c) (iI (q x % 15 : Nat)) fu (iI (ah q x d : Nat)) (iI d) = some (iI (ah q x 7 : Nat), y) := by
  intro r
  induction r with
  | zero =>
    intro fu d hd hf
    cases fu with
    | zero => omega
    | succ fu =>
      have hd' : d = 7 := by omega
      subst hd'
      refine ⟨iI ((7 : Nat) : Int), ?_⟩
      rw [L_X7_ahead_20, if_pos (by rw [li_7, iI_le] <;> omega)]
  | succ r ih =>
    intro fu d hd hf
    cases fu with
    | zero => omega
    | succ fu =>
      obtain ⟨y, e⟩ := ih fu (d + 1) (by omega) (by omega)
      refine ⟨y, ?_⟩
      have hqd := hq d
      have eix : 3 * iI (d : Int) + iI (c : Int) = iI ((3 * d + c : Nat) : Int) := by
        rw [li_3, iI_mul, iI_add]; congr 1
      have p1 : (iI (q x % 15 : Nat) < iI (q d % 15 : Nat)) = (q x % 15 < q d % 15) := propext (by rw [iI_lt] <;> omega)
      have p2 : (iI (q d % 15 : Nat) = iI (q x % 15 : Nat)) = (q d % 15 = q x % 15) := propext (by rw [iI_eq] <;> omega)
      have p3 : (iI (x : Int) ≤ iI (d : Int)) = (x ≤ d) := propext (by rw [iI_le] <;> omega)
      rw [← e, L_X7_ahead_20, if_neg (by rw [li_7, iI_le] <;> omega), eix, mrd_i (by omega) (by omega), Int.toNat_natCast, h d (by omega), Option.bind_some, iI_mod15 hqd]
      unfold bnd
      dsimp only
      simp only [p1, p2, p3]
      rw [ah, li_1, iI_add]
      by_cases c1 : q x % 15 < q d % 15
      · rw [if_pos c1, if_pos (Or.inl c1), iI_add]; rfl
      · rw [if_neg c1]
        by_cases c2 : q d % 15 = q x % 15
        · rw [if_pos c2]
          by_cases c3 : x ≤ d
          · rw [if_pos c3, if_neg (by omega), li_0, iI_add]; rfl
          · rw [if_neg c3, if_pos (by omega), iI_add]; rfl
        · rw [if_neg c2, if_neg (by omega), li_0, iI_add]; rfl
theorem X7_ahead {M : Mem} {q : Nat → Nat} {c x : Nat} (hx : x < 7) (hc : c < 3) (hq : ∀ d, q d ≤ 10080) (h : ∀ d, d < 7 → M 25 (3 * d + c) = iI (q d : Nat)) : s_X7_ahead M (iI x) (iI c) = some (iI (ah q x 7 : Nat)) := by
  obtain ⟨y, e⟩ := L_ahead hx hc hq h 7 FU 0 (by omega) (by rw [FU_0]; omega)
  have e' : L_X7_ahead_20 M (iI x) (iI c) (iI (q x % 15 : Nat)) FU 0 0 = some (iI (ah q x 7 : Nat), y) := e
  have eix : 3 * iI (x : Int) + iI (c : Int) = iI ((3 * x + c : Nat) : Int) := by
    rw [li_3, iI_mul, iI_add]; congr 1
  unfold s_X7_ahead
  rw [eix, mrd_i (by omega) (by omega), Int.toNat_natCast, h x hx, Option.bind_some, iI_mod15 (hq x)]
  unfold bnd
  dsimp only
  rw [e']
  rfl
/-- first round of a category: whole quarters of each day -/
theorem L_sh14 {q : Nat → Nat} {c : Nat} (hc : c < 3) (hq : ∀ d, q d ≤ 10080) {M0 : Mem} (h : ∀ d, d < 7 → M0 25 (3 * d + c) = iI (q d : Nat)) : ∀ (r fu d : Nat) (M : Mem), d + r = 7 → r < fu → (∀ k, k ≠ 26 → M k = M0 k) → (∀ i, M 26 i = if i % 3 = c ∧ i / 3 < d then iI ((q (i / 3) / 15 : Nat) : Int) else M0 26 i) → ∃ y M', L_X7_findsShares_14 (iI c) fu (iI (sd q d : Nat)) (iI (lf q 0 d)) (iI d) M = some (iI (sd q 7 : Nat), iI (lf q 0 7), y, M') ∧ (∀ k, k ≠ 26 → M' k = M0 k) ∧ ∀ i, M' 26 i = if i % 3 = c ∧ i / 3 < 7 then iI ((q (i / 3) / 15 : Nat) : Int) else M0 26 i := by
  intro r
  induction r with
  | zero =>
    intro fu d M hd hf h1 h2
    cases fu with
    | zero => omega
    | succ fu =>
      have hd' : d = 7 := by omega
      subst hd'
      refine ⟨iI ((7 : Nat) : Int), M, ?_, h1, h2⟩
      rw [L_X7_findsShares_14, if_pos (by rw [li_7, iI_le] <;> omega)]
  | succ r ih =>
    intro fu d M hd hf h1 h2
    cases fu with
    | zero => omega
    | succ fu =>
      have hqd := hq d
      have eix : 3 * iI (d : Int) + iI (c : Int) = iI ((3 * d + c : Nat) : Int) := by
        rw [li_3, iI_mul, iI_add]; congr 1
      obtain ⟨M1, g1⟩ : ∃ M1, M1 = mst M 26 (3 * d + c) (iI ((q d / 15 : Nat) : Int)) := ⟨_, rfl⟩
      obtain ⟨y, M', a1, a2, a3⟩ := ih fu (d + 1) M1 (by omega) (by omega) (fun k hk => by rw [g1, mst_k _ _ _ _ hk]; exact h1 k hk) (fun i => by
        rw [g1, mst_a, if_pos rfl, h2 i]
        by_cases c1 : i = 3 * d + c
        · rw [if_pos c1, if_pos (by omega), show i / 3 = d by omega]
        · rw [if_neg c1]
          by_cases c2 : i % 3 = c ∧ i / 3 < d
          · rw [if_pos c2, if_pos (by omega)]
          · rw [if_neg c2, if_neg (by omega)])
      refine ⟨y, M', ?_, a2, a3⟩
      have r1 : mrd 21 (M 25) (iI ((3 * d + c : Nat) : Int)) = some (iI (q d : Nat)) := by rw [mrd_i (by omega) (by omega), Int.toNat_natCast, h1 25 (by omega), h d (by omega)]
      have r2 : mrd 21 (M1 25) (iI ((3 * d + c : Nat) : Int)) = some (iI (q d : Nat)) := by rw [mrd_i (by omega) (by omega), Int.toNat_natCast, g1, mst_k _ _ _ _ (by omega), h1 25 (by omega), h d (by omega)]
      have r3 : mwr 21 M 26 (iI ((3 * d + c : Nat) : Int)) (iI ((q d / 15 : Nat) : Int)) = some M1 := by rw [mwr_i (by omega) (by omega), Int.toNat_natCast, g1]
      rw [← a1, L_X7_findsShares_14, if_neg (by rw [li_7, iI_le] <;> omega), eix, r1, Option.bind_some]
      unfold bnd
      dsimp only
      rw [Option.bind_some, iI_div15 hqd, r3, Option.bind_some, r2, Option.bind_some, iI_div15 hqd, iI_add, iI_sub, li_1, iI_add]
      rfl
theorem lf_add (q : Nat → Nat) (w : Int) : ∀ d, lf q w d = lf q 0 d + w
  | 0 => by simp [lf]
  | d + 1 => by
    have := lf_add q w d
    rw [lf, lf]
    omega
/-- second round of a category: the quarters that are left -/
theorem L_sh108 {q : Nat → Nat} {c : Nat} (hc : c < 3) (hq : ∀ d, q d ≤ 10080) {M0 : Mem} (h : ∀ d, d < 7 → M0 25 (3 * d + c) = iI (q d : Nat)) (h26 : ∀ d, d < 7 → M0 26 (3 * d + c) = iI ((q d / 15 : Nat) : Int)) (hlf : -10080 ≤ lf q (wq q) 7 ∧ lf q (wq q) 7 ≤ 10080) : ∀ (r fu d : Nat) (M : Mem), d + r = 7 → r < fu → (∀ k, k ≠ 26 → M k = M0 k) → (∀ i, M 26 i = if i % 3 = c ∧ i / 3 < d then iI (shq q (i / 3) : Nat) else M0 26 i) → ∃ y M', L_X7_findsShares_108 (iI c) (iI (lf q (wq q) 7)) fu (iI d) M = some (y, M') ∧ (∀ k, k ≠ 26 → M' k = M0 k) ∧ ∀ i, M' 26 i = if i % 3 = c ∧ i / 3 < 7 then iI (shq q (i / 3) : Nat) else M0 26 i := by
  intro r
  induction r with
  | zero =>
    intro fu d M hd hf h1 h2
    cases fu with
    | zero => omega
    | succ fu =>
      have hd' : d = 7 := by omega
      subst hd'
      refine ⟨iI ((7 : Nat) : Int), M, ?_, h1, h2⟩
      rw [L_X7_findsShares_108, if_pos (by rw [li_7, iI_le] <;> omega)]
  | succ r ih =>
    intro fu d M hd hf h1 h2
    cases fu with
    | zero => omega
    | succ fu =>
      have hqd := hq d
      have hah := ah_le q d 7
      have eix : 3 * iI (d : Int) + iI (c : Int) = iI ((3 * d + c : Nat) : Int) := by
        rw [li_3, iI_mul, iI_add]; congr 1
      obtain ⟨M1, g1⟩ : ∃ M1, M1 = mst M 26 (3 * d + c) (iI (shq q d : Nat)) := ⟨_, rfl⟩
      obtain ⟨y, M', a1, a2, a3⟩ := ih fu (d + 1) M1 (by omega) (by omega) (fun k hk => by rw [g1, mst_k _ _ _ _ hk]; exact h1 k hk) (fun i => by
        rw [g1, mst_a, if_pos rfl, h2 i]
        by_cases c1 : i = 3 * d + c
        · rw [if_pos c1, if_pos (by omega), show i / 3 = d by omega]
        · rw [if_neg c1]
          by_cases c2 : i % 3 = c ∧ i / 3 < d
          · rw [if_pos c2, if_pos (by omega)]
          · rw [if_neg c2, if_neg (by omega)])
      refine ⟨y, M', ?_, a2, a3⟩
      have r1 : mrd 21 (M 26) (iI ((3 * d + c : Nat) : Int)) = some (iI ((q d / 15 : Nat) : Int)) := by rw [mrd_i (by omega) (by omega), Int.toNat_natCast, h2, if_neg (by omega), h26 d (by omega)]
      have r2 : s_X7_ahead M (iI d) (iI c) = some (iI (ah q d 7 : Nat)) := X7_ahead (by omega) hc hq (fun d' hd' => by rw [h1 25 (by omega)]; exact h d' hd')
      have r3 : mwr 21 M 26 (iI ((3 * d + c : Nat) : Int)) (iI ((q d / 15 : Nat) : Int) + (if iI (lf q (wq q) 7) ≤ iI (ah q d 7 : Nat) then (0 : Int32) else 1)) = some M1 := by
        rw [mwr_i (by omega) (by omega), Int.toNat_natCast, g1]
        unfold shq
        by_cases c1 : (ah q d 7 : Int) < lf q (wq q) 7
        · rw [if_neg (by rw [iI_le] <;> omega), if_pos c1, li_1, iI_add]; rfl
        · rw [if_pos (by rw [iI_le] <;> omega), if_neg c1, li_0, iI_add]; rfl
      rw [← a1, L_X7_findsShares_108, if_neg (by rw [li_7, iI_le] <;> omega), eix, r1, Option.bind_some, r2, Option.bind_some]
      unfold bnd
      dsimp only
      rw [r3, Option.bind_some, li_1, iI_add]
      rfl

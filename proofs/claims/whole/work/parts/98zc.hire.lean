/-! hire -/
theorem lw0b_ok {M M' : Mem} {G : Mel} {hn : Nat} {kc a1 v : Int32} (h : s_X7_hire M a1 = some (v, M')) (hc : M' 1 0 = kc) (hv : kc = 0 → G 0 0 = v.toInt64) : lw_0b M G hn kc a1 = some (M', G) := by
  unfold lw_0b
  rw [h, Option.bind_some]
  unfold s_X7_thrown
  rw [Option.bind_some, if_pos hc]
  dsimp only
  by_cases c : kc = 0
  · rw [if_pos c, mrdL_0, Option.bind_some, if_pos (hv c)]
  · rw [if_neg c]
theorem k0a : ∀ (hn : Nat) (M : Mem) (G : Mel), Inv hn M G → ∀ a1 : Int32, s_X6_requireWithin a1 1 100000 = some 0 → hn < 6 → ∃ (M' : Mem) (G' : Mel), lw_0b (hM M (46 + 7 * hn) a1) (mstL (hG G (46 + 7 * hn)) 0 0 (nI hn).toInt64) (hn + 1) 0 a1 = some (M', G') ∧ Inv (hn + 1) M' G' := by
  intro hn M G hI a1 hw h6
  have hin : s_X7_in a1 1 100000 = some 1 := by
    rcases wthn a1 (a := 1) (b := 100000) (by omega) (by omega) with ⟨k, -, -, -, -, k4⟩ | ⟨k3, -⟩
    · exact k4
    · have k3' : s_X6_requireWithin a1 1 100000 = some 1 := k3
      rw [hw] at k3'
      cases k3'
  obtain ⟨M0, g0⟩ : ∃ M0, M0 = hM M (46 + 7 * hn) a1 := ⟨_, rfl⟩
  obtain ⟨G0, s0⟩ : ∃ G0, G0 = hG G (46 + 7 * hn) := ⟨_, rfl⟩
  obtain ⟨G1, s1⟩ : ∃ G1, G1 = mstL G0 0 0 (nI hn).toInt64 := ⟨_, rfl⟩
  rw [← g0, ← s0, ← s1]
  have m0 : ∀ k, k < 46 + 7 * hn → M0 k = M k := fun k hk => by rw [g0]; exact if_pos hk
  have mo : ∀ j, M0 (46 + 7 * hn) j = if j = 0 then a1 else 0 := fun j => by
    rw [g0]; unfold hM; rw [if_neg (by omega), if_pos rfl]
  have mz : ∀ k j, 46 + 7 * hn < k → M0 k j = 0 := fun k j hk => by
    rw [g0]; unfold hM; rw [if_neg (by omega), if_neg (by omega)]
  have c0 : ∀ k, k < 46 + 7 * hn → G0 k = G k := fun k hk => by rw [s0]; exact if_pos hk
  have c1 : ∀ j, G0 (46 + 7 * hn) j = 0 := fun j => by
    rw [s0]; unfold hG; rw [if_neg (by omega)]
  have d1 : ∀ k, k ≠ 0 → G1 k = G0 k := fun k hk => by rw [s1]; exact mstL_0k _ _ k hk
  obtain ⟨M4, g4⟩ : ∃ M4, M4 = mst M0 1 0 0 := ⟨_, rfl⟩
  obtain ⟨M5, g5⟩ : ∃ M5, M5 = mst M4 2 hn a1 := ⟨_, rfl⟩
  obtain ⟨M6, g6⟩ : ∃ M6, M6 = mst M5 1 1 (iI ((hn + 1 : Nat) : Int)) := ⟨_, rfl⟩
  have f6 : ∀ k, k ≠ 1 → k ≠ 2 → M6 k = M0 k := fun k k1 k2 => by rw [g6, mst_k _ _ _ _ k1, g5, mst_k _ _ _ _ k2, g4, mst_k _ _ _ _ k1]
  have w6 : ∀ j, M6 2 j = if j = hn then a1 else M 2 j := fun j => by rw [g6, mst_k _ _ _ _ (by omega), g5, mst_a, if_pos rfl, g4, mst_k _ _ _ _ (by omega), m0 2 (by omega)]
  have t6 : ∀ j, M6 1 j = if j = 1 then iI ((hn + 1 : Nat) : Int) else if j = 0 then 0 else M 1 j := fun j => by rw [g6, mst_a, if_pos rfl, g5, mst_k _ _ _ _ (by omega), g4, mst_a, if_pos rfl, m0 1 (by omega)]
  have n0 : M0 1 1 = iI (hn : Int) := by rw [m0 1 (by omega)]; exact hI.2.1
  obtain ⟨-, -, ⟨pn, pr, hP⟩, hEs, hZ⟩ := hI
  refine ⟨M6, G1, lw0b_ok (v := iI (hn : Int)) ?_ (by rw [t6, if_neg (by omega), if_pos rfl]) (fun _ => by rw [s1, mstL_00, iI_nI]), by omega, by rw [t6, if_pos rfl], ⟨pn, pr, hP.congr (fun k hk => by rw [f6 k (by omega) (by omega), m0 k (by omega)]) (by rw [t6, if_neg (by omega), if_neg (by omega)])⟩, fun e he => ?_, fun e e1 e2 => ?_⟩
  · unfold s_X7_hire bnd
    rw [hin, Option.bind_some, if_neg (show ¬ (1 : Int32) = 0 by decide), n0, if_neg (by rw [li_6, iI_eq] <;> omega)]
    dsimp only
    rw [thr, if_pos (by decide), ← g4]
    have n4 : M4 1 1 = iI (hn : Int) := by rw [g4, mst_a, if_pos rfl, if_neg (by omega), n0]
    have n5 : M5 1 1 = iI (hn : Int) := by rw [g5, mst_k _ _ _ _ (by omega), n4]
    rw [n4, mwr_i (by omega) (by omega), Int.toNat_natCast, ← g5, Option.bind_some, n5, li_1, iI_add]
    have e6 : mst M5 1 1 (iI ((hn : Int) + 1)) = M6 := g6.symm
    rw [e6, t6, if_pos rfl, iI_sub]
    exact congrArg some (congrArg (fun z => (iI z, M6)) (by omega))
  · by_cases c : e = hn
    · subst c
      obtain ⟨z1, z2, z3, z4, z5⟩ := hZ e (Nat.le_refl e) h6
      refine ⟨0, fun _ => 0, fun _ => false, [], [], ⟨⟨by omega, fun i hi => by omega, fun i hi => by omega⟩, ⟨?_, by omega, fun i c hi => by omega⟩, ?_, fun k hk => by omega⟩, ⟨⟨by simp, fun q hq => by cases hq⟩, ⟨?_, by simp, fun i c hi => absurd hi (Nat.not_lt_zero _)⟩, ?_, fun k hk => absurd hk (Nat.not_lt_zero _)⟩, ⟨⟨by simp, fun q hq => by cases hq⟩, ⟨?_, by simp, fun i c hi => absurd hi (Nat.not_lt_zero _)⟩, ?_, fun k hk => absurd hk (Nat.not_lt_zero _)⟩, ?_, ?_, ?_⟩
      · rw [f6 _ (by omega) (by omega), mz _ _ (by omega)]; rfl
      · rw [f6 _ (by omega) (by omega), m0 5 (by omega), z2]; rfl
      · rw [f6 _ (by omega) (by omega), mz _ _ (by omega)]; rfl
      · rw [f6 _ (by omega) (by omega), m0 8 (by omega), z3]; rfl
      · rw [f6 _ (by omega) (by omega), mz _ _ (by omega)]; rfl
      · rw [f6 _ (by omega) (by omega), m0 11 (by omega), z4]; rfl
      · rw [f6 _ (by omega) (by omega), mo, if_pos rfl, w6, if_pos rfl]
      · rw [f6 _ (by omega) (by omega), mo, if_neg (by omega), f6 3 (by omega) (by omega), m0 3 (by omega), z1]
      · rw [d1 _ (by omega), c1, d1 4 (by omega), c0 4 (by omega), z5]
    · obtain ⟨n, tm, inn, E, B, hE⟩ := hEs e (by omega)
      refine ⟨n, tm, inn, E, B, hE.congr (fun k k1 k2 => by rw [f6 k (by omega) (by omega), m0 k (by omega)]) (fun k hk => ?_) (fun k j hk _ => by rw [f6 k (by omega) (by omega), m0 k (by omega)]) (fun k j hk _ => by rw [f6 k (by omega) (by omega), m0 k (by omega)]) (by rw [d1 _ (by omega), c0 _ (by omega)]) (by rw [d1 _ (by omega), c0 _ (by omega)])⟩
      rcases hk with rfl | hk
      · rw [w6, if_neg c]
      · rw [f6 k (by omega) (by omega), m0 k (by omega)]
  · rw [f6 3 (by omega) (by omega), f6 5 (by omega) (by omega), f6 8 (by omega) (by omega), f6 11 (by omega) (by omega), m0 3 (by omega), m0 5 (by omega), m0 8 (by omega), m0 11 (by omega), d1 4 (by omega), c0 4 (by omega)]
    exact hZ e (by omega) e2
theorem k0b : ∀ (hn : Nat) (M : Mem) (G : Mel), Inv hn M G → ∀ a1 : Int32, s_X6_requireWithin a1 1 100000 = some 1 → ∃ (M' : Mem) (G' : Mel), lw_0b M G hn 1 a1 = some (M', G') ∧ Inv hn M' G' := by
  intro hn M G hI a1 hw
  have hin : s_X7_in a1 1 100000 = some 0 := by
    rcases wthn a1 (a := 1) (b := 100000) (by omega) (by omega) with ⟨k, -, -, -, k3, -⟩ | ⟨-, k4⟩
    · have k3' : s_X6_requireWithin a1 1 100000 = some 0 := k3
      rw [hw] at k3'
      cases k3'
    · exact k4
  refine ⟨mst M 1 0 1, G, lw0b_ok (v := 0) ?_ (thr _ _) (fun h => absurd h (by decide)), hI.fq (Fq.thrown _ _) (fun _ _ => rfl)⟩
  unfold s_X7_hire bnd
  rw [hin, Option.bind_some, if_pos rfl]
  dsimp only
  rw [thr, if_neg (by decide)]
theorem k0c : ∀ (hn : Nat) (M : Mem) (G : Mel), Inv hn M G → ∀ a1 : Int32, s_X6_requireWithin a1 1 100000 = some 0 → hn = 6 → ∃ (M' : Mem) (G' : Mel), lw_0b M G hn 2 a1 = some (M', G') ∧ Inv hn M' G' := by
  intro hn M G hI a1 hw h6
  have hin : s_X7_in a1 1 100000 = some 1 := by
    rcases wthn a1 (a := 1) (b := 100000) (by omega) (by omega) with ⟨k, -, -, -, -, k4⟩ | ⟨k3, -⟩
    · exact k4
    · have k3' : s_X6_requireWithin a1 1 100000 = some 1 := k3
      rw [hw] at k3'
      cases k3'
  refine ⟨mst M 1 0 2, G, lw0b_ok (v := 0) ?_ (thr _ _) (fun h => absurd h (by decide)), hI.fq (Fq.thrown _ _) (fun _ _ => rfl)⟩
  unfold s_X7_hire bnd
  rw [hin, Option.bind_some, if_neg (show ¬ (1 : Int32) = 0 by decide), hI.2.1, if_pos (by rw [h6]; rfl)]
  dsimp only
  rw [thr, if_neg (by decide)]
/-- nothing is there at the beginning -/
theorem Inv0 : Inv 0 (fun _ _ => 0) (fun _ _ => 0) :=
  ⟨by omega, rfl, ⟨0, fun _ _ => 0, ⟨by omega, fun i hi => by omega⟩, ⟨rfl, by omega, fun i c hi => by omega⟩, rfl, fun i hi => by omega⟩, fun e he => by omega, fun e _ _ => ⟨rfl, rfl, rfl, rfl, rfl⟩⟩

/-! premiums: put in, taken out -/
def Fp (M M' : Mem) : Prop := M' 1 1 = M 1 1 ∧ ∀ k, (2 ≤ k ∧ k ≤ 13) ∨ 46 ≤ k → M' k = M k
theorem Inv.fp {hn : Nat} {M M' : Mem} {G G' : Mel} (h : Inv hn M G) (hF : Fp M M') {pn : Nat} {pr : Nat → Nat → Nat} (hP : Prm M' pn pr) (hG : ∀ k, k ≠ 0 → G' k = G k) : Inv hn M' G' := by
  obtain ⟨h1, h2, -, h4, h5⟩ := h
  refine ⟨h1, hF.1.trans h2, ⟨pn, pr, hP⟩, fun e he => ?_, fun e e1 e2 => ?_⟩
  · obtain ⟨n, tm, inn, E, B, hE⟩ := h4 e he
    exact ⟨n, tm, inn, E, B, hE.congr (fun k k1 _ => hF.2 k (by omega)) (fun k hk => by rw [hF.2 k (by omega)]) (fun k j hk _ => by rw [hF.2 k (by omega)]) (fun k j hk _ => by rw [hF.2 k (by omega)]) (by rw [hG _ (by omega)]) (by rw [hG _ (by omega)])⟩
  · rw [hF.2 3 (by omega), hF.2 5 (by omega), hF.2 8 (by omega), hF.2 11 (by omega), hG 4 (by omega)]
    exact h5 e e1 e2
def pIns (pr : Nat → Nat → Nat) (n a b c d : Nat) (i j : Nat) : Nat := if i = n then (if j = 0 then a else if j = 1 then b else if j = 2 then c else d) else pr i j
theorem X2_add {M : Mem} {n : Nat} {pr : Nat → Nat → Nat} (h : Tb M 31 n (pmf pr)) (hn : n < 6) (a b c d : Nat) : ∃ M1, s_X2_add M (iI a) (iI b) (iI c) (iI d) = some (iI (n : Int), M1) ∧ Tb M1 31 (n + 1) (pmf (pIns pr n a b c d)) ∧ Fr 31 M M1 := by
  have hw : wd 31 = 4 := rfl
  obtain ⟨M1, g1, a1, a2, a3, a4⟩ := X4_insert h (Nat.le_refl n) (by rw [hw]; show _ ≤ 24; omega)
  obtain ⟨M2, b1, b2, b3⟩ := X4_set a2 (i := n) (c := 0) (by omega) (by rw [hw]; omega) (a : Int)
  obtain ⟨M3, c1, c2, c3⟩ := X4_set b2 (i := n) (c := 1) (by omega) (by rw [hw]; omega) (b : Int)
  obtain ⟨M4, d1, d2, d3⟩ := X4_set c2 (i := n) (c := 2) (by omega) (by rw [hw]; omega) (c : Int)
  obtain ⟨M5, e1, e2, e3⟩ := X4_set d2 (i := n) (c := 3) (by omega) (by rw [hw]; omega) (d : Int)
  refine ⟨M5, ?_, e2.ext (fun i j hi hj => ?_), (((a4.tr b3).tr c3).tr d3).tr e3⟩
  · have b1' : s_X4_set M1 31 (iI n) 0 (iI a) = some M2 := b1
    have c1' : s_X4_set M2 31 (iI n) 1 (iI b) = some M3 := c1
    have d1' : s_X4_set M3 31 (iI n) 2 (iI c) = some M4 := d1
    have e1' : s_X4_set M4 31 (iI n) 3 (iI d) = some M5 := e1
    unfold s_X2_add
    rw [X4_sz h, Option.bind_some, a1, Option.bind_some, b1', Option.bind_some, c1', Option.bind_some, d1', Option.bind_some, e1', Option.bind_some]
  · rw [hw] at hj
    unfold pmf pIns
    by_cases q : i = n
    · rw [if_pos q]
      by_cases q3 : j = 3
      · rw [if_pos ⟨q, q3⟩, if_neg (by omega), if_neg (by omega), if_neg (by omega)]
      · rw [if_neg (fun z => q3 z.2)]
        by_cases q2 : j = 2
        · rw [if_pos ⟨q, q2⟩, if_neg (by omega), if_neg (by omega), if_pos q2]
        · rw [if_neg (fun z => q2 z.2)]
          by_cases q1 : j = 1
          · rw [if_pos ⟨q, q1⟩, if_neg (by omega), if_pos q1]
          · rw [if_neg (fun z => q1 z.2), if_pos ⟨q, by omega⟩, if_pos (by omega)]
    · rw [if_neg q, if_neg (fun z => q z.1), if_neg (fun z => q z.1), if_neg (fun z => q z.1), if_neg (fun z => q z.1), a3 i j hi q (by rw [hw]; exact hj), if_pos (by omega)]
      rfl
theorem X7_addP_ok {M : Mem} {n : Nat} {pr : Nat → Nat → Nat} (h : PmM M n pr) (hn : n < 6) {a b c d : Nat} (k1 : s_X7_in (iI (a : Int)) 1 127 = some 1) (k2 : s_X7_in (iI (b : Int)) 0 1439 = some 1) (k3 : s_X7_in (iI (c : Int)) 0 1439 = some 1) (k4 : s_X7_in (iI (d : Int)) 1 10000 = some 1) : ∃ M', s_X7_addPremium M (iI a) (iI b) (iI c) (iI d) = some (iI (n : Int), M') ∧ PmM M' (n + 1) (pIns pr n a b c d) ∧ M' 1 0 = 0 ∧ (∀ k, k ≠ 1 → k < 14 ∨ 17 < k → M' k = M k) ∧ ∀ j, j ≠ 0 → j ≠ 14 → M' 1 j = M 1 j := by
  obtain ⟨M9, g9⟩ : ∃ M9, M9 = mst M 1 0 0 := ⟨_, rfl⟩
  obtain ⟨M10, g10⟩ : ∃ M10, M10 = mst M9 14 n (iI (a : Int)) := ⟨_, rfl⟩
  obtain ⟨M11, g11⟩ : ∃ M11, M11 = mst M10 15 n (iI (b : Int)) := ⟨_, rfl⟩
  obtain ⟨M12, g12⟩ : ∃ M12, M12 = mst M11 16 n (iI (c : Int)) := ⟨_, rfl⟩
  obtain ⟨M13, g13⟩ : ∃ M13, M13 = mst M12 17 n (iI (d : Int)) := ⟨_, rfl⟩
  obtain ⟨M14, g14⟩ : ∃ M14, M14 = mst M13 1 14 (iI ((n + 1 : Nat) : Int)) := ⟨_, rfl⟩
  have c9 : M9 1 14 = iI (n : Int) := by rw [g9, mst_a, if_pos rfl, if_neg (by omega)]; exact h.1
  have c10 : M10 1 14 = iI (n : Int) := by rw [g10, mst_k _ _ _ _ (by omega), c9]
  have c11 : M11 1 14 = iI (n : Int) := by rw [g11, mst_k _ _ _ _ (by omega), c10]
  have c12 : M12 1 14 = iI (n : Int) := by rw [g12, mst_k _ _ _ _ (by omega), c11]
  have c13 : M13 1 14 = iI (n : Int) := by rw [g13, mst_k _ _ _ _ (by omega), c12]
  have t14 : ∀ j, M14 1 j = if j = 14 then iI ((n + 1 : Nat) : Int) else if j = 0 then 0 else M 1 j := fun j => by
    rw [g14, mst_a, if_pos rfl, g13, mst_k _ _ _ _ (by omega), g12, mst_k _ _ _ _ (by omega), g11, mst_k _ _ _ _ (by omega), g10, mst_k _ _ _ _ (by omega), g9, mst_a, if_pos rfl]
  have v14 : ∀ j, M14 14 j = if j = n then iI (a : Int) else M 14 j := fun j => by
    rw [g14, mst_k _ _ _ _ (by omega), g13, mst_k _ _ _ _ (by omega), g12, mst_k _ _ _ _ (by omega), g11, mst_k _ _ _ _ (by omega), g10, mst_a, if_pos rfl, g9, mst_k _ _ _ _ (by omega)]
  have v15 : ∀ j, M14 15 j = if j = n then iI (b : Int) else M 15 j := fun j => by
    rw [g14, mst_k _ _ _ _ (by omega), g13, mst_k _ _ _ _ (by omega), g12, mst_k _ _ _ _ (by omega), g11, mst_a, if_pos rfl, g10, mst_k _ _ _ _ (by omega), g9, mst_k _ _ _ _ (by omega)]
  have v16 : ∀ j, M14 16 j = if j = n then iI (c : Int) else M 16 j := fun j => by
    rw [g14, mst_k _ _ _ _ (by omega), g13, mst_k _ _ _ _ (by omega), g12, mst_a, if_pos rfl, g11, mst_k _ _ _ _ (by omega), g10, mst_k _ _ _ _ (by omega), g9, mst_k _ _ _ _ (by omega)]
  have v17 : ∀ j, M14 17 j = if j = n then iI (d : Int) else M 17 j := fun j => by
    rw [g14, mst_k _ _ _ _ (by omega), g13, mst_a, if_pos rfl, g12, mst_k _ _ _ _ (by omega), g11, mst_k _ _ _ _ (by omega), g10, mst_k _ _ _ _ (by omega), g9, mst_k _ _ _ _ (by omega)]
  refine ⟨M14, ?_, ⟨by rw [t14, if_pos rfl], fun i hi => ?_⟩, by rw [t14, if_neg (by omega), if_pos rfl], fun k k1 k2 => ?_, fun j j0 j1 => by rw [t14, if_neg j1, if_neg j0]⟩
  · unfold s_X7_addPremium bnd
    rw [k1, Option.bind_some, if_neg (show ¬ (1 : Int32) = 0 by decide), k2, Option.bind_some, if_neg (show ¬ (1 : Int32) = 0 by decide), k3, Option.bind_some, if_neg (show ¬ (1 : Int32) = 0 by decide), k4, Option.bind_some, if_neg (show ¬ (1 : Int32) = 0 by decide), Option.bind_some, if_neg (show ¬ (1 : Int32) = 0 by decide), h.1, if_neg (by rw [li_6, iI_eq] <;> omega)]
    dsimp only
    rw [thr, if_pos (by decide), ← g9, c9, mwr_i (by omega) (by omega), Int.toNat_natCast, ← g10, Option.bind_some, c10, mwr_i (by omega) (by omega), Int.toNat_natCast, ← g11, Option.bind_some, c11, mwr_i (by omega) (by omega), Int.toNat_natCast, ← g12, Option.bind_some, c12, mwr_i (by omega) (by omega), Int.toNat_natCast, ← g13, Option.bind_some, c13, li_1, iI_add]
    have e14 : mst M13 1 14 (iI ((n : Int) + 1)) = M14 := g14.symm
    rw [e14, t14, if_pos rfl, iI_sub]
    exact congrArg (fun z => some (iI z, M14)) (by omega)
  · rw [v14, v15, v16, v17]
    unfold pIns
    by_cases q : i = n
    · rw [if_pos q, if_pos q, if_pos q, if_pos q, if_pos q, if_pos q, if_pos q, if_pos q]; exact ⟨rfl, rfl, rfl, rfl⟩
    · rw [if_neg q, if_neg q, if_neg q, if_neg q, if_neg q, if_neg q, if_neg q, if_neg q]; exact h.2 i (by omega)
  · rw [g14, mst_k _ _ _ _ k1, g13, mst_k _ _ _ _ (by omega), g12, mst_k _ _ _ _ (by omega), g11, mst_k _ _ _ _ (by omega), g10, mst_k _ _ _ _ (by omega), g9, mst_k _ _ _ _ k1]
/-- the bounds of a premium -/
theorem prem_cases (x1 x2 x3 x4 : Int32) : (∃ a b c d : Nat, (a < 128 ∧ b < 1440 ∧ c < 1440 ∧ d ≤ 10000) ∧ (x1 = iI (a : Int) ∧ x2 = iI (b : Int) ∧ x3 = iI (c : Int) ∧ x4 = iI (d : Int)) ∧ (s_X6_requireWithin x1 1 127 = some 0 ∧ s_X6_requireWithin x2 0 1439 = some 0 ∧ s_X6_requireWithin x3 0 1439 = some 0 ∧ s_X6_requireWithin x4 1 10000 = some 0) ∧ s_X7_in x1 1 127 = some 1 ∧ s_X7_in x2 0 1439 = some 1 ∧ s_X7_in x3 0 1439 = some 1 ∧ s_X7_in x4 1 10000 = some 1) ∨ ((∀ M : Mem, s_X6_addPremium M x1 x2 x3 x4 = some (1, 0, M)) ∧ ∀ M : Mem, s_X7_addPremium M x1 x2 x3 x4 = some (0, mst M 1 0 1)) := by
  rcases wthn x1 (a := 1) (b := 127) (by omega) (by omega) with ⟨k1, l1, m1, e1, w1, i1⟩ | ⟨w1, i1⟩
  · replace w1 : s_X6_requireWithin x1 1 127 = some 0 := w1
    replace i1 : s_X7_in x1 1 127 = some 1 := i1
    rcases wthn x2 (a := 0) (b := 1439) (by omega) (by omega) with ⟨k2, l2, m2, e2, w2, i2⟩ | ⟨w2, i2⟩
    · replace w2 : s_X6_requireWithin x2 0 1439 = some 0 := w2
      replace i2 : s_X7_in x2 0 1439 = some 1 := i2
      rcases wthn x3 (a := 0) (b := 1439) (by omega) (by omega) with ⟨k3, l3, m3, e3, w3, i3⟩ | ⟨w3, i3⟩
      · replace w3 : s_X6_requireWithin x3 0 1439 = some 0 := w3
        replace i3 : s_X7_in x3 0 1439 = some 1 := i3
        rcases wthn x4 (a := 1) (b := 10000) (by omega) (by omega) with ⟨k4, l4, m4, e4, w4, i4⟩ | ⟨w4, i4⟩
        · obtain ⟨a, rfl⟩ := ge0 (k := k1) (by omega)
          obtain ⟨b, rfl⟩ := ge0 (k := k2) (by omega)
          obtain ⟨c, rfl⟩ := ge0 (k := k3) (by omega)
          obtain ⟨d, rfl⟩ := ge0 (k := k4) (by omega)
          exact Or.inl ⟨a, b, c, d, ⟨by omega, by omega, by omega, by omega⟩, ⟨e1, e2, e3, e4⟩, ⟨w1, w2, w3, w4⟩, i1, i2, i3, i4⟩
        · replace w4 : s_X6_requireWithin x4 1 10000 = some 1 := w4
          replace i4 : s_X7_in x4 1 10000 = some 0 := i4
          refine Or.inr ⟨fun M => ?_, fun M => ?_⟩
          · unfold s_X6_addPremium
            rw [w1, Option.bind_some, if_neg (not_not_intro rfl), w2, Option.bind_some, if_neg (not_not_intro rfl), w3, Option.bind_some, if_neg (not_not_intro rfl), w4]
            rfl
          · unfold s_X7_addPremium bnd
            rw [i1, Option.bind_some, if_neg (show ¬ (1 : Int32) = 0 by decide), i2, Option.bind_some, if_neg (show ¬ (1 : Int32) = 0 by decide), i3, Option.bind_some, if_neg (show ¬ (1 : Int32) = 0 by decide), i4, Option.bind_some, if_pos rfl, Option.bind_some, if_pos rfl]
            dsimp only
            rw [thr, if_neg (by decide)]
      · replace w3 : s_X6_requireWithin x3 0 1439 = some 1 := w3
        replace i3 : s_X7_in x3 0 1439 = some 0 := i3
        refine Or.inr ⟨fun M => ?_, fun M => ?_⟩
        · unfold s_X6_addPremium
          rw [w1, Option.bind_some, if_neg (not_not_intro rfl), w2, Option.bind_some, if_neg (not_not_intro rfl), w3]
          rfl
        · unfold s_X7_addPremium bnd
          rw [i1, Option.bind_some, if_neg (show ¬ (1 : Int32) = 0 by decide), i2, Option.bind_some, if_neg (show ¬ (1 : Int32) = 0 by decide), i3, Option.bind_some, if_pos rfl, Option.bind_some, if_pos rfl]
          dsimp only
          rw [thr, if_neg (by decide)]
    · replace w2 : s_X6_requireWithin x2 0 1439 = some 1 := w2
      replace i2 : s_X7_in x2 0 1439 = some 0 := i2
      refine Or.inr ⟨fun M => ?_, fun M => ?_⟩
      · unfold s_X6_addPremium
        rw [w1, Option.bind_some, if_neg (not_not_intro rfl), w2]
        rfl
      · unfold s_X7_addPremium bnd
        rw [i1, Option.bind_some, if_neg (show ¬ (1 : Int32) = 0 by decide), i2, Option.bind_some, if_pos rfl, Option.bind_some, if_pos rfl]
        dsimp only
        rw [thr, if_neg (by decide)]
  · replace w1 : s_X6_requireWithin x1 1 127 = some 1 := w1
    replace i1 : s_X7_in x1 1 127 = some 0 := i1
    refine Or.inr ⟨fun M => ?_, fun M => ?_⟩
    · unfold s_X6_addPremium
      rw [w1]
      rfl
    · unfold s_X7_addPremium bnd
      rw [i1, Option.bind_some, if_pos rfl, Option.bind_some, if_pos rfl]
      dsimp only
      rw [thr, if_neg (by decide)]
theorem k8 : ∀ (hn : Nat) (M : Mem) (G : Mel), Inv hn M G → ∀ (a1 a2 a3 a4 : Int32), ∃ (M' : Mem) (G' : Mel), lw_8 M G hn a1 a2 a3 a4 = some (M', G') ∧ Inv hn M' G' := by
  intro hn M G hI a1 a2 a3 a4
  show ∃ (M' : Mem) (G' : Mel), lwq (s_L_addPremium M G a1 a2 a3 a4) (fun M => s_X7_addPremium M a1 a2 a3 a4) = some (M', G') ∧ Inv hn M' G'
  obtain ⟨pn, pr, hO, hT, hM⟩ := hI.2.2.1
  rcases prem_cases a1 a2 a3 a4 with ⟨a, b, c, d, ⟨b1, b2, b3, b4⟩, ⟨rfl, rfl, rfl, rfl⟩, ⟨w1, w2, w3, w4⟩, i1, i2, i3, i4⟩ | ⟨p1, p2⟩
  · have hR : s_X6_requireRoom M 31 6 = if pn < 6 then some 0 else some 2 := room_ok hT (m := 6) (by omega)
    by_cases q : pn < 6
    · rw [if_pos q] at hR
      obtain ⟨M1, c1, c2, c3⟩ := X2_add hT q a b c d
      have hM1 : PmM M1 pn pr := ⟨by rw [c3.1 1 (by omega) (by omega)]; exact hM.1, fun i hi => by rw [c3.1 14 (by omega) (by omega), c3.1 15 (by omega) (by omega), c3.1 16 (by omega) (by omega), c3.1 17 (by omega) (by omega)]; exact hM.2 i hi⟩
      obtain ⟨M2, d1, d2, d3, d4, d5⟩ := X7_addP_ok hM1 q i1 i2 i3 i4
      refine ⟨M2, _, lwq_ok (v := iI (pn : Int)) (L_addPremium_ok (M1 := M1) ?_) ?_ d3 (fun _ => mstL_00 G _), hI.fp ⟨by rw [d5 1 (by omega) (by omega), c3.1 1 (by omega) (by omega)], fun k hk => by rw [d4 k (by omega) (by omega), c3.1 k (by omega) (by omega)]⟩ (pn := pn + 1) (pr := pIns pr pn a b c d) ⟨⟨by omega, fun i hi => ?_⟩, c2.congr (by rw [d4 31 (by omega) (by omega)]) (by rw [d4 (31 + 1) (by omega) (by omega)]), d2⟩ (mstL_0k G _)⟩
      · unfold s_X6_addPremium
        rw [w1, Option.bind_some, if_neg (not_not_intro rfl), w2, Option.bind_some, if_neg (not_not_intro rfl), w3, Option.bind_some, if_neg (not_not_intro rfl), w4, Option.bind_some, if_neg (not_not_intro rfl), hR, Option.bind_some, if_neg (not_not_intro rfl), c1]
        rfl
      · exact d1
      · unfold pIns
        by_cases z : i = pn
        · rw [if_pos z, if_pos z, if_pos z, if_pos z]; exact ⟨b1, b2, b3, b4⟩
        · rw [if_neg z, if_neg z, if_neg z, if_neg z]; exact hO.2 i (by omega)
    · rw [if_neg q] at hR
      have h6 : pn = 6 := by have := hO.1; omega
      refine query_no hI (c := 2) (v := 0) (M2 := mst M 1 0 2) (L_addPremium_x2 (v := 0) (M1 := M) ?_) (by decide) ?_ (thr _ _) Fq.rf (Fq.thrown _ _)
      · unfold s_X6_addPremium
        rw [w1, Option.bind_some, if_neg (not_not_intro rfl), w2, Option.bind_some, if_neg (not_not_intro rfl), w3, Option.bind_some, if_neg (not_not_intro rfl), w4, Option.bind_some, if_neg (not_not_intro rfl), hR]
        rfl
      · show s_X7_addPremium M (iI a) (iI b) (iI c) (iI d) = _
        unfold s_X7_addPremium bnd
        rw [i1, Option.bind_some, if_neg (show ¬ (1 : Int32) = 0 by decide), i2, Option.bind_some, if_neg (show ¬ (1 : Int32) = 0 by decide), i3, Option.bind_some, if_neg (show ¬ (1 : Int32) = 0 by decide), i4, Option.bind_some, if_neg (show ¬ (1 : Int32) = 0 by decide), Option.bind_some, if_neg (show ¬ (1 : Int32) = 0 by decide), hM.1, if_pos (by rw [h6]; rfl)]
        dsimp only
        rw [thr, if_neg (by decide)]
  · exact query_no hI (c := 1) (v := 0) (M2 := mst M 1 0 1) (L_addPremium_x1 (p1 M)) (by decide) (p2 M) (thr _ _) Fq.rf (Fq.thrown _ _)
def pRmv (pr : Nat → Nat → Nat) (k : Nat) (i j : Nat) : Nat := if i < k then pr i j else pr (i + 1) j
theorem L_rmvP {n : Nat} (hn : n ≤ 5) : ∀ (r fu y : Nat) (M : Mem), M 1 14 = iI (n : Int) → y + r = n → r < fu → ∃ z M', L_X7_removePremium_44 fu (iI (y : Int)) M = some (z, M') ∧ (∀ k, k < 14 ∨ 17 < k → M' k = M k) ∧ ∀ k j, 14 ≤ k → k ≤ 17 → M' k j = if y ≤ j ∧ j < n then M k (j + 1) else M k j := by
  intro r
  induction r with
  | zero =>
    intro fu y M h hy hf
    cases fu with
    | zero => omega
    | succ fu =>
      refine ⟨iI (y : Int), M, ?_, fun _ _ => rfl, fun k j _ _ => by rw [if_neg (by omega)]⟩
      rw [L_X7_removePremium_44, h, if_pos (by rw [iI_le] <;> omega)]
  | succ r ih =>
    intro fu y M h hy hf
    cases fu with
    | zero => omega
    | succ fu =>
      obtain ⟨M1, g1⟩ : ∃ M1, M1 = mst M 14 y (M 14 (y + 1)) := ⟨_, rfl⟩
      obtain ⟨M2, g2⟩ : ∃ M2, M2 = mst M1 15 y (M 15 (y + 1)) := ⟨_, rfl⟩
      obtain ⟨M3, g3⟩ : ∃ M3, M3 = mst M2 16 y (M 16 (y + 1)) := ⟨_, rfl⟩
      obtain ⟨M4, g4⟩ : ∃ M4, M4 = mst M3 17 y (M 17 (y + 1)) := ⟨_, rfl⟩
      have f4 : ∀ k, k < 14 ∨ 17 < k → M4 k = M k := fun k hk => by rw [g4, mst_k _ _ _ _ (by omega), g3, mst_k _ _ _ _ (by omega), g2, mst_k _ _ _ _ (by omega), g1, mst_k _ _ _ _ (by omega)]
      have v4 : ∀ k j, 14 ≤ k → k ≤ 17 → M4 k j = if j = y then M k (y + 1) else M k j := fun k j k1 k2 => by
        have hc : k = 14 ∨ k = 15 ∨ k = 16 ∨ k = 17 := by omega
        rcases hc with rfl | rfl | rfl | rfl
        · rw [g4, mst_k _ _ _ _ (by omega), g3, mst_k _ _ _ _ (by omega), g2, mst_k _ _ _ _ (by omega), g1, mst_a, if_pos rfl]
        · rw [g4, mst_k _ _ _ _ (by omega), g3, mst_k _ _ _ _ (by omega), g2, mst_a, if_pos rfl, g1, mst_k _ _ _ _ (by omega)]
        · rw [g4, mst_k _ _ _ _ (by omega), g3, mst_a, if_pos rfl, g2, mst_k _ _ _ _ (by omega), g1, mst_k _ _ _ _ (by omega)]
        · rw [g4, mst_a, if_pos rfl, g3, mst_k _ _ _ _ (by omega), g2, mst_k _ _ _ _ (by omega), g1, mst_k _ _ _ _ (by omega)]
      obtain ⟨z, M', i1, i2, i3⟩ := ih fu (y + 1) M4 (by rw [f4 1 (by omega)]; exact h) (by omega) (by omega)
      refine ⟨z, M', ?_, fun k hk => by rw [i2 k hk, f4 k hk], fun k j k1 k2 => ?_⟩
      · have e1 : iI (y : Int) + 1 = iI ((y + 1 : Nat) : Int) := by rw [li_1, iI_add]; rfl
        have r2 : M1 15 (y + 1) = M 15 (y + 1) := by rw [g1, mst_k _ _ _ _ (by omega)]
        have r3 : M2 16 (y + 1) = M 16 (y + 1) := by rw [g2, mst_k _ _ _ _ (by omega), g1, mst_k _ _ _ _ (by omega)]
        have r4 : M3 17 (y + 1) = M 17 (y + 1) := by rw [g3, mst_k _ _ _ _ (by omega), g2, mst_k _ _ _ _ (by omega), g1, mst_k _ _ _ _ (by omega)]
        rw [← i1, L_X7_removePremium_44, h, if_neg (by rw [iI_le] <;> omega), e1, mrd_i (by omega) (by omega), Int.toNat_natCast, Option.bind_some, mwr_i (by omega) (by omega), Int.toNat_natCast, ← g1, Option.bind_some, mrd_i (by omega) (by omega), Int.toNat_natCast, r2, Option.bind_some, mwr_i (by omega) (by omega), Int.toNat_natCast, ← g2, Option.bind_some, mrd_i (by omega) (by omega), Int.toNat_natCast, r3, Option.bind_some, mwr_i (by omega) (by omega), Int.toNat_natCast, ← g3, Option.bind_some, mrd_i (by omega) (by omega), Int.toNat_natCast, r4, Option.bind_some, mwr_i (by omega) (by omega), Int.toNat_natCast, ← g4, Option.bind_some]
        rfl
      · rw [i3 k j k1 k2]
        by_cases d : y + 1 ≤ j ∧ j < n
        · rw [if_pos d, if_pos (by omega), v4 k _ k1 k2, if_neg (by omega)]
        · rw [if_neg d, v4 k _ k1 k2]
          by_cases d2 : j = y
          · rw [if_pos d2, if_pos (by omega), d2]
          · rw [if_neg d2, if_neg (by omega)]
theorem k9 : ∀ (hn : Nat) (M : Mem) (G : Mel), Inv hn M G → ∀ (a1 : Int32), ∃ (M' : Mem) (G' : Mel), lw_9 M G hn a1 = some (M', G') ∧ Inv hn M' G' := by
  intro hn M G hI a1
  show ∃ (M' : Mem) (G' : Mel), lwq (s_L_removePremium M G a1) (fun M => s_X7_removePremium M a1) = some (M', G') ∧ Inv hn M' G'
  obtain ⟨pn, pr, hO, hT, hM⟩ := hI.2.2.1
  have hpn := hO.1
  rcases nmbr hT a1 with ⟨k, p1, rfl, p2, p3⟩ | ⟨p2, p3⟩
  · obtain ⟨M1, c1, c2, c3⟩ := X4_remove hT p1
    obtain ⟨M4, g4⟩ : ∃ M4, M4 = mst M1 1 0 0 := ⟨_, rfl⟩
    obtain ⟨M5, g5⟩ : ∃ M5, M5 = mst M4 1 14 (iI ((pn - 1 : Nat) : Int)) := ⟨_, rfl⟩
    have t5 : ∀ j, M5 1 j = if j = 14 then iI ((pn - 1 : Nat) : Int) else if j = 0 then 0 else M 1 j := fun j => by
      rw [g5, mst_a, if_pos rfl, g4, mst_a, if_pos rfl, c3.1 1 (by omega) (by omega)]
    have f5 : ∀ q, q ≠ 1 → M5 q = M1 q := fun q hq => by rw [g5, mst_k _ _ _ _ hq, g4, mst_k _ _ _ _ hq]
    obtain ⟨z, M', i1, i2, i3⟩ := L_rmvP (n := pn - 1) (by omega) (pn - 1 - k) FU k M5 (by rw [t5, if_pos rfl]) (by omega) (by rw [FU_0]; omega)
    refine ⟨M', _, lwq_ok (v := iI ((pn - 1 : Nat) : Int)) (L_removePremium_ok (M1 := M1) ?_) ?_ (by rw [i2 1 (by omega), t5, if_neg (by omega), if_pos rfl]) (fun _ => mstL_00 G _), hI.fp ⟨by rw [i2 1 (by omega), t5, if_neg (by omega), if_neg (by omega)], fun q hq => by rw [i2 q (by omega), f5 q (by omega), c3.1 q (by omega) (by omega)]⟩ (pn := pn - 1) (pr := pRmv pr k) ⟨⟨by omega, fun i hi => ?_⟩, (c2.ext (fun i c hi hc => ?_)).congr (by rw [i2 31 (by omega), f5 31 (by omega)]) (by rw [i2 (31 + 1) (by omega), f5 (31 + 1) (by omega)]), by rw [i2 1 (by omega), t5, if_pos rfl], fun i hi => ?_⟩ (mstL_0k G _)⟩
    · unfold s_X6_removePremium s_X6_removeNumbered
      rw [p2, Option.bind_some, if_neg (not_not_intro rfl), c1, Option.bind_some, X4_sz c2]
      rfl
    · show s_X7_removePremium M1 (iI k) = _
      have hM1 : M1 1 14 = iI (pn : Int) := by rw [c3.1 1 (by omega) (by omega)]; exact hM.1
      have hM4 : M4 1 14 = iI (pn : Int) := by rw [g4, mst_a, if_pos rfl, if_neg (by omega), hM1]
      have e5 : mst M4 1 14 (iI (pn : Int) - 1) = M5 := by
        rw [g5, li_1, iI_sub]; exact congrArg (fun z => mst M4 1 14 (iI z)) (by omega)
      unfold s_X7_removePremium bnd
      rw [hM1, p3, Option.bind_some, if_neg (show ¬ (1 : Int32) = 0 by decide)]
      dsimp only
      rw [thr, if_pos (by decide), ← g4, hM4, e5, i1, Option.bind_some]
      dsimp only
      rw [i2 1 (by omega), t5, if_pos rfl]
    · unfold pRmv
      by_cases d : i < k
      · rw [if_pos d, if_pos d, if_pos d, if_pos d]; exact hO.2 i (by omega)
      · rw [if_neg d, if_neg d, if_neg d, if_neg d]; exact hO.2 (i + 1) (by omega)
    · unfold pmf pRmv
      by_cases d : i < k
      · rw [if_pos d, if_pos d]
      · rw [if_neg d, if_neg d]
    · unfold pRmv
      rw [i3 14 i (by omega) (by omega), i3 15 i (by omega) (by omega), i3 16 i (by omega) (by omega), i3 17 i (by omega) (by omega), f5 14 (by omega), f5 15 (by omega), f5 16 (by omega), f5 17 (by omega), c3.1 14 (by omega) (by omega), c3.1 15 (by omega) (by omega), c3.1 16 (by omega) (by omega), c3.1 17 (by omega) (by omega)]
      by_cases d : i < k
      · rw [if_pos d, if_pos d, if_pos d, if_pos d, if_neg (by omega), if_neg (by omega), if_neg (by omega), if_neg (by omega)]; exact hM.2 i (by omega)
      · rw [if_neg d, if_neg d, if_neg d, if_neg d, if_pos (by omega), if_pos (by omega), if_pos (by omega), if_pos (by omega)]; exact hM.2 (i + 1) (by omega)
  · refine query_no hI (c := 1) (v := 0) (M2 := mst M 1 0 1) (L_removePremium_x3 (v := 0) (M1 := M) ?_) (by decide) ?_ (thr _ _) Fq.rf (Fq.thrown _ _)
    · unfold s_X6_removePremium s_X6_removeNumbered
      rw [p2]
      rfl
    · show s_X7_removePremium M a1 = _
      unfold s_X7_removePremium bnd
      rw [hM.1, p3, Option.bind_some, if_pos rfl]
      dsimp only
      rw [thr, if_neg (by decide)]

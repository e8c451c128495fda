/-! the plain ones -/
theorem k11 : ∀ (hn : Nat) (M : Mem) (G : Mel), Inv hn M G → ∃ (M' : Mem) (G' : Mel), lw_11 M G hn = some (M', G') ∧ Inv hn M' G' := by
  intro hn M G hI
  refine ⟨mst M 1 0 0, G, ?_, hI.fq (Fq.thrown _ _) (fun _ _ => rfl)⟩
  unfold lw_11 s_X6_employees s_X7_employees bnd
  rw [Option.bind_some, Option.bind_some]
  dsimp only
  rw [if_pos]
  rw [mst_a, if_pos rfl, if_neg (by omega), hI.2.1, iI_nI]
theorem mrdL_i {n : Nat} {f : Nat → Int64} {i : Int} (h0 : 0 ≤ i ∧ i < 2147483648) (h : i < n) : mrdL n f (iI i) = some (f i.toNat) := by
  unfold mrdL
  rw [iI_cl h0, if_neg]
  rintro (h1 | h1)
  · rw [show (0 : Int32) = iI 0 from rfl, iI_lt ⟨by omega, by omega⟩ ⟨by omega, by omega⟩] at h1
    omega
  · omega
theorem mwrL_i {n : Nat} {G : Mel} {k : Nat} {i : Int} {v : Int64} (h0 : 0 ≤ i ∧ i < 2147483648) (h : i < n) : mwrL n G k (iI i) v = some (mstL G k i.toNat v) := by
  unfold mwrL
  rw [iI_cl h0, if_neg]
  rintro (h1 | h1)
  · rw [show (0 : Int32) = iI 0 from rfl, iI_lt ⟨by omega, by omega⟩ ⟨by omega, by omega⟩] at h1
    omega
  · omega
theorem k12 : ∀ (hn : Nat) (M : Mem) (G : Mel), Inv hn M G → ∀ (a1 : Int32), ∃ (M' : Mem) (G' : Mel), lw_12 M G hn a1 = some (M', G') ∧ Inv hn M' G' := by
  intro hn M G hI a1
  have hh := hI.1
  have hF := Fq.thrown M 0
  rcases find_no hI.1 a1 with ⟨e, he, rfl⟩ | ⟨h0, h1⟩
  · obtain ⟨n, tm, inn, E, B, hE⟩ := hI.2.2.2.1 e he
    have A : s_L_closedWeeks M G hn (iI e) = some (0, mstL G 0 0 (M (46 + 7 * e) 1).toInt64) := by
      unfold s_L_closedWeeks s_X6_closedWeeks
      rw [X6_find_ok hI.1 he, Option.bind_some, if_neg (not_not_intro rfl), Option.bind_some, if_neg (not_not_intro rfl), mwrL_0]
      rfl
    have F : s_X7_closedWeeks M (iI e) = some (M (46 + 7 * e) 1, mst M 1 0 0) := by
      unfold s_X7_closedWeeks bnd
      dsimp only
      rw [X7_isOne_ok (hF.2.1.trans hI.2.1) hI.1 he, Option.bind_some, if_neg (show ¬ (1 : Int32) = 0 by decide), mst_k _ _ _ _ (show (3 : Nat) ≠ 1 by omega), mrd_i (by omega) (by omega), Int.toNat_natCast, ← hE.2.2.2.2.1]
      rfl
    refine ⟨mst M 1 0 0, mstL G 0 0 (M (46 + 7 * e) 1).toInt64, ?_, hI.fq hF (mstL_0k G _)⟩
    unfold lw_12
    rw [A, Option.bind_some, F, Option.bind_some]
    unfold s_X7_thrown
    rw [Option.bind_some, if_pos (thr _ _), if_pos rfl, mrdL_0, Option.bind_some, if_pos (mstL_00 G _)]
  · have A : s_L_closedWeeks M G hn a1 = some (1, G) := by
      unfold s_L_closedWeeks s_X6_closedWeeks
      rw [h0]
      rfl
    have F : s_X7_closedWeeks M a1 = some (0, mst (mst M 1 0 0) 1 0 1) := by
      unfold s_X7_closedWeeks bnd
      dsimp only
      rw [h1 _ (hF.2.1.trans hI.2.1), Option.bind_some, if_pos rfl]
      rfl
    refine ⟨mst (mst M 1 0 0) 1 0 1, G, ?_, hI.fq (hF.tr (Fq.thrown _ _)) (fun _ _ => rfl)⟩
    unfold lw_12
    rw [A, Option.bind_some, F, Option.bind_some]
    unfold s_X7_thrown
    rw [Option.bind_some, if_pos (thr _ _), if_neg (show ¬ (1 : Int32) = 0 by decide)]
theorem k13 : ∀ (hn : Nat) (M : Mem) (G : Mel), Inv hn M G → ∀ (a1 : Int32), ∃ (M' : Mem) (G' : Mel), lw_13 M G hn a1 = some (M', G') ∧ Inv hn M' G' := by
  intro hn M G hI a1
  have hh := hI.1
  rcases find_no hI.1 a1 with ⟨e, he, rfl⟩ | ⟨h0, h1⟩
  · obtain ⟨n, tm, inn, E, B, hE⟩ := hI.2.2.2.1 e he
    have A : s_L_earned G hn (iI e) = some (0, mstL G 0 0 (G (46 + 7 * e) 2)) := by
      unfold s_L_earned s_X6_earned
      rw [X6_find_ok hI.1 he, Option.bind_some, if_neg (not_not_intro rfl), Option.bind_some, if_neg (not_not_intro rfl), mwrL_0]
      rfl
    have F : s_X7_earned M (mstL G 0 0 (G (46 + 7 * e) 2)) (iI e) = some (G (46 + 7 * e) 2, mst M 1 0 0) := by
      unfold s_X7_earned bnd
      rw [X7_isOne_ok hI.2.1 hI.1 he, Option.bind_some, if_neg (show ¬ (1 : Int32) = 0 by decide)]
      dsimp only
      rw [thr, if_pos (by decide), mstL_0k G _ 4 (by omega), mrdL_i (by omega) (by omega), Int.toNat_natCast, ← hE.2.2.2.2.2]
      rfl
    refine ⟨mst M 1 0 0, mstL G 0 0 (G (46 + 7 * e) 2), ?_, hI.fq (Fq.thrown _ _) (mstL_0k G _)⟩
    unfold lw_13
    rw [A, Option.bind_some]
    dsimp only
    rw [F, Option.bind_some]
    unfold s_X7_thrown
    rw [Option.bind_some, if_pos (thr _ _), if_pos rfl, mrdL_0, Option.bind_some, if_pos (mstL_00 G _)]
  · have A : s_L_earned G hn a1 = some (1, G) := by
      unfold s_L_earned s_X6_earned
      rw [h0]
      rfl
    have F : s_X7_earned M G a1 = some (0, mst M 1 0 1) := by
      unfold s_X7_earned bnd
      rw [h1 _ hI.2.1, Option.bind_some, if_pos rfl]
      dsimp only
      rw [thr, if_neg (by decide), Option.bind_some]
    refine ⟨mst M 1 0 1, G, ?_, hI.fq (Fq.thrown _ _) (fun _ _ => rfl)⟩
    unfold lw_13
    rw [A, Option.bind_some]
    dsimp only
    rw [F, Option.bind_some]
    unfold s_X7_thrown
    rw [Option.bind_some, if_pos (thr _ _), if_neg (show ¬ (1 : Int32) = 0 by decide)]
/-! an employee's parts, each by itself -/
theorem EmpI.pn {M M' : Mem} {e n : Nat} {tm : Nat → Nat} {inn : Nat → Bool} (h : PnOK n tm ∧ Tb M (46 + 7 * e + 1) n (pnf tm inn) ∧ PnM M e n tm inn) (h1 : M' (46 + 7 * e + 1) = M (46 + 7 * e + 1)) (h2 : M' (46 + 7 * e + 1 + 1) = M (46 + 7 * e + 1 + 1)) (h3 : M' 5 e = M 5 e) (h4 : ∀ k j, k = 6 ∨ k = 7 → j < 41 → M' k (41 * e + j) = M k (41 * e + j)) : PnOK n tm ∧ Tb M' (46 + 7 * e + 1) n (pnf tm inn) ∧ PnM M' e n tm inn := by
  obtain ⟨a1, a2, a3⟩ := h
  have hn := a1.1
  exact ⟨a1, a2.congr (by rw [h1]) h2, by rw [h3]; exact a3.1, fun k hk => by rw [h4 6 k (by omega) (by omega), h4 7 k (by omega) (by omega)]; exact a3.2 k hk⟩
theorem EmpI.sp {M M' : Mem} {e t a b c : Nat} {E : List (Nat × Nat)} (h : SpOK E 20 ∧ Tl M t E ∧ SpM M a b c e E) (h1 : M' t = M t) (h2 : M' (t + 1) = M (t + 1)) (h3 : M' a e = M a e) (h4 : ∀ j, j < 20 → M' b (20 * e + j) = M b (20 * e + j) ∧ M' c (20 * e + j) = M c (20 * e + j)) : SpOK E 20 ∧ Tl M' t E ∧ SpM M' a b c e E := by
  obtain ⟨b1, b2, b3⟩ := h
  have hE := b1.1
  exact ⟨b1, b2.congr (by rw [h1]) h2, by rw [h3]; exact b3.1, fun k hk => by rw [(h4 k (by omega)).1, (h4 k (by omega)).2]; exact b3.2 k hk⟩
/-- a change of the employee e that succeeds -/
theorem change_ok {hn e : Nat} {M : Mem} {G : Mel} (hI : Inv hn M G) (he : e < hn) {A : Option (Int32 × Mem × Mel)} {F : Mem → Option (Int32 × Mem)} {v : Int32} {M1 M2 : Mem} (hA : A = some (0, M1, mstL G 0 0 v.toInt64)) (hF : F M1 = some (v, M2)) (hc : M2 1 0 = 0) (hE : Emp M2 (mstL G 0 0 v.toInt64) e) (h1 : Fe e M M1) (h2 : Fe e M1 M2) : ∃ (M' : Mem) (G' : Mel), lwq A F = some (M', G') ∧ Inv hn M' G' :=
  ⟨M2, _, lwq_ok hA hF hc (fun _ => mstL_00 G _), hI.fe he hE (h1.tr h2) (Ge.rf0 (mstL_0k G _))⟩
theorem k1 : ∀ (hn : Nat) (M : Mem) (G : Mel), Inv hn M G → ∀ (a1 a2 : Int32), ∃ (M' : Mem) (G' : Mel), lw_1 M G hn a1 a2 = some (M', G') ∧ Inv hn M' G' := by
  intro hn M G hI a1 a2
  have hh := hI.1
  show ∃ (M' : Mem) (G' : Mel), lwq (s_L_setWage M G hn a1 a2) (fun M => s_X7_setWage M a1 a2) = some (M', G') ∧ Inv hn M' G'
  rcases find_no hI.1 a1 with ⟨e, he, rfl⟩ | ⟨h0, h1⟩
  · obtain ⟨n, tm, inn, E, B, hE⟩ := hI.2.2.2.1 e he
    rcases wthn a2 (a := 1) (b := 100000) (by omega) (by omega) with ⟨k, k1, k2, -, k3, k4⟩ | ⟨k3, k4⟩
    · have k3' : s_X6_requireWithin a2 1 100000 = some 0 := k3
      have k4' : s_X7_in a2 1 100000 = some 1 := k4
      obtain ⟨M1, g1⟩ : ∃ M1, M1 = mst M (46 + 7 * e) 0 a2 := ⟨_, rfl⟩
      obtain ⟨M2, g2⟩ : ∃ M2, M2 = mst M1 1 0 0 := ⟨_, rfl⟩
      obtain ⟨M3, g3⟩ : ∃ M3, M3 = mst M2 2 e a2 := ⟨_, rfl⟩
      have f2 : ∀ k, k ≠ 1 → k ≠ 2 → k ≠ 46 + 7 * e → M3 k = M k := fun k c1 c2 c3 => by rw [g3, mst_k _ _ _ _ c2, g2, mst_k _ _ _ _ c1, g1, mst_k _ _ _ _ c3]
      have o0 : M3 (46 + 7 * e) 0 = a2 := by rw [g3, mst_k _ _ _ _ (by omega), g2, mst_k _ _ _ _ (by omega), g1, mst_a, if_pos rfl, if_pos rfl]
      have o1 : M3 (46 + 7 * e) 1 = M (46 + 7 * e) 1 := by rw [g3, mst_k _ _ _ _ (by omega), g2, mst_k _ _ _ _ (by omega), g1, mst_a, if_pos rfl, if_neg (by omega)]
      have w0 : ∀ j, M3 2 j = if j = e then a2 else M 2 j := fun j => by rw [g3, mst_a, if_pos rfl, g2, mst_k _ _ _ _ (by omega), g1, mst_k _ _ _ _ (by omega)]
      have F1 : Fe e M M1 := by
        rw [g1]
        exact ⟨by rw [mst_k _ _ _ _ (by omega)], by rw [mst_k _ _ _ _ (by omega)], fun k hk => mst_k _ _ _ _ (by omega), fun k j hk _ => by rw [mst_k _ _ _ _ (by omega)], fun k j hk _ => by rw [mst_k _ _ _ _ (by omega)], fun k j hk _ => by rw [mst_k _ _ _ _ (by omega)]⟩
      have F2 : Fe e M1 M2 := by rw [g2]; exact (Fq.thrown M1 0).fe
      have F3 : Fe e M2 M3 := by
        rw [g3]
        exact ⟨by rw [mst_k _ _ _ _ (by omega)], by rw [mst_k _ _ _ _ (by omega)], fun k hk => mst_k _ _ _ _ (by omega), fun k j hk hj => by rw [mst_a, if_neg hj, ite_self], fun k j hk _ => by rw [mst_k _ _ _ _ (by omega)], fun k j hk _ => by rw [mst_k _ _ _ _ (by omega)]⟩
      refine change_ok hI he (v := M (46 + 7 * e) 0) (L_setWage_ok (M1 := M1) ?_) (M2 := M3) ?_ (by rw [g3, mst_k _ _ _ _ (by omega), g2, thr]) ⟨n, tm, inn, E, B, EmpI.pn hE.1 (f2 _ (by omega) (by omega) (by omega)) (f2 _ (by omega) (by omega) (by omega)) (by rw [f2 5 (by omega) (by omega) (by omega)]) (fun k j hk _ => by rw [f2 k (by omega) (by omega) (by omega)]), EmpI.sp hE.2.1 (f2 _ (by omega) (by omega) (by omega)) (f2 _ (by omega) (by omega) (by omega)) (by rw [f2 8 (by omega) (by omega) (by omega)]) (fun j _ => by rw [f2 9 (by omega) (by omega) (by omega), f2 10 (by omega) (by omega) (by omega)]; exact ⟨rfl, rfl⟩), EmpI.sp hE.2.2.1 (f2 _ (by omega) (by omega) (by omega)) (f2 _ (by omega) (by omega) (by omega)) (by rw [f2 11 (by omega) (by omega) (by omega)]) (fun j _ => by rw [f2 12 (by omega) (by omega) (by omega), f2 13 (by omega) (by omega) (by omega)]; exact ⟨rfl, rfl⟩), by rw [o0, w0, if_pos rfl], by rw [o1, f2 3 (by omega) (by omega) (by omega)]; exact hE.2.2.2.2.1, by rw [mstL_0k G _ _ (by omega), mstL_0k G _ 4 (by omega)]; exact hE.2.2.2.2.2⟩ F1 (F2.tr F3)
      · unfold s_X6_setWage bnd
        rw [X6_find_ok hI.1 he, Option.bind_some, if_neg (not_not_intro rfl), k3', Option.bind_some, if_neg (not_not_intro rfl)]
        rw [g1]
      · show s_X7_setWage M1 (iI e) a2 = _
        unfold s_X7_setWage bnd
        rw [X7_isOne_ok (F1.1.trans hI.2.1) hI.1 he, Option.bind_some, if_neg (show ¬ (1 : Int32) = 0 by decide), k4', Option.bind_some, if_neg (show ¬ (1 : Int32) = 0 by decide), Option.bind_some]
        dsimp only
        rw [thr, if_pos (by decide), ← g2, mrd_i (by omega) (by omega), Option.bind_some, mwr_i (by omega) (by omega), Int.toNat_natCast, ← g3, Option.bind_some, g2, mst_k _ _ _ _ (show (2 : Nat) ≠ 1 by omega), g1, mst_k _ _ _ _ (by omega), hE.2.2.2.1]
    · have k3' : s_X6_requireWithin a2 1 100000 = some 1 := k3
      have k4' : s_X7_in a2 1 100000 = some 0 := k4
      refine query_no hI (c := 2) (v := 0) (M2 := mst M 1 0 2) (L_setWage_x1 (v := 0) (M1 := M) ?_) (by decide) ?_ (thr _ _) Fq.rf (Fq.thrown _ _)
      · unfold s_X6_setWage
        rw [X6_find_ok hI.1 he, Option.bind_some, if_neg (not_not_intro rfl), k3']
        rfl
      · show s_X7_setWage M (iI e) a2 = _
        unfold s_X7_setWage bnd
        rw [X7_isOne_ok hI.2.1 hI.1 he, Option.bind_some, if_neg (show ¬ (1 : Int32) = 0 by decide), k4', Option.bind_some, if_pos rfl, Option.bind_some]
        dsimp only
        rw [thr, if_neg (by decide)]
  · refine query_no hI (c := 1) (v := 0) (M2 := mst M 1 0 1) (L_setWage_x3 (v := 0) (M1 := M) ?_) (by decide) ?_ (thr _ _) Fq.rf (Fq.thrown _ _)
    · unfold s_X6_setWage; rw [h0]; rfl
    · show s_X7_setWage M a1 a2 = _
      unfold s_X7_setWage bnd
      rw [h1 M hI.2.1, Option.bind_some, if_pos rfl, Option.bind_some]
      dsimp only
      rw [thr, if_neg (by decide)]

/-! the questions, second part -/
theorem ge0 {k : Int} (h : 0 ≤ k) : ∃ m : Nat, k = (m : Int) := Int.eq_ofNat_of_zero_le h
theorem k15 : ∀ (hn : Nat) (M : Mem) (G : Mel), Inv hn M G → ∀ (a1 a2 : Int32), ∃ (M' : Mem) (G' : Mel), lw_15 M G hn a1 a2 = some (M', G') ∧ Inv hn M' G' := by
  intro hn M G hI a1 a2
  show ∃ (M' : Mem) (G' : Mel), lwq (s_L_shiftBegin M G hn a1 a2) (fun M => s_X7_shiftBegin M a1 a2) = some (M', G') ∧ Inv hn M' G'
  rcases find_no hI.1 a1 with ⟨e, he, rfl⟩ | ⟨h0, h1⟩
  · obtain ⟨n, tm, inn, E, B, hE⟩ := hI.2.2.2.1 e he
    obtain ⟨M1, c1, c2, c3, c4⟩ := X3_read hE.1.1 (by omega) hE.1.2.1
    have hF := Fq.of3 c4
    obtain ⟨M2, m1, m2, m3, m4⟩ := X7_looks_ok (hF.2.1.trans hI.2.1) hI.1 he (hE.fq (G' := G) hF (fun _ _ => rfl)) rfl
    have hSl := shL_len n tm inn n
    have hn40 := hE.1.1.1
    rcases nmbr c2 a2 with ⟨k, k1, rfl, k2, k3⟩ | ⟨k2, k3⟩
    · refine query_ok hI (v := iI ((gx (shL n tm inn n) (0, 0) k).1 : Nat)) (L_shiftBegin_ok (M1 := M1) ?_) ?_ m3 hF m4
      · unfold s_X6_shiftBegin
        rw [X6_find_ok hI.1 he, Option.bind_some, if_neg (not_not_intro rfl)]
        dsimp only
        rw [c1, Option.bind_some, k2, Option.bind_some, if_neg (not_not_intro rfl), Tl.get0 c2 k1]
        rfl
      · show s_X7_shiftBegin M1 (iI e) (iI k) = _
        unfold s_X7_shiftBegin
        rw [m1, Option.bind_some, if_neg (show ¬ (1 : Int32) = 0 by decide)]
        dsimp only
        rw [m2.1.1, k3, Option.bind_some, if_neg (show ¬ (1 : Int32) = 0 by decide), Option.bind_some, if_neg (show ¬ (1 : Int32) = 0 by decide), mrd_i (by omega) (by omega), Int.toNat_natCast, (m2.1.2.2 k k1).1]
        rfl
    · refine query_no hI (c := 1) (v := 0) (M2 := mst M2 1 0 1) (L_shiftBegin_x3 (v := 0) (M1 := M1) ?_) (by decide) ?_ (thr _ _) hF (m4.tr (Fq.thrown _ _))
      · unfold s_X6_shiftBegin
        rw [X6_find_ok hI.1 he, Option.bind_some, if_neg (not_not_intro rfl)]
        dsimp only
        rw [c1, Option.bind_some, k2]
        rfl
      · show s_X7_shiftBegin M1 (iI e) a2 = _
        unfold s_X7_shiftBegin
        rw [m1, Option.bind_some, if_neg (show ¬ (1 : Int32) = 0 by decide)]
        dsimp only
        rw [m2.1.1, k3, Option.bind_some, if_pos rfl, Option.bind_some, if_pos rfl]
        rfl
  · refine query_no hI (c := 1) (v := 0) (M2 := mst (mst M 1 0 1) 1 0 1) (L_shiftBegin_x3 (v := 0) (M1 := M) ?_) (by decide) ?_ (thr _ _) Fq.rf ((Fq.thrown _ _).tr (Fq.thrown _ _))
    · unfold s_X6_shiftBegin; rw [h0]; rfl
    · show s_X7_shiftBegin M a1 a2 = _
      unfold s_X7_shiftBegin
      rw [X7_looks_no (h1 M hI.2.1), Option.bind_some, if_pos rfl, Option.bind_some, if_pos rfl]
      rfl
theorem k16 : ∀ (hn : Nat) (M : Mem) (G : Mel), Inv hn M G → ∀ (a1 a2 : Int32), ∃ (M' : Mem) (G' : Mel), lw_16 M G hn a1 a2 = some (M', G') ∧ Inv hn M' G' := by
  intro hn M G hI a1 a2
  show ∃ (M' : Mem) (G' : Mel), lwq (s_L_shiftEnd M G hn a1 a2) (fun M => s_X7_shiftEnd M a1 a2) = some (M', G') ∧ Inv hn M' G'
  rcases find_no hI.1 a1 with ⟨e, he, rfl⟩ | ⟨h0, h1⟩
  · obtain ⟨n, tm, inn, E, B, hE⟩ := hI.2.2.2.1 e he
    obtain ⟨M1, c1, c2, c3, c4⟩ := X3_read hE.1.1 (by omega) hE.1.2.1
    have hF := Fq.of3 c4
    obtain ⟨M2, m1, m2, m3, m4⟩ := X7_looks_ok (hF.2.1.trans hI.2.1) hI.1 he (hE.fq (G' := G) hF (fun _ _ => rfl)) rfl
    have hSl := shL_len n tm inn n
    have hn40 := hE.1.1.1
    rcases nmbr c2 a2 with ⟨k, k1, rfl, k2, k3⟩ | ⟨k2, k3⟩
    · refine query_ok hI (v := iI ((gx (shL n tm inn n) (0, 0) k).2 : Nat)) (L_shiftEnd_ok (M1 := M1) ?_) ?_ m3 hF m4
      · unfold s_X6_shiftEnd
        rw [X6_find_ok hI.1 he, Option.bind_some, if_neg (not_not_intro rfl)]
        dsimp only
        rw [c1, Option.bind_some, k2, Option.bind_some, if_neg (not_not_intro rfl), Tl.get1 c2 k1]
        rfl
      · show s_X7_shiftEnd M1 (iI e) (iI k) = _
        unfold s_X7_shiftEnd
        rw [m1, Option.bind_some, if_neg (show ¬ (1 : Int32) = 0 by decide)]
        dsimp only
        rw [m2.1.1, k3, Option.bind_some, if_neg (show ¬ (1 : Int32) = 0 by decide), Option.bind_some, if_neg (show ¬ (1 : Int32) = 0 by decide), mrd_i (by omega) (by omega), Int.toNat_natCast, (m2.1.2.2 k k1).2]
        rfl
    · refine query_no hI (c := 1) (v := 0) (M2 := mst M2 1 0 1) (L_shiftEnd_x3 (v := 0) (M1 := M1) ?_) (by decide) ?_ (thr _ _) hF (m4.tr (Fq.thrown _ _))
      · unfold s_X6_shiftEnd
        rw [X6_find_ok hI.1 he, Option.bind_some, if_neg (not_not_intro rfl)]
        dsimp only
        rw [c1, Option.bind_some, k2]
        rfl
      · show s_X7_shiftEnd M1 (iI e) a2 = _
        unfold s_X7_shiftEnd
        rw [m1, Option.bind_some, if_neg (show ¬ (1 : Int32) = 0 by decide)]
        dsimp only
        rw [m2.1.1, k3, Option.bind_some, if_pos rfl, Option.bind_some, if_pos rfl]
        rfl
  · refine query_no hI (c := 1) (v := 0) (M2 := mst (mst M 1 0 1) 1 0 1) (L_shiftEnd_x3 (v := 0) (M1 := M) ?_) (by decide) ?_ (thr _ _) Fq.rf ((Fq.thrown _ _).tr (Fq.thrown _ _))
    · unfold s_X6_shiftEnd; rw [h0]; rfl
    · show s_X7_shiftEnd M a1 a2 = _
      unfold s_X7_shiftEnd
      rw [X7_looks_no (h1 M hI.2.1), Option.bind_some, if_pos rfl, Option.bind_some, if_pos rfl]
      rfl
theorem k18 : ∀ (hn : Nat) (M : Mem) (G : Mel), Inv hn M G → ∀ (a1 a2 : Int32), ∃ (M' : Mem) (G' : Mel), lw_18 M G hn a1 a2 = some (M', G') ∧ Inv hn M' G' := by
  intro hn M G hI a1 a2
  show ∃ (M' : Mem) (G' : Mel), lwq (s_L_coverage M G hn a1 a2) (fun M => s_X7_coverage M a1 a2) = some (M', G') ∧ Inv hn M' G'
  rcases find_no hI.1 a1 with ⟨e, he, rfl⟩ | ⟨h0, h1⟩
  · obtain ⟨n, tm, inn, E, B, hE⟩ := hI.2.2.2.1 e he
    rcases wthn a2 (a := 0) (b := 10079) (by omega) (by omega) with ⟨k, k1, k2, rfl, k3, k4⟩ | ⟨k3, k4⟩
    · obtain ⟨m, rfl⟩ := ge0 k1
      have k3' : s_X6_requireWithin (iI (m : Int)) 0 10079 = some 0 := k3
      have k4' : s_X7_in (iI (m : Int)) 0 10079 = some 1 := k4
      obtain ⟨M1, c1, c2, c3, c4⟩ := X3_read hE.1.1 (by omega) hE.1.2.1
      have hF := Fq.of3 c4
      have hE1 := hE.fq (G' := G) hF (fun _ _ => rfl)
      obtain ⟨M2, m1, m2, m3, m4⟩ := X7_looks_ok (hF.2.1.trans hI.2.1) hI.1 he hE1 rfl
      have hS := shL_ok hE.1.1 inn n (Nat.le_refl n)
      refine query_ok hI (v := iI (cvr (shL n tm inn n) E m)) (M2 := mst M2 1 0 0) (L_coverage_ok (M1 := M1) ?_) ?_ (thr _ _) hF (m4.tr (Fq.thrown _ _))
      · unfold s_X6_coverage
        rw [X6_find_ok hI.1 he, Option.bind_some, if_neg (not_not_intro rfl), k3', Option.bind_some, if_neg (not_not_intro rfl)]
        dsimp only
        rw [c1, Option.bind_some, X6_cc c2 (by omega) (fun q hq => by have := hS q hq; omega), Option.bind_some, X6_cc hE1.2.1.2.1 (by omega) (fun q hq => by have := hE.2.1.1.2 q hq; omega), Option.bind_some, iI_add]
        rfl
      · show s_X7_coverage M1 (iI e) (iI m) = _
        unfold s_X7_coverage bnd
        rw [m1, Option.bind_some, if_neg (show ¬ (1 : Int32) = 0 by decide), k4', Option.bind_some, if_neg (show ¬ (1 : Int32) = 0 by decide), Option.bind_some]
        dsimp only
        rw [m3, thr, if_pos (by decide), mst_k _ _ _ _ (by omega), mrd_i (by omega) (by omega), Int.toNat_natCast, m2.2.1 m (by omega)]
        rfl
    · have k3' : s_X6_requireWithin a2 0 10079 = some 1 := k3
      have k4' : s_X7_in a2 0 10079 = some 0 := k4
      obtain ⟨M2, m1, m2, m3, m4⟩ := X7_looks_ok hI.2.1 hI.1 he hE rfl
      refine query_no hI (c := 2) (v := 0) (M2 := mst M2 1 0 2) (L_coverage_x1 (v := 0) (M1 := M) ?_) (by decide) ?_ (thr _ _) Fq.rf (m4.tr (Fq.thrown _ _))
      · unfold s_X6_coverage
        rw [X6_find_ok hI.1 he, Option.bind_some, if_neg (not_not_intro rfl), k3']
        rfl
      · show s_X7_coverage M (iI e) a2 = _
        unfold s_X7_coverage bnd
        rw [m1, Option.bind_some, if_neg (show ¬ (1 : Int32) = 0 by decide), k4', Option.bind_some, if_pos rfl, Option.bind_some]
        dsimp only
        rw [thr, if_neg (by decide)]
  · refine query_no hI (c := 1) (v := 0) (M2 := mst (mst M 1 0 1) 1 0 1) (L_coverage_x3 (v := 0) (M1 := M) ?_) (by decide) ?_ (thr _ _) Fq.rf ((Fq.thrown _ _).tr (Fq.thrown _ _))
    · unfold s_X6_coverage; rw [h0]; rfl
    · show s_X7_coverage M a1 a2 = _
      unfold s_X7_coverage bnd
      rw [X7_looks_no (h1 M hI.2.1), Option.bind_some, if_pos rfl, Option.bind_some]
      dsimp only
      rw [thr, thr, if_neg (by decide)]
theorem k20 : ∀ (hn : Nat) (M : Mem) (G : Mel), Inv hn M G → ∀ (a1 a2 : Int32), ∃ (M' : Mem) (G' : Mel), lw_20 M G hn a1 a2 = some (M', G') ∧ Inv hn M' G' := by
  intro hn M G hI a1 a2
  show ∃ (M' : Mem) (G' : Mel), lwq (s_L_workedOn M G hn a1 a2) (fun M => s_X7_workedOn M a1 a2) = some (M', G') ∧ Inv hn M' G'
  rcases find_no hI.1 a1 with ⟨e, he, rfl⟩ | ⟨h0, h1⟩
  · obtain ⟨n, tm, inn, E, B, hE⟩ := hI.2.2.2.1 e he
    rcases wthn a2 (a := 0) (b := 6) (by omega) (by omega) with ⟨k, k1, k2, rfl, k3, k4⟩ | ⟨k3, k4⟩
    · obtain ⟨m, rfl⟩ := ge0 k1
      have k3' : s_X6_requireWithin (iI (m : Int)) 0 6 = some 0 := k3
      have k4' : s_X7_in (iI (m : Int)) 0 6 = some 1 := k4
      obtain ⟨M1, c1, c2, c3, c4, c5, c6, c7⟩ := X5_read (e := 46 + 7 * e) (by omega) hE.1.1 hE.1.2.1 hE.2.1.2.1 hE.2.2.1.2.1 hE.2.1.1 hE.2.2.1.1
      have hF := Fq.of5 c7
      have hE1 := hE.fq (G' := G) hF (fun _ _ => rfl)
      obtain ⟨M2, m1, m2, m3, m4⟩ := X7_looks_ok (hF.2.1.trans hI.2.1) hI.1 he hE1 rfl
      refine query_ok hI (v := iI (ct (wk (cvr (shL n tm inn n) E) (brk B)) (m * 1440) ((m + 1) * 1440) 10080 : Nat)) (M2 := mst M2 1 0 0) (L_workedOn_ok (M1 := M1) ?_) ?_ (thr _ _) hF (m4.tr (Fq.thrown _ _))
      · unfold s_X6_workedOn
        rw [X6_find_ok hI.1 he, Option.bind_some, if_neg (not_not_intro rfl), k3', Option.bind_some, if_neg (not_not_intro rfl)]
        dsimp only
        rw [c1, Option.bind_some, X6_mod c4 (by omega) (rr_bnd _), Option.bind_some, rr_cls]
      · show s_X7_workedOn M1 (iI e) (iI m) = _
        unfold s_X7_workedOn bnd
        rw [m1, Option.bind_some, if_neg (show ¬ (1 : Int32) = 0 by decide), k4', Option.bind_some, if_neg (show ¬ (1 : Int32) = 0 by decide), Option.bind_some]
        dsimp only
        rw [m3, thr, if_pos (by decide), mst_k _ _ _ _ (by omega), mrd_i (by omega) (by omega), Int.toNat_natCast, m2.2.2.2.2.2.1 m (by omega)]
        rfl
    · have k3' : s_X6_requireWithin a2 0 6 = some 1 := k3
      have k4' : s_X7_in a2 0 6 = some 0 := k4
      obtain ⟨M2, m1, m2, m3, m4⟩ := X7_looks_ok hI.2.1 hI.1 he hE rfl
      refine query_no hI (c := 2) (v := 0) (M2 := mst M2 1 0 2) (L_workedOn_x1 (v := 0) (M1 := M) ?_) (by decide) ?_ (thr _ _) Fq.rf (m4.tr (Fq.thrown _ _))
      · unfold s_X6_workedOn
        rw [X6_find_ok hI.1 he, Option.bind_some, if_neg (not_not_intro rfl), k3']
        rfl
      · show s_X7_workedOn M (iI e) a2 = _
        unfold s_X7_workedOn bnd
        rw [m1, Option.bind_some, if_neg (show ¬ (1 : Int32) = 0 by decide), k4', Option.bind_some, if_pos rfl, Option.bind_some]
        dsimp only
        rw [thr, if_neg (by decide)]
  · refine query_no hI (c := 1) (v := 0) (M2 := mst (mst M 1 0 1) 1 0 1) (L_workedOn_x3 (v := 0) (M1 := M) ?_) (by decide) ?_ (thr _ _) Fq.rf ((Fq.thrown _ _).tr (Fq.thrown _ _))
    · unfold s_X6_workedOn; rw [h0]; rfl
    · show s_X7_workedOn M a1 a2 = _
      unfold s_X7_workedOn bnd
      rw [X7_looks_no (h1 M hI.2.1), Option.bind_some, if_pos rfl, Option.bind_some]
      dsimp only
      rw [thr, thr, if_neg (by decide)]
theorem k23 : ∀ (hn : Nat) (M : Mem) (G : Mel), Inv hn M G → ∀ (a1 a2 : Int32), ∃ (M' : Mem) (G' : Mel), lw_23 M G hn a1 a2 = some (M', G') ∧ Inv hn M' G' := by
  intro hn M G hI a1 a2
  show ∃ (M' : Mem) (G' : Mel), lwq (s_L_category M G hn a1 a2) (fun M => s_X7_category M a1 a2) = some (M', G') ∧ Inv hn M' G'
  rcases find_no hI.1 a1 with ⟨e, he, rfl⟩ | ⟨h0, h1⟩
  · obtain ⟨n, tm, inn, E, B, hE⟩ := hI.2.2.2.1 e he
    rcases wthn a2 (a := 0) (b := 10079) (by omega) (by omega) with ⟨k, k1, k2, rfl, k3, k4⟩ | ⟨k3, k4⟩
    · obtain ⟨m, rfl⟩ := ge0 k1
      have k3' : s_X6_requireWithin (iI (m : Int)) 0 10079 = some 0 := k3
      have k4' : s_X7_in (iI (m : Int)) 0 10079 = some 1 := k4
      obtain ⟨w, hw⟩ : ∃ w, w = wk (cvr (shL n tm inn n) E) (brk B) := ⟨_, rfl⟩
      obtain ⟨M1, c1, c2, c3⟩ := X1_read (e := 46 + 7 * e) (by omega) hE.1.1 hE.1.2.1 hE.2.1.2.1 hE.2.2.1.2.1 hE.2.1.1 hE.2.2.1.1 hw
      have hF := Fq.of1 c3
      have hE1 := hE.fq (G' := G) hF (fun _ _ => rfl)
      obtain ⟨M2, m1, m2, m3, m4⟩ := X7_looks_ok (hF.2.1.trans hI.2.1) hI.1 he hE1 hw
      refine query_ok hI (v := iI (lc m (qq (pd w) (flg (pd w) 6) 10080))) (M2 := mst M2 1 0 0) (L_category_ok (M1 := M1) ?_) ?_ (thr _ _) hF (m4.tr (Fq.thrown _ _))
      · unfold s_X6_category
        rw [X6_find_ok hI.1 he, Option.bind_some, if_neg (not_not_intro rfl), k3', Option.bind_some, if_neg (not_not_intro rfl)]
        dsimp only
        rw [c1, Option.bind_some, X1_catAt c2 (by omega) (fun q hq => by have := qq_bnd _ _ q hq; omega), Option.bind_some]
      · show s_X7_category M1 (iI e) (iI m) = _
        unfold s_X7_category bnd
        rw [m1, Option.bind_some, if_neg (show ¬ (1 : Int32) = 0 by decide), k4', Option.bind_some, if_neg (show ¬ (1 : Int32) = 0 by decide), Option.bind_some]
        dsimp only
        rw [m3, thr, if_pos (by decide), mst_k _ _ _ _ (by omega), mrd_i (by omega) (by omega), Int.toNat_natCast, m2.2.2.2.2.2.2.1 m (by omega), qq_lc, Option.bind_some]
        by_cases c : pd w m = true
        · rw [if_pos c, if_pos ⟨by omega, c⟩]
        · rw [if_neg c, if_neg (fun z => c z.2)]
    · have k3' : s_X6_requireWithin a2 0 10079 = some 1 := k3
      have k4' : s_X7_in a2 0 10079 = some 0 := k4
      obtain ⟨M2, m1, m2, m3, m4⟩ := X7_looks_ok hI.2.1 hI.1 he hE rfl
      refine query_no hI (c := 2) (v := 0) (M2 := mst M2 1 0 2) (L_category_x1 (v := 0) (M1 := M) ?_) (by decide) ?_ (thr _ _) Fq.rf (m4.tr (Fq.thrown _ _))
      · unfold s_X6_category
        rw [X6_find_ok hI.1 he, Option.bind_some, if_neg (not_not_intro rfl), k3']
        rfl
      · show s_X7_category M (iI e) a2 = _
        unfold s_X7_category bnd
        rw [m1, Option.bind_some, if_neg (show ¬ (1 : Int32) = 0 by decide), k4', Option.bind_some, if_pos rfl, Option.bind_some]
        dsimp only
        rw [thr, if_neg (by decide)]
  · refine query_no hI (c := 1) (v := 0) (M2 := mst (mst M 1 0 1) 1 0 1) (L_category_x3 (v := 0) (M1 := M) ?_) (by decide) ?_ (thr _ _) Fq.rf ((Fq.thrown _ _).tr (Fq.thrown _ _))
    · unfold s_X6_category; rw [h0]; rfl
    · show s_X7_category M a1 a2 = _
      unfold s_X7_category bnd
      rw [X7_looks_no (h1 M hI.2.1), Option.bind_some, if_pos rfl, Option.bind_some]
      dsimp only
      rw [thr, thr, if_neg (by decide)]

/-! the questions -/
theorem thr (M : Mem) (v : Int32) : mst M 1 0 v 1 0 = v := by rw [mst_a, if_pos rfl, if_pos rfl]
theorem k14 : ∀ (hn : Nat) (M : Mem) (G : Mel), Inv hn M G → ∀ (a1 : Int32), ∃ (M' : Mem) (G' : Mel), lw_14 M G hn a1 = some (M', G') ∧ Inv hn M' G' := by
  intro hn M G hI a1
  show ∃ (M' : Mem) (G' : Mel), lwq (s_L_shifts M G hn a1) (fun M => s_X7_shifts M a1) = some (M', G') ∧ Inv hn M' G'
  rcases find_no hI.1 a1 with ⟨e, he, rfl⟩ | ⟨h0, h1⟩
  · obtain ⟨n, tm, inn, E, B, hE⟩ := hI.2.2.2.1 e he
    obtain ⟨M1, c1, c2, c3, c4⟩ := X3_read hE.1.1 (by omega) hE.1.2.1
    have hF := Fq.of3 c4
    obtain ⟨M2, m1, m2, m3, m4⟩ := X7_looks_ok (hF.2.1.trans hI.2.1) hI.1 he (hE.fq (G' := G) hF (fun _ _ => rfl)) rfl
    refine query_ok hI (v := iI ((shL n tm inn n).length : Int)) (L_shifts_ok (M1 := M1) ?_) ?_ m3 hF m4
    · unfold s_X6_shifts
      rw [X6_find_ok hI.1 he, Option.bind_some, if_neg (not_not_intro rfl)]
      dsimp only
      rw [c1, Option.bind_some, X4_sz c2]
      rfl
    · show s_X7_shifts M1 (iI e) = _
      unfold s_X7_shifts
      rw [m1, Option.bind_some, if_neg (show ¬ (1 : Int32) = 0 by decide)]
      dsimp only
      rw [m2.1.1]
  · refine query_no hI (c := 1) (v := 0) (M2 := mst M 1 0 1) (L_shifts_x3 (v := 0) (M1 := M) ?_) (by decide) ?_ (thr _ _) Fq.rf (Fq.thrown _ _)
    · unfold s_X6_shifts; rw [h0]; rfl
    · show s_X7_shifts M a1 = _
      unfold s_X7_shifts
      rw [X7_looks_no (h1 M hI.2.1), Option.bind_some, if_pos rfl]
theorem k17 : ∀ (hn : Nat) (M : Mem) (G : Mel), Inv hn M G → ∀ (a1 : Int32), ∃ (M' : Mem) (G' : Mel), lw_17 M G hn a1 = some (M', G') ∧ Inv hn M' G' := by
  intro hn M G hI a1
  show ∃ (M' : Mem) (G' : Mel), lwq (s_L_repairedShifts M G hn a1) (fun M => s_X7_repairedShifts M a1) = some (M', G') ∧ Inv hn M' G'
  rcases find_no hI.1 a1 with ⟨e, he, rfl⟩ | ⟨h0, h1⟩
  · obtain ⟨n, tm, inn, E, B, hE⟩ := hI.2.2.2.1 e he
    obtain ⟨M1, c1, c2, c3, c4⟩ := X3_read hE.1.1 (by omega) hE.1.2.1
    have hF := Fq.of3 c4
    obtain ⟨M2, m1, m2, m3, m4⟩ := X7_looks_ok (hF.2.1.trans hI.2.1) hI.1 he (hE.fq (G' := G) hF (fun _ _ => rfl)) rfl
    refine query_ok hI (v := iI (shR n inn n : Nat)) (L_repairedShifts_ok (M1 := M1) ?_) ?_ m3 hF m4
    · unfold s_X6_repairedShifts
      rw [X6_find_ok hI.1 he, Option.bind_some, if_neg (not_not_intro rfl)]
      dsimp only
      rw [c1, Option.bind_some, c3]
    · show s_X7_repairedShifts M1 (iI e) = _
      unfold s_X7_repairedShifts
      rw [m1, Option.bind_some, if_neg (show ¬ (1 : Int32) = 0 by decide)]
      dsimp only
      rw [m2.1.2.1]
  · refine query_no hI (c := 1) (v := 0) (M2 := mst M 1 0 1) (L_repairedShifts_x3 (v := 0) (M1 := M) ?_) (by decide) ?_ (thr _ _) Fq.rf (Fq.thrown _ _)
    · unfold s_X6_repairedShifts; rw [h0]; rfl
    · show s_X7_repairedShifts M a1 = _
      unfold s_X7_repairedShifts
      rw [X7_looks_no (h1 M hI.2.1), Option.bind_some, if_pos rfl]
theorem k19 : ∀ (hn : Nat) (M : Mem) (G : Mel), Inv hn M G → ∀ (a1 : Int32), ∃ (M' : Mem) (G' : Mel), lw_19 M G hn a1 = some (M', G') ∧ Inv hn M' G' := by
  intro hn M G hI a1
  show ∃ (M' : Mem) (G' : Mel), lwq (s_L_overlap M G hn a1) (fun M => s_X7_overlap M a1) = some (M', G') ∧ Inv hn M' G'
  rcases find_no hI.1 a1 with ⟨e, he, rfl⟩ | ⟨h0, h1⟩
  · obtain ⟨n, tm, inn, E, B, hE⟩ := hI.2.2.2.1 e he
    obtain ⟨M1, c1, c2, c3, c4, c5, c6, c7⟩ := X5_read (e := 46 + 7 * e) (by omega) hE.1.1 hE.1.2.1 hE.2.1.2.1 hE.2.2.1.2.1 hE.2.1.1 hE.2.2.1.1
    have hF := Fq.of5 c7
    obtain ⟨M2, m1, m2, m3, m4⟩ := X7_looks_ok (hF.2.1.trans hI.2.1) hI.1 he (hE.fq (G' := G) hF (fun _ _ => rfl)) rfl
    refine query_ok hI (v := iI (db (cvr (shL n tm inn n) E) 10080 : Nat)) (L_overlap_ok (M1 := M1) ?_) ?_ m3 hF m4
    · unfold s_X6_overlap
      rw [X6_find_ok hI.1 he, Option.bind_some, if_neg (not_not_intro rfl)]
      dsimp only
      rw [c1, Option.bind_some, c5]
    · show s_X7_overlap M1 (iI e) = _
      unfold s_X7_overlap
      rw [m1, Option.bind_some, if_neg (show ¬ (1 : Int32) = 0 by decide)]
      dsimp only
      rw [m2.2.2.1]
  · refine query_no hI (c := 1) (v := 0) (M2 := mst M 1 0 1) (L_overlap_x3 (v := 0) (M1 := M) ?_) (by decide) ?_ (thr _ _) Fq.rf (Fq.thrown _ _)
    · unfold s_X6_overlap; rw [h0]; rfl
    · show s_X7_overlap M a1 = _
      unfold s_X7_overlap
      rw [X7_looks_no (h1 M hI.2.1), Option.bind_some, if_pos rfl]
theorem k21 : ∀ (hn : Nat) (M : Mem) (G : Mel), Inv hn M G → ∀ (a1 : Int32), ∃ (M' : Mem) (G' : Mel), lw_21 M G hn a1 = some (M', G') ∧ Inv hn M' G' := by
  intro hn M G hI a1
  show ∃ (M' : Mem) (G' : Mel), lwq (s_L_stretches M G hn a1) (fun M => s_X7_stretches M a1) = some (M', G') ∧ Inv hn M' G'
  rcases find_no hI.1 a1 with ⟨e, he, rfl⟩ | ⟨h0, h1⟩
  · obtain ⟨n, tm, inn, E, B, hE⟩ := hI.2.2.2.1 e he
    obtain ⟨M1, c1, c2, c3, c4, c5, c6, c7⟩ := X5_read (e := 46 + 7 * e) (by omega) hE.1.1 hE.1.2.1 hE.2.1.2.1 hE.2.2.1.2.1 hE.2.1.1 hE.2.2.1.1
    have hF := Fq.of5 c7
    obtain ⟨M2, m1, m2, m3, m4⟩ := X7_looks_ok (hF.2.1.trans hI.2.1) hI.1 he (hE.fq (G' := G) hF (fun _ _ => rfl)) rfl
    refine query_ok hI (v := iI ((rr (wk (cvr (shL n tm inn n) E) (brk B)) 10080).length : Nat)) (L_stretches_ok (M1 := M1) ?_) ?_ m3 hF m4
    · unfold s_X6_stretches
      rw [X6_find_ok hI.1 he, Option.bind_some, if_neg (not_not_intro rfl)]
      dsimp only
      rw [c1, Option.bind_some, X4_sz c4]
      rfl
    · show s_X7_stretches M1 (iI e) = _
      unfold s_X7_stretches
      rw [m1, Option.bind_some, if_neg (show ¬ (1 : Int32) = 0 by decide)]
      dsimp only
      rw [m2.2.2.2.1]
  · refine query_no hI (c := 1) (v := 0) (M2 := mst M 1 0 1) (L_stretches_x3 (v := 0) (M1 := M) ?_) (by decide) ?_ (thr _ _) Fq.rf (Fq.thrown _ _)
    · unfold s_X6_stretches; rw [h0]; rfl
    · show s_X7_stretches M a1 = _
      unfold s_X7_stretches
      rw [X7_looks_no (h1 M hI.2.1), Option.bind_some, if_pos rfl]
theorem rr_bnd (w : Nat → Bool) : ∀ q ∈ rr w 10080, q.1 ≤ 10080 ∧ q.2 ≤ 10080 := (rr_ok w 10080).bnd (Nat.le_refl _)
theorem k22 : ∀ (hn : Nat) (M : Mem) (G : Mel), Inv hn M G → ∀ (a1 : Int32), ∃ (M' : Mem) (G' : Mel), lw_22 M G hn a1 = some (M', G') ∧ Inv hn M' G' := by
  intro hn M G hI a1
  show ∃ (M' : Mem) (G' : Mel), lwq (s_L_longestStretch M G hn a1) (fun M => s_X7_longestStretch M a1) = some (M', G') ∧ Inv hn M' G'
  rcases find_no hI.1 a1 with ⟨e, he, rfl⟩ | ⟨h0, h1⟩
  · obtain ⟨n, tm, inn, E, B, hE⟩ := hI.2.2.2.1 e he
    obtain ⟨M1, c1, c2, c3, c4, c5, c6, c7⟩ := X5_read (e := 46 + 7 * e) (by omega) hE.1.1 hE.1.2.1 hE.2.1.2.1 hE.2.2.1.2.1 hE.2.1.1 hE.2.2.1.1
    have hF := Fq.of5 c7
    obtain ⟨M2, m1, m2, m3, m4⟩ := X7_looks_ok (hF.2.1.trans hI.2.1) hI.1 he (hE.fq (G' := G) hF (fun _ _ => rfl)) rfl
    refine query_ok hI (v := iI (lg (rr (wk (cvr (shL n tm inn n) E) (brk B)) 10080) : Nat)) (L_longestStretch_ok (M1 := M1) ?_) ?_ m3 hF m4
    · unfold s_X6_longestStretch
      rw [X6_find_ok hI.1 he, Option.bind_some, if_neg (not_not_intro rfl)]
      dsimp only
      rw [c1, Option.bind_some, X6_lg c4 (rr_bnd _), Option.bind_some]
    · show s_X7_longestStretch M1 (iI e) = _
      unfold s_X7_longestStretch
      rw [m1, Option.bind_some, if_neg (show ¬ (1 : Int32) = 0 by decide)]
      dsimp only
      rw [m2.2.2.2.2.1]
  · refine query_no hI (c := 1) (v := 0) (M2 := mst M 1 0 1) (L_longestStretch_x3 (v := 0) (M1 := M) ?_) (by decide) ?_ (thr _ _) Fq.rf (Fq.thrown _ _)
    · unfold s_X6_longestStretch; rw [h0]; rfl
    · show s_X7_longestStretch M a1 = _
      unfold s_X7_longestStretch
      rw [X7_looks_no (h1 M hI.2.1), Option.bind_some, if_pos rfl]

/-! the questions, third part -/
theorem told_ok {M M2 : Mem} {q e d c : Nat} {v : Int32} (hq : q ≠ 1) (hd : d < 7) (hc : c < 3) (m1 : s_X7_looks M (iI e) = some (1, M2)) (m3 : M2 1 0 = 0) (k2 : s_X7_in (iI (d : Int)) 0 6 = some 1) (k3 : s_X7_in (iI (c : Int)) 0 2 = some 1) (hV : M2 q (3 * d + c) = v) : s_X7_told M (iI e) (iI d) (iI c) q = some (v, mst M2 1 0 0) := by
  have eix : 3 * iI (d : Int) + iI (c : Int) = iI ((3 * d + c : Nat) : Int) := by
    rw [li_3, iI_mul, iI_add]; exact congrArg iI (by omega)
  unfold s_X7_told bnd
  rw [m1, Option.bind_some, if_neg (show ¬ (1 : Int32) = 0 by decide), k2, Option.bind_some, if_neg (show ¬ (1 : Int32) = 0 by decide), k3, Option.bind_some, if_neg (show ¬ (1 : Int32) = 0 by decide), Option.bind_some]
  dsimp only
  rw [m3, thr, if_pos (by decide), mst_k _ _ _ _ hq, eix, mrd_i (by omega) (by omega), Int.toNat_natCast, hV, Option.bind_some]
theorem told_x2 {M M2 : Mem} {q e : Nat} {x2 x3 : Int32} (m1 : s_X7_looks M (iI e) = some (1, M2)) (h : s_X7_in x2 0 6 = some 0 ∨ (s_X7_in x2 0 6 = some 1 ∧ s_X7_in x3 0 2 = some 0)) : s_X7_told M (iI e) x2 x3 q = some (0, mst M2 1 0 2) := by
  unfold s_X7_told bnd
  rw [m1, Option.bind_some, if_neg (show ¬ (1 : Int32) = 0 by decide)]
  rcases h with h | ⟨h, h'⟩
  · rw [h, Option.bind_some, if_pos rfl, Option.bind_some]
    dsimp only
    rw [thr, if_neg (by decide)]
  · rw [h, Option.bind_some, if_neg (show ¬ (1 : Int32) = 0 by decide), h', Option.bind_some, if_pos rfl, Option.bind_some]
    dsimp only
    rw [thr, if_neg (by decide)]
theorem told_x1 {M : Mem} {q : Nat} {x1 x2 x3 : Int32} (h : s_X7_isOne M x1 = some 0) : s_X7_told M x1 x2 x3 q = some (0, mst (mst M 1 0 1) 1 0 1) := by
  unfold s_X7_told bnd
  rw [X7_looks_no h, Option.bind_some, if_pos rfl, Option.bind_some]
  dsimp only
  rw [thr, thr, if_neg (by decide)]
theorem k24 : ∀ (hn : Nat) (M : Mem) (G : Mel), Inv hn M G → ∀ (a1 a2 a3 : Int32), ∃ (M' : Mem) (G' : Mel), lw_24 M G hn a1 a2 a3 = some (M', G') ∧ Inv hn M' G' := by
  intro hn M G hI a1 a2 a3
  show ∃ (M' : Mem) (G' : Mel), lwq (s_L_minutes M G hn a1 a2 a3) (fun M => s_X7_minutes M a1 a2 a3) = some (M', G') ∧ Inv hn M' G'
  rcases find_no hI.1 a1 with ⟨e, he, rfl⟩ | ⟨h0, h1⟩
  · obtain ⟨n, tm, inn, E, B, hE⟩ := hI.2.2.2.1 e he
    have bad : ∀ k4 : s_X6_minutes M hn (iI e) a2 a3 = some (1, 0, M), s_X7_in a2 0 6 = some 0 ∨ (s_X7_in a2 0 6 = some 1 ∧ s_X7_in a3 0 2 = some 0) → ∃ (M' : Mem) (G' : Mel), lwq (s_L_minutes M G hn (iI e) a2 a3) (fun M => s_X7_minutes M (iI e) a2 a3) = some (M', G') ∧ Inv hn M' G' := by
      intro k4 k5
      obtain ⟨M2, m1, m2, m3, m4⟩ := X7_looks_ok hI.2.1 hI.1 he hE rfl
      refine query_no hI (c := 2) (v := 0) (M2 := mst M2 1 0 2) (L_minutes_x1 k4) (by decide) ?_ (thr _ _) Fq.rf (m4.tr (Fq.thrown _ _))
      show s_X7_minutes M (iI e) a2 a3 = _
      unfold s_X7_minutes
      rw [told_x2 m1 k5]
      rfl
    rcases wthn a2 (a := 0) (b := 6) (by omega) (by omega) with ⟨k, k1, k2, hk, k3, k4⟩ | ⟨k3, k4⟩
    · obtain ⟨d, rfl⟩ := ge0 k1
      have k3' : s_X6_requireWithin a2 0 6 = some 0 := k3
      have k4' : s_X7_in a2 0 6 = some 1 := k4
      rcases wthn a3 (a := 0) (b := 2) (by omega) (by omega) with ⟨j, j1, j2, hj, j3, j4⟩ | ⟨j3, j4⟩
      · obtain ⟨c, rfl⟩ := ge0 j1
        have j3' : s_X6_requireWithin a3 0 2 = some 0 := j3
        have j4' : s_X7_in a3 0 2 = some 1 := j4
        subst hk hj
        obtain ⟨w, hw⟩ : ∃ w, w = wk (cvr (shL n tm inn n) E) (brk B) := ⟨_, rfl⟩
        obtain ⟨M1, c1, c2, c3⟩ := X1_read (e := 46 + 7 * e) (by omega) hE.1.1 hE.1.2.1 hE.2.1.2.1 hE.2.2.1.2.1 hE.2.1.1 hE.2.2.1.1 hw
        have hF := Fq.of1 c3
        have hE1 := hE.fq (G' := G) hF (fun _ _ => rfl)
        obtain ⟨M2, m1, m2, m3, m4⟩ := X7_looks_ok (hF.2.1.trans hI.2.1) hI.1 he hE1 hw
        refine query_ok hI (v := iI (kc (pd w) (flg (pd w) 6) d c 10080 : Nat)) (M2 := mst M2 1 0 0) (L_minutes_ok (M1 := M1) ?_) ?_ (thr _ _) hF (m4.tr (Fq.thrown _ _))
        · unfold s_X6_minutes
          rw [X6_find_ok hI.1 he, Option.bind_some, if_neg (not_not_intro rfl), k3', Option.bind_some, if_neg (not_not_intro rfl), j3', Option.bind_some, if_neg (not_not_intro rfl)]
          dsimp only
          rw [c1, Option.bind_some, X1_minutesOf c2 (by omega) (by omega), Option.bind_some]
        · show s_X7_minutes M1 (iI e) (iI d) (iI c) = _
          unfold s_X7_minutes
          rw [told_ok (by omega) (by omega) (by omega) m1 m3 k4' j4' (m2.2.2.2.2.2.2.2.1 d c (by omega) (by omega)), Option.bind_some]
      · have j3' : s_X6_requireWithin a3 0 2 = some 1 := j3
        have j4' : s_X7_in a3 0 2 = some 0 := j4
        refine bad ?_ (Or.inr ⟨k4', j4'⟩)
        unfold s_X6_minutes
        rw [X6_find_ok hI.1 he, Option.bind_some, if_neg (not_not_intro rfl), k3', Option.bind_some, if_neg (not_not_intro rfl), j3']
        rfl
    · have k3' : s_X6_requireWithin a2 0 6 = some 1 := k3
      have k4' : s_X7_in a2 0 6 = some 0 := k4
      refine bad ?_ (Or.inl k4')
      unfold s_X6_minutes
      rw [X6_find_ok hI.1 he, Option.bind_some, if_neg (not_not_intro rfl), k3']
      rfl
  · refine query_no hI (c := 1) (v := 0) (M2 := mst (mst M 1 0 1) 1 0 1) (L_minutes_x3 (v := 0) (M1 := M) ?_) (by decide) ?_ (thr _ _) Fq.rf ((Fq.thrown _ _).tr (Fq.thrown _ _))
    · unfold s_X6_minutes; rw [h0]; rfl
    · show s_X7_minutes M a1 a2 a3 = _
      unfold s_X7_minutes
      rw [told_x1 (h1 M hI.2.1), Option.bind_some]
theorem k25 : ∀ (hn : Nat) (M : Mem) (G : Mel), Inv hn M G → ∀ (a1 a2 a3 : Int32), ∃ (M' : Mem) (G' : Mel), lw_25 M G hn a1 a2 a3 = some (M', G') ∧ Inv hn M' G' := by
  intro hn M G hI a1 a2 a3
  show ∃ (M' : Mem) (G' : Mel), lwq (s_L_quarters M G hn a1 a2 a3) (fun M => s_X7_quarters M a1 a2 a3) = some (M', G') ∧ Inv hn M' G'
  rcases find_no hI.1 a1 with ⟨e, he, rfl⟩ | ⟨h0, h1⟩
  · obtain ⟨n, tm, inn, E, B, hE⟩ := hI.2.2.2.1 e he
    have bad : ∀ k4 : s_X6_quarters M hn (iI e) a2 a3 = some (1, 0, M), s_X7_in a2 0 6 = some 0 ∨ (s_X7_in a2 0 6 = some 1 ∧ s_X7_in a3 0 2 = some 0) → ∃ (M' : Mem) (G' : Mel), lwq (s_L_quarters M G hn (iI e) a2 a3) (fun M => s_X7_quarters M (iI e) a2 a3) = some (M', G') ∧ Inv hn M' G' := by
      intro k4 k5
      obtain ⟨M2, m1, m2, m3, m4⟩ := X7_looks_ok hI.2.1 hI.1 he hE rfl
      refine query_no hI (c := 2) (v := 0) (M2 := mst M2 1 0 2) (L_quarters_x1 k4) (by decide) ?_ (thr _ _) Fq.rf (m4.tr (Fq.thrown _ _))
      show s_X7_quarters M (iI e) a2 a3 = _
      unfold s_X7_quarters
      rw [told_x2 m1 k5]
      rfl
    rcases wthn a2 (a := 0) (b := 6) (by omega) (by omega) with ⟨k, k1, k2, hk, k3, k4⟩ | ⟨k3, k4⟩
    · obtain ⟨d, rfl⟩ := ge0 k1
      have k3' : s_X6_requireWithin a2 0 6 = some 0 := k3
      have k4' : s_X7_in a2 0 6 = some 1 := k4
      rcases wthn a3 (a := 0) (b := 2) (by omega) (by omega) with ⟨j, j1, j2, hj, j3, j4⟩ | ⟨j3, j4⟩
      · obtain ⟨c, rfl⟩ := ge0 j1
        have j3' : s_X6_requireWithin a3 0 2 = some 0 := j3
        have j4' : s_X7_in a3 0 2 = some 1 := j4
        subst hk hj
        obtain ⟨w, hw⟩ : ∃ w, w = wk (cvr (shL n tm inn n) E) (brk B) := ⟨_, rfl⟩
        obtain ⟨M1, c1, c2, c3⟩ := X1_read (e := 46 + 7 * e) (by omega) hE.1.1 hE.1.2.1 hE.2.1.2.1 hE.2.2.1.2.1 hE.2.1.1 hE.2.2.1.1 hw
        have hF := Fq.of1 c3
        have hE1 := hE.fq (G' := G) hF (fun _ _ => rfl)
        obtain ⟨M2, m1, m2, m3, m4⟩ := X7_looks_ok (hF.2.1.trans hI.2.1) hI.1 he hE1 hw
        refine query_ok hI (v := iI (shq (fun d => kc (pd w) (flg (pd w) 6) d c 10080) d : Nat)) (M2 := mst M2 1 0 0) (L_quarters_ok (M1 := M1) ?_) ?_ (thr _ _) hF (m4.tr (Fq.thrown _ _))
        · unfold s_X6_quarters
          rw [X6_find_ok hI.1 he, Option.bind_some, if_neg (not_not_intro rfl), k3', Option.bind_some, if_neg (not_not_intro rfl), j3', Option.bind_some, if_neg (not_not_intro rfl)]
          dsimp only
          rw [c1, Option.bind_some, X1_qof (q := fun d => kc (pd w) (flg (pd w) 6) d c 10080) (by omega) (fun d => kc_le _ _ _ _ _) (fun d hd => X1_minutesOf c2 hd (by omega)), Option.bind_some]
        · show s_X7_quarters M1 (iI e) (iI d) (iI c) = _
          unfold s_X7_quarters
          rw [told_ok (by omega) (by omega) (by omega) m1 m3 k4' j4' (m2.2.2.2.2.2.2.2.2.1 c d (by omega) (by omega)), Option.bind_some]
      · have j3' : s_X6_requireWithin a3 0 2 = some 1 := j3
        have j4' : s_X7_in a3 0 2 = some 0 := j4
        refine bad ?_ (Or.inr ⟨k4', j4'⟩)
        unfold s_X6_quarters
        rw [X6_find_ok hI.1 he, Option.bind_some, if_neg (not_not_intro rfl), k3', Option.bind_some, if_neg (not_not_intro rfl), j3']
        rfl
    · have k3' : s_X6_requireWithin a2 0 6 = some 1 := k3
      have k4' : s_X7_in a2 0 6 = some 0 := k4
      refine bad ?_ (Or.inl k4')
      unfold s_X6_quarters
      rw [X6_find_ok hI.1 he, Option.bind_some, if_neg (not_not_intro rfl), k3']
      rfl
  · refine query_no hI (c := 1) (v := 0) (M2 := mst (mst M 1 0 1) 1 0 1) (L_quarters_x3 (v := 0) (M1 := M) ?_) (by decide) ?_ (thr _ _) Fq.rf ((Fq.thrown _ _).tr (Fq.thrown _ _))
    · unfold s_X6_quarters; rw [h0]; rfl
    · show s_X7_quarters M a1 a2 a3 = _
      unfold s_X7_quarters
      rw [told_x1 (h1 M hI.2.1), Option.bind_some]
theorem k26 : ∀ (hn : Nat) (M : Mem) (G : Mel), Inv hn M G → ∀ (a1 : Int32), ∃ (M' : Mem) (G' : Mel), lw_26 M G hn a1 = some (M', G') ∧ Inv hn M' G' := by
  intro hn M G hI a1
  show ∃ (M' : Mem) (G' : Mel), lwq (s_L_premiumPay M G hn a1) (fun M => s_X7_premiumPay M a1) = some (M', G') ∧ Inv hn M' G'
  rcases find_no hI.1 a1 with ⟨e, he, rfl⟩ | ⟨h0, h1⟩
  · obtain ⟨n, tm, inn, E, B, hE⟩ := hI.2.2.2.1 e he
    obtain ⟨pn, pr, hP⟩ := hI.2.2.1
    obtain ⟨w, hw⟩ : ∃ w, w = wk (cvr (shL n tm inn n) E) (brk B) := ⟨_, rfl⟩
    obtain ⟨M1, c1, c2, c3⟩ := X1_read (e := 46 + 7 * e) (by omega) hE.1.1 hE.1.2.1 hE.2.1.2.1 hE.2.2.1.2.1 hE.2.1.1 hE.2.2.1.1 hw
    have hF := Fq.of1 c3
    have hE1 := hE.fq (G' := G) hF (fun _ _ => rfl)
    have hP1 := hP.fq hF
    obtain ⟨M2, m1, m2, m3, m4⟩ := X7_looks_ok (hF.2.1.trans hI.2.1) hI.1 he hE1 hw
    have hP2 := hP1.fq m4
    refine query_ok hI (v := (iI (ex pn pr (pd w) 10080) + 30) / 60) (L_premiumPay_ok (M1 := M1) ?_) ?_ m3 hF m4
    · unfold s_X6_premiumPay
      rw [X6_find_ok hI.1 he, Option.bind_some, if_neg (not_not_intro rfl)]
      dsimp only
      rw [c1, Option.bind_some, X2_payFor hP1.1 hP1.2.1 c2, Option.bind_some]
    · show s_X7_premiumPay M1 (iI e) = _
      unfold s_X7_premiumPay
      rw [m1, Option.bind_some, if_neg (show ¬ (1 : Int32) = 0 by decide)]
      dsimp only
      rw [X7_extra hP2.1 hP2.2.2 m2.2.2.2.2.2.2.1, Option.bind_some]
  · refine query_no hI (c := 1) (v := 0) (M2 := mst M 1 0 1) (L_premiumPay_x3 (v := 0) (M1 := M) ?_) (by decide) ?_ (thr _ _) Fq.rf (Fq.thrown _ _)
    · unfold s_X6_premiumPay; rw [h0]; rfl
    · show s_X7_premiumPay M a1 = _
      unfold s_X7_premiumPay
      rw [X7_looks_no (h1 M hI.2.1), Option.bind_some, if_pos rfl]
/-- the class's pay of a week -/
theorem X1_payV {M : Mem} {pn : Nat} {pr : Nat → Nat → Nat} {p : Nat → Bool} {full : Bool} (hP : Prm M pn pr) (c2 : Tq M 36 (qq p full 10080)) (w : Int32) : ∃ b x, s_X1_basicPay M w = some b ∧ s_X2_payFor M 36 = some x ∧ b + x = payV w pn pr p full :=
  ⟨_, _, X1_basic (q0 := fun d => kc p full d 0 10080) (q1 := fun d => kc p full d 1 10080) (q2 := fun d => kc p full d 2 10080) (fun d => kc_le _ _ _ _ _) (fun d => kc_le _ _ _ _ _) (fun d => kc_le _ _ _ _ _) (fun d hd => X1_minutesOf c2 hd (by omega)) (fun d hd => X1_minutesOf c2 hd (by omega)) (fun d hd => X1_minutesOf c2 hd (by omega)) w, X2_payFor hP.1 hP.2.1 c2, rfl⟩
theorem k27 : ∀ (hn : Nat) (M : Mem) (G : Mel), Inv hn M G → ∀ (a1 : Int32), ∃ (M' : Mem) (G' : Mel), lw_27 M G hn a1 = some (M', G') ∧ Inv hn M' G' := by
  intro hn M G hI a1
  show ∃ (M' : Mem) (G' : Mel), lwq (s_L_pay M G hn a1) (fun M => s_X7_pay M a1) = some (M', G') ∧ Inv hn M' G'
  rcases find_no hI.1 a1 with ⟨e, he, rfl⟩ | ⟨h0, h1⟩
  · obtain ⟨n, tm, inn, E, B, hE⟩ := hI.2.2.2.1 e he
    obtain ⟨pn, pr, hP⟩ := hI.2.2.1
    obtain ⟨w, hw⟩ : ∃ w, w = wk (cvr (shL n tm inn n) E) (brk B) := ⟨_, rfl⟩
    obtain ⟨M1, c1, c2, c3⟩ := X1_read (e := 46 + 7 * e) (by omega) hE.1.1 hE.1.2.1 hE.2.1.2.1 hE.2.2.1.2.1 hE.2.1.1 hE.2.2.1.1 hw
    have hF := Fq.of1 c3
    have hE1 := hE.fq (G' := G) hF (fun _ _ => rfl)
    have hP1 := hP.fq hF
    have hF0 := Fq.thrown M1 0
    have hE2 := hE1.fq (G' := G) hF0 (fun _ _ => rfl)
    have hP2 := hP1.fq hF0
    have hI1 : M1 1 1 = iI (hn : Int) := hF.2.1.trans hI.2.1
    have hh := hI.1
    obtain ⟨M2, m1, m2, m3⟩ := X7_payOf (by omega) hE2.1.1 hE2.1.2.2 hE2.2.1.2.2 hE2.2.2.1.2.2 hE2.2.1.1 hE2.2.2.1.1 hw hP2.1 hP2.2.2
    obtain ⟨b, x, p1, p2, p3⟩ := X1_payV hP1 c2 (M1 (46 + 7 * e) 0)
    have e0 : M2 1 0 = 0 := by rw [m3 0 (by omega) (by omega) (by omega) (by omega) (by omega), thr]
    refine query_ok hI (v := payV (M1 (46 + 7 * e) 0) pn pr (pd w) (flg (pd w) 6)) (L_pay_ok (M1 := M1) ?_) ?_ e0 hF (hF0.tr ⟨fun k hk => m2 k (by omega) (by omega), m3 1 (by omega) (by omega) (by omega) (by omega) (by omega), m3 14 (by omega) (by omega) (by omega) (by omega) (by omega)⟩)
    · unfold s_X6_pay
      rw [X6_find_ok hI.1 he, Option.bind_some, if_neg (not_not_intro rfl)]
      dsimp only
      rw [c1, Option.bind_some, p1, Option.bind_some, p2, Option.bind_some, p3]
    · show s_X7_pay M1 (iI e) = _
      unfold s_X7_pay bnd
      rw [X7_isOne_ok hI1 hI.1 he, Option.bind_some, if_neg (show ¬ (1 : Int32) = 0 by decide)]
      dsimp only
      rw [thr, if_pos (by decide), m1, Option.bind_some, hE1.2.2.2.1, mst_k _ _ _ _ (show (2 : Nat) ≠ 1 by omega)]
  · refine query_no hI (c := 1) (v := 0) (M2 := mst M 1 0 1) (L_pay_x3 (v := 0) (M1 := M) ?_) (by decide) ?_ (thr _ _) Fq.rf (Fq.thrown _ _)
    · unfold s_X6_pay; rw [h0]; rfl
    · show s_X7_pay M a1 = _
      unfold s_X7_pay bnd
      rw [h1 M hI.2.1, Option.bind_some, if_pos rfl]
      dsimp only
      rw [thr, if_neg (by decide)]

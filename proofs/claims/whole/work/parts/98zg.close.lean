/-! closeWeek -/
theorem iI_eq0 {n : Nat} (h : n ≤ 100000) : (iI (n : Int) = 0) = (n = 0) := by
  rw [li_0, iI_eq (by omega) (by omega)]
  exact propext ⟨fun h => by omega, fun h => by omega⟩
theorem k10 : ∀ (hn : Nat) (M : Mem) (G : Mel), Inv hn M G → ∀ (a1 : Int32), ∃ (M' : Mem) (G' : Mel), lw_10 M G hn a1 = some (M', G') ∧ Inv hn M' G' := by
  intro hn M G hI a1
  have hh := hI.1
  have fin : ∀ (c v : Int32) (M1 M2 : Mem) (G1 G2 : Mel), s_L_closeWeek M G hn a1 = some (c, M1, G1) → s_X7_closeWeek M1 G1 a1 = some (v, M2, G2) → M2 1 0 = c → (c = 0 → G2 0 0 = v.toInt64) → lw_10 M G hn a1 = some (M2, G2) := by
    intro c v M1 M2 G1 G2 q1 q2 q3 q4
    unfold lw_10
    rw [q1, Option.bind_some]
    dsimp only
    rw [q2, Option.bind_some]
    unfold s_X7_thrown
    rw [Option.bind_some, if_pos q3]
    dsimp only
    by_cases d : c = 0
    · rw [if_pos d, mrdL_0, Option.bind_some, if_pos (q4 d)]
    · rw [if_neg d]
  rcases find_no hI.1 a1 with ⟨e, he, rfl⟩ | ⟨h0, h1⟩
  · obtain ⟨n, tm, inn, E, B, hE⟩ := hI.2.2.2.1 e he
    have hn40 := hE.1.1.1
    have hE20 := hE.2.1.1.1
    by_cases hz : n = 0 ∧ E.length = 0
    · refine ⟨mst M 1 0 2, G, fin 2 0 M _ G _ ?_ ?_ (thr _ _) (fun h => absurd h (by decide)), hI.fq (Fq.thrown _ _) (fun _ _ => rfl)⟩
      · unfold s_L_closeWeek s_X6_closeWeek
        rw [X6_find_ok hI.1 he, Option.bind_some, if_neg (not_not_intro rfl)]
        dsimp only
        rw [X4_sz hE.1.2.1, Option.bind_some, if_pos (by rw [iI_eq0 (by omega)]; exact hz.1), X4_sz hE.2.1.2.1, Option.bind_some, if_pos (by rw [iI_eq0 (by omega)]; exact hz.2)]
        rfl
      · unfold s_X7_closeWeek bnd
        rw [X7_isOne_ok hI.2.1 hI.1 he, Option.bind_some, if_neg (show ¬ (1 : Int32) = 0 by decide), mrd_i (by omega) (by omega), Int.toNat_natCast, hE.1.2.2.1, Option.bind_some, if_pos (by rw [iI_eq0 (by omega)]; exact hz.1), mrd_i (by omega) (by omega), Int.toNat_natCast, hE.2.1.2.2.1, Option.bind_some, if_pos (by rw [iI_eq0 (by omega)]; exact hz.2), Option.bind_some]
        dsimp only
        rw [thr, if_neg (by decide)]
    · obtain ⟨pn, pr, hP⟩ := hI.2.2.1
      obtain ⟨w, hw⟩ : ∃ w, w = wk (cvr (shL n tm inn n) E) (brk B) := ⟨_, rfl⟩
      obtain ⟨M1, c1, c2, c3⟩ := X1_read (e := 46 + 7 * e) (by omega) hE.1.1 hE.1.2.1 hE.2.1.2.1 hE.2.2.1.2.1 hE.2.1.1 hE.2.2.1.1 hw
      have hF := Fq.of1 c3
      have hP1 := hP.fq hF
      obtain ⟨b, x, p1, p2, p3⟩ := X1_payV hP1 c2 (M1 (46 + 7 * e) 0)
      obtain ⟨z, ez⟩ : ∃ z, z = b + x := ⟨_, rfl⟩
      obtain ⟨G1, s1⟩ : ∃ G1, G1 = mstL G (46 + 7 * e) 2 (G (46 + 7 * e) 2 + z.toInt64) := ⟨_, rfl⟩
      obtain ⟨G2, s2⟩ : ∃ G2, G2 = mstL G1 0 0 z.toInt64 := ⟨_, rfl⟩
      obtain ⟨Ma, ga⟩ : ∃ Ma, Ma = mst M1 (46 + 7 * e) 1 (M1 (46 + 7 * e) 1 + 1) := ⟨_, rfl⟩
      obtain ⟨Mb, gb⟩ : ∃ Mb, Mb = mst Ma (46 + 7 * e + 1) 2 0 := ⟨_, rfl⟩
      obtain ⟨Mc, gc⟩ : ∃ Mc, Mc = mst Mb (46 + 7 * e + 3) 2 0 := ⟨_, rfl⟩
      obtain ⟨Md, gd⟩ : ∃ Md, Md = mst Mc (46 + 7 * e + 5) 2 0 := ⟨_, rfl⟩
      have hb : s_X0_beginNextWeek M1 G (46 + 7 * e) z = some (Md, G1) := by
        rw [gd, gc, gb, ga, s1]
        rfl
      have fd : ∀ k, k ≠ 46 + 7 * e → k ≠ 46 + 7 * e + 1 → k ≠ 46 + 7 * e + 3 → k ≠ 46 + 7 * e + 5 → Md k = M1 k := fun k k1 k2 k3 k4 => by
        rw [gd, mst_k _ _ _ _ k4, gc, mst_k _ _ _ _ k3, gb, mst_k _ _ _ _ k2, ga, mst_k _ _ _ _ k1]
      have fM : ∀ k, k < 34 → Md k = M k := fun k hk => by rw [fd k (by omega) (by omega) (by omega) (by omega), c3 k (by omega)]
      have d0 : Md (46 + 7 * e) 0 = M (46 + 7 * e) 0 := by
        rw [gd, mst_k _ _ _ _ (by omega), gc, mst_k _ _ _ _ (by omega), gb, mst_k _ _ _ _ (by omega), ga, mst_a, if_pos rfl, if_neg (by omega), c3 _ (by omega)]
      have d1 : Md (46 + 7 * e) 1 = M 3 e + 1 := by
        rw [gd, mst_k _ _ _ _ (by omega), gc, mst_k _ _ _ _ (by omega), gb, mst_k _ _ _ _ (by omega), ga, mst_a, if_pos rfl, if_pos rfl, c3 _ (by omega), hE.2.2.2.2.1]
      have t1 : Md (46 + 7 * e + 1) 2 = 0 := by
        rw [gd, mst_k _ _ _ _ (by omega), gc, mst_k _ _ _ _ (by omega), gb, mst_a, if_pos rfl, if_pos rfl]
      have t3 : Md (46 + 7 * e + 3) 2 = 0 := by
        rw [gd, mst_k _ _ _ _ (by omega), gc, mst_a, if_pos rfl, if_pos rfl]
      have t5 : Md (46 + 7 * e + 5) 2 = 0 := by
        rw [gd, mst_a, if_pos rfl, if_pos rfl]
      obtain ⟨M6, g6⟩ : ∃ M6, M6 = mst Md 1 0 0 := ⟨_, rfl⟩
      have f6 : ∀ k, k ≠ 1 → k < 34 → M6 k = M k := fun k k1 k2 => by rw [g6, mst_k _ _ _ _ k1, fM k k2]
      have v6 : ∀ j, j ≠ 0 → M6 1 j = M 1 j := fun j hj => by rw [g6, mst_a, if_pos rfl, if_neg hj, fM 1 (by omega)]
      obtain ⟨M7, m1, m2, m3⟩ := X7_payOf (M := M6) (e := e) (by omega) hE.1.1 ⟨by rw [f6 5 (by omega) (by omega)]; exact hE.1.2.2.1, fun k hk => by rw [f6 6 (by omega) (by omega), f6 7 (by omega) (by omega)]; exact hE.1.2.2.2 k hk⟩ ⟨by rw [f6 8 (by omega) (by omega)]; exact hE.2.1.2.2.1, fun k hk => by rw [f6 9 (by omega) (by omega), f6 10 (by omega) (by omega)]; exact hE.2.1.2.2.2 k hk⟩ ⟨by rw [f6 11 (by omega) (by omega)]; exact hE.2.2.1.2.2.1, fun k hk => by rw [f6 12 (by omega) (by omega), f6 13 (by omega) (by omega)]; exact hE.2.2.1.2.2.2 k hk⟩ hE.2.1.1 hE.2.2.1.1 hw hP.1 ⟨by rw [v6 14 (by omega)]; exact hP.2.2.1, fun i hi => by rw [f6 14 (by omega) (by omega), f6 15 (by omega) (by omega), f6 16 (by omega) (by omega), f6 17 (by omega) (by omega)]; exact hP.2.2.2 i hi⟩
      have ev : payV (M6 2 e) pn pr (pd w) (flg (pd w) 6) = z := by
        rw [ez, p3, f6 2 (by omega) (by omega), c3 _ (by omega), hE.2.2.2.1]
      rw [ev] at m1
      obtain ⟨M11, g11⟩ : ∃ M11, M11 = mst M7 3 e (M 3 e + 1) := ⟨_, rfl⟩
      obtain ⟨M12, g12⟩ : ∃ M12, M12 = mst M11 5 e 0 := ⟨_, rfl⟩
      obtain ⟨M13, g13⟩ : ∃ M13, M13 = mst M12 8 e 0 := ⟨_, rfl⟩
      obtain ⟨M14, g14⟩ : ∃ M14, M14 = mst M13 11 e 0 := ⟨_, rfl⟩
      obtain ⟨G3, s3⟩ : ∃ G3, G3 = mstL G2 4 e (G 4 e + z.toInt64) := ⟨_, rfl⟩
      have f14 : ∀ k, k ≠ 1 → k ≠ 3 → k ≠ 5 → k ≠ 8 → k ≠ 11 → k < 18 ∨ 27 < k → M14 k = Md k := fun k k1 k2 k3 k4 k5 k6 => by
        rw [g14, mst_k _ _ _ _ k5, g13, mst_k _ _ _ _ k4, g12, mst_k _ _ _ _ k3, g11, mst_k _ _ _ _ k2, m2 k k1 k6, g6, mst_k _ _ _ _ k1]
      have w14 : ∀ j, j ≠ 0 → j ≠ 19 → j ≠ 20 → j ≠ 31 → j ≠ 32 → j ≠ 33 → M14 1 j = M 1 j := fun j j0 j1 j2 j3 j4 j5 => by
        rw [g14, mst_k _ _ _ _ (by omega), g13, mst_k _ _ _ _ (by omega), g12, mst_k _ _ _ _ (by omega), g11, mst_k _ _ _ _ (by omega), m3 j j1 j2 j3 j4 j5, v6 j j0]
      have a3 : ∀ j, M14 3 j = if j = e then M 3 e + 1 else M 3 j := fun j => by
        rw [g14, mst_k _ _ _ _ (by omega), g13, mst_k _ _ _ _ (by omega), g12, mst_k _ _ _ _ (by omega), g11, mst_a, if_pos rfl, m2 3 (by omega) (by omega), f6 3 (by omega) (by omega)]
      have a5 : ∀ j, M14 5 j = if j = e then 0 else M 5 j := fun j => by
        rw [g14, mst_k _ _ _ _ (by omega), g13, mst_k _ _ _ _ (by omega), g12, mst_a, if_pos rfl, g11, mst_k _ _ _ _ (by omega), m2 5 (by omega) (by omega), f6 5 (by omega) (by omega)]
      have a8 : ∀ j, M14 8 j = if j = e then 0 else M 8 j := fun j => by
        rw [g14, mst_k _ _ _ _ (by omega), g13, mst_a, if_pos rfl, g12, mst_k _ _ _ _ (by omega), g11, mst_k _ _ _ _ (by omega), m2 8 (by omega) (by omega), f6 8 (by omega) (by omega)]
      have a11 : ∀ j, M14 11 j = if j = e then 0 else M 11 j := fun j => by
        rw [g14, mst_a, if_pos rfl, g13, mst_k _ _ _ _ (by omega), g12, mst_k _ _ _ _ (by omega), g11, mst_k _ _ _ _ (by omega), m2 11 (by omega) (by omega), f6 11 (by omega) (by omega)]
      have u1 : ∀ k, k ≠ 0 → k ≠ 46 + 7 * e → G2 k = G k := fun k k0 k1 => by rw [s2, mstL_0k _ _ k k0, s1, mstL_ne _ _ _ k1]
      refine ⟨M14, G3, fin 0 z Md _ G2 _ ?_ ?_ ?_ (fun _ => ?_), hI.fe he ⟨0, tm, inn, [], [], ⟨⟨by omega, fun i hi => by omega, fun i hi => by omega⟩, ⟨?_, by omega, fun i c hi => by omega⟩, ?_, fun k hk => by omega⟩, ⟨⟨by simp, fun q hq => by cases hq⟩, ⟨?_, by simp, fun i c hi => absurd hi (Nat.not_lt_zero _)⟩, ?_, fun k hk => absurd hk (Nat.not_lt_zero _)⟩, ⟨⟨by simp, fun q hq => by cases hq⟩, ⟨?_, by simp, fun i c hi => absurd hi (Nat.not_lt_zero _)⟩, ?_, fun k hk => absurd hk (Nat.not_lt_zero _)⟩, ?_, ?_, ?_⟩ ⟨?_, ?_, fun k hk => ?_, fun k j hk hj => ?_, fun k j hk hj => ?_, fun k j hk hj => ?_⟩ ⟨fun k k1 k2 k3 => ?_, fun j hj => ?_⟩⟩
      · have hc : s_X6_closeWeek M G hn (iI e) = some (0, z, Md, G1) := by
          unfold s_X6_closeWeek bnd
          rw [X6_find_ok hI.1 he, Option.bind_some, if_neg (not_not_intro rfl)]
          dsimp only
          rw [X4_sz hE.1.2.1, Option.bind_some]
          by_cases d : n = 0
          · rw [if_pos (by rw [iI_eq0 (by omega)]; exact d), X4_sz hE.2.1.2.1, Option.bind_some, if_neg (by rw [iI_eq0 (by omega)]; omega), c1, Option.bind_some, p1, Option.bind_some, p2, Option.bind_some, ← ez, hb]
            rfl
          · rw [if_neg (by rw [iI_eq0 (by omega)]; exact d), c1, Option.bind_some, p1, Option.bind_some, p2, Option.bind_some, ← ez, hb]
            rfl
        unfold s_L_closeWeek
        rw [hc, Option.bind_some, if_neg (not_not_intro rfl), mwrL_0, ← s2]
        rfl
      · unfold s_X7_closeWeek bnd
        have hp5 : (if (1 : Int32) = 0 then some (1 : Int32) else (mrd 6 (Md 5) (iI (e : Int))).bind fun v3 => if v3 = 0 then (mrd 6 (Md 8) (iI (e : Int))).bind fun v4 => if v4 = 0 then some 2 else some 0 else some 0) = some 0 := by
          rw [if_neg (show ¬ (1 : Int32) = 0 by decide), mrd_i (by omega) (by omega), Int.toNat_natCast, fM 5 (by omega), hE.1.2.2.1, Option.bind_some]
          by_cases d : n = 0
          · rw [if_pos (by rw [iI_eq0 (by omega)]; exact d), mrd_i (by omega) (by omega), Int.toNat_natCast, fM 8 (by omega), hE.2.1.2.2.1, Option.bind_some, if_neg (by rw [iI_eq0 (by omega)]; omega)]
          · rw [if_neg (by rw [iI_eq0 (by omega)]; exact d)]
        rw [X7_isOne_ok (by rw [fM 1 (by omega)]; exact hI.2.1) hI.1 he, Option.bind_some, hp5, Option.bind_some]
        dsimp only
        rw [thr, if_pos (by decide), ← g6, m1, Option.bind_some, mrdL_i (by omega) (by omega), Int.toNat_natCast, u1 4 (by omega) (by omega), Option.bind_some, mwrL_i (by omega) (by omega), Int.toNat_natCast]
        dsimp only
        rw [← s3, Option.bind_some, mrd_i (by omega) (by omega), Int.toNat_natCast, m2 3 (by omega) (by omega), f6 3 (by omega) (by omega), Option.bind_some, mwr_i (by omega) (by omega), Int.toNat_natCast, ← g11, Option.bind_some, mwr_i (by omega) (by omega), Int.toNat_natCast, ← g12, Option.bind_some, mwr_i (by omega) (by omega), Int.toNat_natCast, ← g13, Option.bind_some, mwr_i (by omega) (by omega), Int.toNat_natCast, ← g14, Option.bind_some]
      · rw [g14, mst_k _ _ _ _ (by omega), g13, mst_k _ _ _ _ (by omega), g12, mst_k _ _ _ _ (by omega), g11, mst_k _ _ _ _ (by omega), m3 0 (by omega) (by omega) (by omega) (by omega) (by omega), g6, thr]
      · rw [s3, mstL_ne _ _ _ (by omega), s2, mstL_00]
      · rw [f14 _ (by omega) (by omega) (by omega) (by omega) (by omega) (by omega), t1]; rfl
      · rw [a5, if_pos rfl]; rfl
      · rw [f14 _ (by omega) (by omega) (by omega) (by omega) (by omega) (by omega), t3]; rfl
      · rw [a8, if_pos rfl]; rfl
      · rw [f14 _ (by omega) (by omega) (by omega) (by omega) (by omega) (by omega), t5]; rfl
      · rw [a11, if_pos rfl]; rfl
      · rw [f14 _ (by omega) (by omega) (by omega) (by omega) (by omega) (by omega), d0, f14 2 (by omega) (by omega) (by omega) (by omega) (by omega) (by omega), fM 2 (by omega), hE.2.2.2.1]
      · rw [f14 _ (by omega) (by omega) (by omega) (by omega) (by omega) (by omega), d1, a3, if_pos rfl]
      · rw [s3, mstL_ne _ _ _ (by omega), mstL_self, s2, mstL_0k _ _ _ (by omega), s1, mstL_self]
        show (if 2 = 2 then _ else _) = (if e = e then _ else _)
        rw [if_pos rfl, if_pos rfl, hE.2.2.2.2.2]
      · exact w14 1 (by omega) (by omega) (by omega) (by omega) (by omega) (by omega)
      · exact w14 14 (by omega) (by omega) (by omega) (by omega) (by omega) (by omega)
      · rw [f14 k (by omega) (by omega) (by omega) (by omega) (by omega) (by omega), fd k (by omega) (by omega) (by omega) (by omega), c3 k (by omega)]
      · rcases hk with rfl | rfl | rfl | rfl | rfl
        · rw [f14 2 (by omega) (by omega) (by omega) (by omega) (by omega) (by omega), fM 2 (by omega)]
        · rw [a3, if_neg hj]
        · rw [a5, if_neg hj]
        · rw [a8, if_neg hj]
        · rw [a11, if_neg hj]
      · rw [f14 k (by omega) (by omega) (by omega) (by omega) (by omega) (by omega), fM k (by omega)]
      · rw [f14 k (by omega) (by omega) (by omega) (by omega) (by omega) (by omega), fM k (by omega)]
      · rw [s3, mstL_ne _ _ _ k2, u1 k k1 k3]
      · rw [s3, mstL_self]
        show (if j = e then _ else _) = _
        rw [if_neg hj, u1 4 (by omega) (by omega)]
  · refine ⟨mst M 1 0 1, G, fin 1 0 M _ G _ ?_ ?_ (thr _ _) (fun h => absurd h (by decide)), hI.fq (Fq.thrown _ _) (fun _ _ => rfl)⟩
    · unfold s_L_closeWeek s_X6_closeWeek; rw [h0]; rfl
    · unfold s_X7_closeWeek bnd
      rw [h1 M hI.2.1, Option.bind_some, if_pos rfl, Option.bind_some]
      dsimp only
      rw [thr, if_neg (by decide)]

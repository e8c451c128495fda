/-! punch, removePunch -/
theorem X7_punch_x3 {M : Mem} {e n : Nat} {tm : Nat → Nat} {inn : Nat → Bool} (he : e < 6) (hp : PnOK n tm) (h : PnM M e n tm inn) (h1 : s_X7_isOne M (iI e) = some 1) {t P : Nat} (ht : t ≤ 10080) (hP : Pl n tm (t : Int) P) (hx : (P < n ∧ (tm P : Int) = (t : Int)) ∨ n = 40) (hin : s_X7_in (iI (t : Int)) 0 10080 = some 1) (z : Int32) : s_X7_punch M (iI e) (iI t) z = some (0, mst M 1 0 3) := by
  unfold s_X7_punch bnd
  rw [h1, Option.bind_some, if_neg (show ¬ (1 : Int32) = 0 by decide), hin, Option.bind_some, if_neg (show ¬ (1 : Int32) = 0 by decide), X7_hasP he hp h (by omega) hP, Option.bind_some]
  by_cases c : P < n ∧ (tm P : Int) = (t : Int)
  · rw [decide_eq_true c, if_neg (show ¬ bI true = 0 by decide), Option.bind_some]
    dsimp only
    rw [thr, if_neg (by decide)]
  · rw [decide_eq_false c, if_pos (show bI false = 0 from rfl), mrd_i (by omega) (by omega), Int.toNat_natCast, h.1, Option.bind_some, if_pos (by rw [hx.resolve_left c]; rfl), Option.bind_some]
    dsimp only
    rw [thr, if_neg (by decide)]
theorem PnM.fr {M M' : Mem} {e n t : Nat} {tm : Nat → Nat} {inn : Nat → Bool} (h : PnM M e n tm inn) (hF : Fr t M M') (ht : 46 ≤ t) : PnM M' e n tm inn :=
  ⟨by rw [hF.1 5 (by omega) (by omega)]; exact h.1, fun k hk => by rw [hF.1 6 (by omega) (by omega), hF.1 7 (by omega) (by omega)]; exact h.2 k hk⟩
theorem EmpI.setP {M M' : Mem} {G G' : Mel} {e n n' : Nat} {tm tm' : Nat → Nat} {inn inn' : Nat → Bool} {E B : List (Nat × Nat)} (h : EmpI M G e n tm inn E B) (hP : PnOK n' tm' ∧ Tb M' (46 + 7 * e + 1) n' (pnf tm' inn') ∧ PnM M' e n' tm' inn') (h1 : ∀ k, 46 + 7 * e ≤ k → k < 46 + 7 * e + 7 → k ≠ 46 + 7 * e + 1 → k ≠ 46 + 7 * e + 2 → M' k = M k) (h2 : ∀ k, k ≠ 1 → k < 5 ∨ 7 < k → k < 18 → M' k = M k) (g1 : G' (46 + 7 * e) 2 = G (46 + 7 * e) 2) (g2 : G' 4 e = G 4 e) : EmpI M' G' e n' tm' inn' E B :=
  ⟨hP, EmpI.sp h.2.1 (h1 _ (by omega) (by omega) (by omega) (by omega)) (h1 _ (by omega) (by omega) (by omega) (by omega)) (by rw [h2 8 (by omega) (by omega) (by omega)]) (fun j _ => by rw [h2 9 (by omega) (by omega) (by omega), h2 10 (by omega) (by omega) (by omega)]; exact ⟨rfl, rfl⟩), EmpI.sp h.2.2.1 (h1 _ (by omega) (by omega) (by omega) (by omega)) (h1 _ (by omega) (by omega) (by omega) (by omega)) (by rw [h2 11 (by omega) (by omega) (by omega)]) (fun j _ => by rw [h2 12 (by omega) (by omega) (by omega), h2 13 (by omega) (by omega) (by omega)]; exact ⟨rfl, rfl⟩), by rw [h1 _ (by omega) (by omega) (by omega) (by omega), h2 2 (by omega) (by omega) (by omega)]; exact h.2.2.2.1, by rw [h1 _ (by omega) (by omega) (by omega) (by omega), h2 3 (by omega) (by omega) (by omega)]; exact h.2.2.2.2.1, by rw [g1, g2]; exact h.2.2.2.2.2⟩
theorem k2 : ∀ (hn : Nat) (M : Mem) (G : Mel), Inv hn M G → ∀ (a1 a2 a3 : Int32), ∃ (M' : Mem) (G' : Mel), lw_2 M G hn a1 a2 a3 = some (M', G') ∧ Inv hn M' G' := by
  intro hn M G hI a1 a2 a3
  have hh := hI.1
  obtain ⟨b, hb⟩ : ∃ b : Bool, (if a3 = 0 then (0 : Int32) else 1) = bI b := by
    by_cases c : a3 = 0
    · exact ⟨false, if_pos c⟩
    · exact ⟨true, if_neg c⟩
  have eL : lw_2 M G hn a1 a2 a3 = lwq (s_L_punch M G hn a1 a2 (bI b)) (fun M => s_X7_punch M a1 a2 (bI b)) := by
    unfold lw_2 bnd
    dsimp only
    rw [hb]
    rfl
  rw [eL]
  rcases find_no hI.1 a1 with ⟨e, he, rfl⟩ | ⟨h0, h1⟩
  · obtain ⟨n, tm, inn, E, B, hE⟩ := hI.2.2.2.1 e he
    have hone := X7_isOne_ok hI.2.1 hI.1 he
    have hn40 := hE.1.1.1
    rcases wthn a2 (a := 0) (b := 10080) (by omega) (by omega) with ⟨k, k1, k2, rfl, k3, k4⟩ | ⟨k3, k4⟩
    · obtain ⟨t, rfl⟩ := ge0 k1
      have k3' : s_X6_requireWithin (iI (t : Int)) 0 10080 = some 0 := k3
      have k4' : s_X7_in (iI (t : Int)) 0 10080 = some 1 := k4
      have hR : s_X6_requireRoom M (46 + 7 * e + 1) 40 = if n < 40 then some 0 else some 2 := room_ok hE.1.2.1 (m := 40) (by omega)
      obtain ⟨P, p1, p2⟩ := X6_place hE.1.2.1 hE.1.1 (x := (t : Int)) (by omega)
      by_cases c : n < 40
      · rw [if_pos c] at hR
        by_cases d : P < n ∧ (tm P : Int) = (t : Int)
        · refine query_no hI (c := 3) (v := 0) (M2 := mst M 1 0 3) (L_punch_x2 (v := 0) (M1 := M) ?_) (by decide) (X7_punch_x3 (by omega) hE.1.1 hE.1.2.2 hone (by omega) p2 (Or.inl d) k4' (bI b)) (thr _ _) Fq.rf (Fq.thrown _ _)
          unfold s_X6_punch
          rw [X6_find_ok hI.1 he, Option.bind_some, if_neg (not_not_intro rfl), k3', Option.bind_some, if_neg (not_not_intro rfl)]
          dsimp only
          rw [hR, Option.bind_some, if_neg (not_not_intro rfl), p1, Option.bind_some, X6_isAt hE.1.2.1 hE.1.1 (by omega) p2.1, Option.bind_some, decide_eq_true d, if_neg (show ¬ bI true = 0 by decide)]
        · obtain ⟨M1, M2, M3, g1, g2, g3, g4, g5⟩ := X6_ins hE.1.2.1 c p2.1 t b
          have F1 : Fe e M M3 := Fe.tb g5 (by omega)
          obtain ⟨M4, b1, b2, b3, b4⟩ := X7_punch_ok (by omega) hE.1.1 (hE.1.2.2.fr g5 (by omega)) (X7_isOne_ok (F1.1.trans hI.2.1) hI.1 he) c (by omega) p2 d k4' b
          refine change_ok hI he (v := iI ((n + 1 : Nat) : Int)) (L_punch_ok (M1 := M3) ?_) (M2 := M4) b1 b3 ⟨n + 1, _, _, E, B, hE.setP ⟨hE.1.1.ins (by omega) c p2 d, g4.congr (by rw [b4.1 _ (by omega) (by omega) (by omega) (by omega)]) (b4.1 _ (by omega) (by omega) (by omega) (by omega)), b2⟩ (fun k k1 k2 k3 k4 => by rw [b4.1 k (by omega) (by omega) (by omega) (by omega), g5.1 k k3 (by omega)]) (fun k k1 k2 k3 => by rw [b4.1 k (by omega) (by omega) (by omega) (by omega), g5.1 k (by omega) (by omega)]) (by rw [mstL_0k G _ _ (by omega)]) (by rw [mstL_0k G _ 4 (by omega)])⟩ F1 b4.fe
          have e9 : (if bI b = 0 then (0 : Int32) else 1) = bI b := by cases b <;> rfl
          unfold s_X6_punch bnd
          rw [X6_find_ok hI.1 he, Option.bind_some, if_neg (not_not_intro rfl), k3', Option.bind_some, if_neg (not_not_intro rfl)]
          dsimp only
          rw [hR, Option.bind_some, if_neg (not_not_intro rfl), p1, Option.bind_some, X6_isAt hE.1.2.1 hE.1.1 (by omega) p2.1, Option.bind_some, decide_eq_false d, if_pos (show bI false = 0 from rfl), g1, Option.bind_some, g2, Option.bind_some, e9, g3, Option.bind_some, X4_sz g4, Option.bind_some]
      · rw [if_neg c] at hR
        refine query_no hI (c := 3) (v := 0) (M2 := mst M 1 0 3) (L_punch_x2 (v := 0) (M1 := M) ?_) (by decide) (X7_punch_x3 (by omega) hE.1.1 hE.1.2.2 hone (by omega) p2 (Or.inr (by omega)) k4' (bI b)) (thr _ _) Fq.rf (Fq.thrown _ _)
        unfold s_X6_punch
        rw [X6_find_ok hI.1 he, Option.bind_some, if_neg (not_not_intro rfl), k3', Option.bind_some, if_neg (not_not_intro rfl)]
        dsimp only
        rw [hR]
        rfl
    · have k3' : s_X6_requireWithin a2 0 10080 = some 1 := k3
      have k4' : s_X7_in a2 0 10080 = some 0 := k4
      refine query_no hI (c := 2) (v := 0) (M2 := mst M 1 0 2) (L_punch_x1 (v := 0) (M1 := M) ?_) (by decide) ?_ (thr _ _) Fq.rf (Fq.thrown _ _)
      · unfold s_X6_punch
        rw [X6_find_ok hI.1 he, Option.bind_some, if_neg (not_not_intro rfl), k3']
        rfl
      · show s_X7_punch M (iI e) a2 (bI b) = _
        unfold s_X7_punch bnd
        rw [hone, Option.bind_some, if_neg (show ¬ (1 : Int32) = 0 by decide), k4', Option.bind_some, if_pos rfl, Option.bind_some]
        dsimp only
        rw [thr, if_neg (by decide)]
  · refine query_no hI (c := 1) (v := 0) (M2 := mst M 1 0 1) (L_punch_x3 (v := 0) (M1 := M) ?_) (by decide) ?_ (thr _ _) Fq.rf (Fq.thrown _ _)
    · unfold s_X6_punch; rw [h0]; rfl
    · show s_X7_punch M a1 a2 (bI b) = _
      unfold s_X7_punch bnd
      rw [h1 M hI.2.1, Option.bind_some, if_pos rfl, Option.bind_some]
      dsimp only
      rw [thr, if_neg (by decide)]
/-! a punch taken out -/
def rT (P : Nat) (tm : Nat → Nat) (i : Nat) : Nat := if i < P then tm i else tm (i + 1)
def rB (P : Nat) (inn : Nat → Bool) (i : Nat) : Bool := if i < P then inn i else inn (i + 1)
theorem PnOK.rmv {n : Nat} {tm : Nat → Nat} (h : PnOK n tm) {P : Nat} (hP : P < n) : PnOK (n - 1) (rT P tm) := by
  have hn := h.1
  refine ⟨by omega, fun i hi => ?_, fun i hi => ?_⟩
  · unfold rT
    by_cases c1 : i + 1 < P
    · rw [if_pos (by omega), if_pos c1]; exact h.2.1 i (by omega)
    · by_cases c2 : i < P
      · rw [if_pos c2, if_neg c1]; exact pn_lt h (i := i) (i + 1 + 1) (by omega) (by omega)
      · rw [if_neg c2, if_neg c1]; exact h.2.1 (i + 1) (by omega)
  · unfold rT
    by_cases c1 : i < P
    · rw [if_pos c1]; exact h.2.2 i (by omega)
    · rw [if_neg c1]; exact h.2.2 (i + 1) (by omega)
theorem L_prm {e n : Nat} (he : e < 6) (hn : n ≤ 39) : ∀ (r fu y : Nat) (M : Mem), M 5 e = iI (n : Int) → y + r = n → r < fu → (∀ j, y ≤ j → j < n → vp_nar .boolean (M 7 (41 * e + j + 1)) = M 7 (41 * e + j + 1)) → ∃ z M', L_X7_removePunch_72 (iI e) fu (iI (y : Int)) M = some (z, M') ∧ (∀ k, k ≠ 6 → k ≠ 7 → M' k = M k) ∧ (∀ j, M' 6 j = if 41 * e + y ≤ j ∧ j < 41 * e + n then M 6 (j + 1) else M 6 j) ∧ ∀ j, M' 7 j = if 41 * e + y ≤ j ∧ j < 41 * e + n then M 7 (j + 1) else M 7 j := by
  intro r
  induction r with
  | zero =>
    intro fu y M h hy hf hB
    cases fu with
    | zero => omega
    | succ fu =>
      refine ⟨iI (y : Int), M, ?_, fun _ _ _ => rfl, fun j => by rw [if_neg (by omega)], fun j => by rw [if_neg (by omega)]⟩
      rw [L_X7_removePunch_72, mrd_i (by omega) (by omega), Int.toNat_natCast, h, Option.bind_some, if_pos (by rw [iI_le] <;> omega)]
  | succ r ih =>
    intro fu y M h hy hf hB
    cases fu with
    | zero => omega
    | succ fu =>
      obtain ⟨M1, g1⟩ : ∃ M1, M1 = mst M 6 (41 * e + y) (M 6 (41 * e + y + 1)) := ⟨_, rfl⟩
      obtain ⟨M2, g2⟩ : ∃ M2, M2 = mst M1 7 (41 * e + y) (M 7 (41 * e + y + 1)) := ⟨_, rfl⟩
      have v6 : ∀ j, M2 6 j = if j = 41 * e + y then M 6 (41 * e + y + 1) else M 6 j := fun j => by rw [g2, mst_k _ _ _ _ (by omega), g1, mst_a, if_pos rfl]
      have v7 : ∀ j, M2 7 j = if j = 41 * e + y then M 7 (41 * e + y + 1) else M 7 j := fun j => by rw [g2, mst_a, if_pos rfl, g1, mst_k _ _ _ _ (by omega)]
      obtain ⟨z, M', i1, i2, i3, i4⟩ := ih fu (y + 1) M2 (by rw [g2, mst_k _ _ _ _ (by omega), g1, mst_k _ _ _ _ (by omega)]; exact h) (by omega) (by omega) (fun j j1 j2 => by rw [v7, if_neg (by omega)]; exact hB j (by omega) j2)
      refine ⟨z, M', ?_, fun k k1 k2 => by rw [i2 k k1 k2, g2, mst_k _ _ _ _ k2, g1, mst_k _ _ _ _ k1], fun j => ?_, fun j => ?_⟩
      · have eix : 41 * iI (e : Int) + iI (y : Int) = iI ((41 * e + y : Nat) : Int) := by
          rw [li_41, iI_mul, iI_add]; exact congrArg iI (by omega)
        have ei1 : iI ((41 * e + y : Nat) : Int) + 1 = iI ((41 * e + y + 1 : Nat) : Int) := by
          rw [li_1, iI_add]; exact congrArg iI (by omega)
        have ey : iI (y : Int) + 1 = iI ((y + 1 : Nat) : Int) := by rw [li_1, iI_add]; rfl
        have m7 : M1 7 (41 * e + y + 1) = M 7 (41 * e + y + 1) := by rw [g1, mst_k _ _ _ _ (by omega)]
        have hb := hB y (by omega) (by omega)
        rw [← i1, L_X7_removePunch_72, mrd_i (by omega) (by omega), Int.toNat_natCast, h, Option.bind_some, if_neg (by rw [iI_le] <;> omega), eix, ei1, mrd_i (by omega) (by omega), Int.toNat_natCast, Option.bind_some, mwr_i (by omega) (by omega), Int.toNat_natCast, ← g1, Option.bind_some, mrd_i (by omega) (by omega), Int.toNat_natCast, m7, Option.bind_some, hb, mwr_i (by omega) (by omega), Int.toNat_natCast, ← g2, Option.bind_some]
        unfold bnd
        rw [ey]
      · rw [i3]
        by_cases d : 41 * e + (y + 1) ≤ j ∧ j < 41 * e + n
        · rw [if_pos d, if_pos (by omega), v6, if_neg (by omega)]
        · rw [if_neg d, v6]
          by_cases d2 : j = 41 * e + y
          · rw [if_pos d2, if_pos (by omega), d2]
          · rw [if_neg d2, if_neg (by omega)]
      · rw [i4]
        by_cases d : 41 * e + (y + 1) ≤ j ∧ j < 41 * e + n
        · rw [if_pos d, if_pos (by omega), v7, if_neg (by omega)]
        · rw [if_neg d, v7]
          by_cases d2 : j = 41 * e + y
          · rw [if_pos d2, if_pos (by omega), d2]
          · rw [if_neg d2, if_neg (by omega)]
theorem bchk_b (b : Bool) : bchk (bI b) = some (bI b) := by cases b <;> rfl
theorem X7_rmP_ok {M : Mem} {e n : Nat} {tm : Nat → Nat} {inn : Nat → Bool} (he : e < 6) (hp : PnOK n tm) (h : PnM M e n tm inn) (h1 : s_X7_isOne M (iI e) = some 1) {x : Int} (hx : -2147483648 ≤ x ∧ x < 2147483648) {P : Nat} (hP : Pl n tm x P) (hi : P < n ∧ (tm P : Int) = x) : ∃ M', s_X7_removePunch M (iI e) (iI x) = some (bI (inn P), M') ∧ PnM M' e (n - 1) (rT P tm) (rB P inn) ∧ M' 1 0 = 0 ∧ Fu e M M' := by
  have hn := hp.1
  have hPn := hi.1
  obtain ⟨M5, g5⟩ : ∃ M5, M5 = mst M 1 0 0 := ⟨_, rfl⟩
  have f5 : ∀ k, k ≠ 1 → M5 k = M k := fun k hk => by rw [g5, mst_k _ _ _ _ hk]
  have h5 : PnM M5 e n tm inn := ⟨by rw [f5 5 (by omega)]; exact h.1, fun k hk => by rw [f5 6 (by omega), f5 7 (by omega)]; exact h.2 k hk⟩
  obtain ⟨M9, g9⟩ : ∃ M9, M9 = mst M5 5 e (iI ((n - 1 : Nat) : Int)) := ⟨_, rfl⟩
  have f9 : ∀ k, k ≠ 1 → k ≠ 5 → M9 k = M k := fun k k1 k2 => by rw [g9, mst_k _ _ _ _ k2, f5 k k1]
  obtain ⟨z, M', i1, i2, i3, i4⟩ := L_prm (n := n - 1) he (by omega) (n - 1 - P) FU P M9 (by rw [g9, mst_a, if_pos rfl, if_pos rfl]) (by omega) (by rw [FU_0]; omega) (fun j _ hj => by rw [f9 7 (by omega) (by omega), show 41 * e + j + 1 = 41 * e + (j + 1) by omega, (h.2 (j + 1) (by omega)).2, nar_b])
  refine ⟨M', ?_, ⟨by rw [i2 5 (by omega) (by omega), g9, mst_a, if_pos rfl, if_pos rfl], fun k hk => ?_⟩, by rw [i2 1 (by omega) (by omega), g9, mst_k _ _ _ _ (by omega), g5, thr], fun k k1 k2 k3 k4 => by rw [i2 k k3 k4, f9 k k1 k2], fun j hj => by rw [i2 1 (by omega) (by omega), g9, mst_k _ _ _ _ (by omega), g5, mst_a, if_pos rfl, if_neg hj], fun j hj => by rw [i2 5 (by omega) (by omega), g9, mst_a, if_pos rfl, if_neg hj, f5 5 (by omega)], fun k j hk hj => ?_⟩
  · have eix : 41 * iI (e : Int) + iI (P : Int) = iI ((41 * e + P : Nat) : Int) := by
      rw [li_41, iI_mul, iI_add]; exact congrArg iI (by omega)
    have e9 : mst M5 5 e (iI (n : Int) - 1) = M9 := by
      rw [g9, li_1, iI_sub]; exact congrArg (fun z => mst M5 5 e (iI z)) (by omega)
    unfold s_X7_removePunch bnd
    rw [h1, Option.bind_some, if_neg (show ¬ (1 : Int32) = 0 by decide), X7_hasP he hp h hx hP, Option.bind_some, decide_eq_true hi, if_neg (show ¬ bI true = 0 by decide), Option.bind_some]
    dsimp only
    rw [thr, if_pos (by decide), ← g5, X7_place he hp h5 hx hP, Option.bind_some, eix, mrd_i (by omega) (by omega), Int.toNat_natCast, (h5.2 P hPn).2, Option.bind_some, mrd_i (by omega) (by omega), Int.toNat_natCast, h5.1, Option.bind_some, mwr_i (by omega) (by omega), Int.toNat_natCast, e9, Option.bind_some, i1, Option.bind_some, bchk_b, Option.bind_some]
  · by_cases c1 : k < P
    · have qT : rT P tm k = tm k := if_pos c1
      have qB : rB P inn k = inn k := if_pos c1
      have q6 : M' 6 (41 * e + k) = M 6 (41 * e + k) := by rw [i3, if_neg (by omega), f9 6 (by omega) (by omega)]
      have q7 : M' 7 (41 * e + k) = M 7 (41 * e + k) := by rw [i4, if_neg (by omega), f9 7 (by omega) (by omega)]
      rw [qT, qB, q6, q7]
      exact h.2 k (by omega)
    · have qT : rT P tm k = tm (k + 1) := if_neg c1
      have qB : rB P inn k = inn (k + 1) := if_neg c1
      have q6 : M' 6 (41 * e + k) = M 6 (41 * e + (k + 1)) := by rw [i3, if_pos (by omega), f9 6 (by omega) (by omega)]; rfl
      have q7 : M' 7 (41 * e + k) = M 7 (41 * e + (k + 1)) := by rw [i4, if_pos (by omega), f9 7 (by omega) (by omega)]; rfl
      rw [qT, qB, q6, q7]
      exact h.2 (k + 1) (by omega)
  · rcases hk with rfl | rfl
    · rw [i3, if_neg (by omega), f9 6 (by omega) (by omega)]
    · rw [i4, if_neg (by omega), f9 7 (by omega) (by omega)]
theorem lw3_ok {M M1 M2 : Mem} {G G1 : Mel} {hn : Nat} {a1 a2 c v : Int32} (hA : s_L_removePunch M G hn a1 a2 = some (c, M1, G1)) (hF : s_X7_removePunch M1 a1 a2 = some (v, M2)) (hc : M2 1 0 = c) (hv : c = 0 → G1 0 0 = if v = 0 then (0 : Int64) else 1) : lw_3 M G hn a1 a2 = some (M2, G1) := by
  unfold lw_3
  rw [hA, Option.bind_some]
  dsimp only
  rw [hF, Option.bind_some]
  unfold s_X7_thrown
  rw [Option.bind_some, if_pos hc]
  dsimp only
  by_cases h : c = 0
  · rw [if_pos h, mrdL_0, Option.bind_some]
    unfold bnd
    dsimp only
    rw [if_pos (hv h)]
  · rw [if_neg h]
theorem k3 : ∀ (hn : Nat) (M : Mem) (G : Mel), Inv hn M G → ∀ (a1 a2 : Int32), ∃ (M' : Mem) (G' : Mel), lw_3 M G hn a1 a2 = some (M', G') ∧ Inv hn M' G' := by
  intro hn M G hI a1 a2
  have hh := hI.1
  rcases find_no hI.1 a1 with ⟨e, he, rfl⟩ | ⟨h0, h1⟩
  · obtain ⟨n, tm, inn, E, B, hE⟩ := hI.2.2.2.1 e he
    have hone := X7_isOne_ok hI.2.1 hI.1 he
    have hn40 := hE.1.1.1
    obtain ⟨x, rfl, hx⟩ := iI_ex a2
    obtain ⟨P, p1, p2⟩ := X6_place hE.1.2.1 hE.1.1 hx
    by_cases d : P < n ∧ (tm P : Int) = x
    · have hPn := d.1
      obtain ⟨M1, c1, c2, c3⟩ := X4_remove hE.1.2.1 hPn
      have F1 : Fe e M M1 := Fe.tb c3 (by omega)
      have r4 : s_X4_get M (46 + 7 * e + 1) (iI P) 1 = some (bI (inn P)) := by
        rw [bI_iI]
        exact X4_get hE.1.2.1 hPn (c := 1) (by rw [wd_big (by omega)]; omega)
      obtain ⟨M2, b1, b2, b3, b4⟩ := X7_rmP_ok (by omega) hE.1.1 (hE.1.2.2.fr c3 (by omega)) (X7_isOne_ok (F1.1.trans hI.2.1) hI.1 he) hx p2 d
      have hc : s_X6_removePunch M hn (iI e) (iI x) = some (0, bI (inn P), M1) := by
        have e6 : (if bI (inn P) = 1 then (1 : Int32) else 0) = bI (inn P) := by cases inn P <;> rfl
        unfold s_X6_removePunch bnd
        rw [X6_find_ok hI.1 he, Option.bind_some, if_neg (not_not_intro rfl)]
        dsimp only
        rw [p1, Option.bind_some, X6_isAt hE.1.2.1 hE.1.1 hx p2.1, Option.bind_some, decide_eq_true d, if_neg (show ¬ bI true = 0 by decide), r4, Option.bind_some, e6, c1, Option.bind_some, bchk_b, Option.bind_some]
      obtain ⟨G1, s1⟩ : ∃ G1, G1 = mstL G 0 0 (if bI (inn P) = 0 then 0 else 1) := ⟨_, rfl⟩
      have hA : s_L_removePunch M G hn (iI e) (iI x) = some (0, M1, G1) := by
        unfold s_L_removePunch bnd
        rw [hc, Option.bind_some, if_neg (not_not_intro rfl)]
        dsimp only
        rw [mwrL_0, ← s1]
        rfl
      have hT : Tb M1 (46 + 7 * e + 1) (n - 1) (pnf (rT P tm) (rB P inn)) := c2.ext (fun i c hi hc => by
        by_cases q : i < P
        · have qT : rT P tm i = tm i := if_pos q
          have qB : rB P inn i = inn i := if_pos q
          unfold pnf
          rw [qT, qB, if_pos q]
        · have qT : rT P tm i = tm (i + 1) := if_neg q
          have qB : rB P inn i = inn (i + 1) := if_neg q
          unfold pnf
          rw [qT, qB, if_neg q])
      refine ⟨M2, G1, lw3_ok hA b1 b3 (fun _ => by rw [s1, mstL_00]), hI.fe he ⟨n - 1, _, _, E, B, hE.setP ⟨hE.1.1.rmv hPn, hT.congr (by rw [b4.1 _ (by omega) (by omega) (by omega) (by omega)]) (b4.1 _ (by omega) (by omega) (by omega) (by omega)), b2⟩ (fun k k1 k2 k3 k4 => by rw [b4.1 k (by omega) (by omega) (by omega) (by omega), c3.1 k k3 (by omega)]) (fun k k1 k2 k3 => by rw [b4.1 k (by omega) (by omega) (by omega) (by omega), c3.1 k (by omega) (by omega)]) (by rw [s1, mstL_0k G _ _ (by omega)]) (by rw [s1, mstL_0k G _ 4 (by omega)])⟩ (F1.tr b4.fe) (Ge.rf0 (by rw [s1]; exact mstL_0k G _))⟩
    · have hc : s_X6_removePunch M hn (iI e) (iI x) = some (4, 0, M) := by
        unfold s_X6_removePunch
        rw [X6_find_ok hI.1 he, Option.bind_some, if_neg (not_not_intro rfl)]
        dsimp only
        rw [p1, Option.bind_some, X6_isAt hE.1.2.1 hE.1.1 hx p2.1, Option.bind_some, decide_eq_false d, if_pos (show bI false = 0 from rfl)]
      refine ⟨mst M 1 0 2, G, lw3_ok (c := 2) (v := 0) (M1 := M) ?_ ?_ (thr _ _) (fun h => absurd h (by decide)), hI.fq (Fq.thrown _ _) (fun _ _ => rfl)⟩
      · unfold s_L_removePunch
        rw [hc]
        rfl
      · unfold s_X7_removePunch bnd
        rw [hone, Option.bind_some, if_neg (show ¬ (1 : Int32) = 0 by decide), X7_hasP (by omega) hE.1.1 hE.1.2.2 hx p2, Option.bind_some, decide_eq_false d, if_pos (show bI false = 0 from rfl), Option.bind_some]
        dsimp only
        rw [thr, if_neg (by decide)]
  · refine ⟨mst M 1 0 1, G, lw3_ok (c := 1) (v := 0) (M1 := M) ?_ ?_ (thr _ _) (fun h => absurd h (by decide)), hI.fq (Fq.thrown _ _) (fun _ _ => rfl)⟩
    · unfold s_L_removePunch s_X6_removePunch; rw [h0]; rfl
    · unfold s_X7_removePunch bnd
      rw [h1 M hI.2.1, Option.bind_some, if_pos rfl, Option.bind_some]
      dsimp only
      rw [thr, if_neg (by decide)]
/-- every case of the law keeps the invariant -/
theorem pstep : PStep Inv :=
  ⟨fun hn M G h => h.1, fun hn M G h a1 hw h6 => k0a hn M G h a1 hw h6, fun hn M G h a1 hw => k0b hn M G h a1 hw, fun hn M G h a1 hw h6 => k0c hn M G h a1 hw h6, k1, k2, k3, k4, k5, k6, k7, k8, k9, k10, k11, k12, k13, k14, k15, k16, k17, k18, k19, k20, k21, k22, k23, k24, k25, k26, k27⟩

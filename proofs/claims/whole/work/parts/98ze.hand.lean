/-! enter, enterBreak, removeEntry, removeBreak -/
theorem wd_big {t : Nat} (h : 46 ≤ t) : wd t = 2 := by
  unfold wd
  rw [if_neg (by omega), if_neg (by omega), if_neg (by omega)]
theorem tl_3 (e : Nat) : tl (46 + 7 * e + 3) = 40 := by
  unfold tl
  rw [if_neg (by omega), if_neg (by omega), if_neg (by omega), if_neg (by omega), if_neg (by omega), if_neg (by omega), if_neg (by omega)]
theorem tl_5 (e : Nat) : tl (46 + 7 * e + 5) = 40 := by
  unfold tl
  rw [if_neg (by omega), if_neg (by omega), if_neg (by omega), if_neg (by omega), if_neg (by omega), if_neg (by omega), if_neg (by omega)]
theorem tl_1 (e : Nat) : tl (46 + 7 * e + 1) = 80 := by
  unfold tl
  rw [if_neg (by omega), if_neg (by omega), if_neg (by omega), if_neg (by omega), if_neg (by omega), if_neg (by omega), if_pos (by omega)]
theorem SpOK.cons {E : List (Nat × Nat)} {x y : Nat} (h : SpOK E 20) (hl : E.length < 20) (h1 : x ≤ y) (h2 : y ≤ 10080) : SpOK ((x, y) :: E) 20 :=
  ⟨by rw [List.length_cons]; omega, fun q hq => by
    rcases List.mem_cons.mp hq with rfl | hq
    · exact ⟨h1, h2⟩
    · exact h.2 q hq⟩
theorem SpM.fr {M M' : Mem} {a b c e t : Nat} {E : List (Nat × Nat)} (h : SpM M a b c e E) (hF : Fr t M M') (ht : 46 ≤ t) (hab : Abc a b c) : SpM M' a b c e E := by
  have hab' : (a = 8 ∧ b = 9 ∧ c = 10) ∨ (a = 11 ∧ b = 12 ∧ c = 13) := hab
  exact ⟨by rw [hF.1 a (by omega) (by omega)]; exact h.1, fun k hk => by rw [hF.1 b (by omega) (by omega), hF.1 c (by omega) (by omega)]; exact h.2 k hk⟩
theorem k4 : ∀ (hn : Nat) (M : Mem) (G : Mel), Inv hn M G → ∀ (a1 a2 a3 : Int32), ∃ (M' : Mem) (G' : Mel), lw_4 M G hn a1 a2 a3 = some (M', G') ∧ Inv hn M' G' := by
  intro hn M G hI a1 a2 a3
  have hh := hI.1
  show ∃ (M' : Mem) (G' : Mel), lwq (s_L_enter M G hn a1 a2 a3) (fun M => s_X7_enter M a1 a2 a3) = some (M', G') ∧ Inv hn M' G'
  rcases find_no hI.1 a1 with ⟨e, he, rfl⟩ | ⟨h0, h1⟩
  · obtain ⟨n, tm, inn, E, B, hE⟩ := hI.2.2.2.1 e he
    have hone := X7_isOne_ok hI.2.1 hI.1 he
    rcases hand_cases a2 a3 with ⟨x, y, hxy, hy, rfl, rfl, p1, p2, p3, p4, p5⟩ | ⟨p1, p2⟩
    · have K := X6_hand hE.2.1.2.1 (wd_big (by omega)) (tl_3 e) p1 p2
      by_cases c : E.length < 20
      · rw [if_pos c] at K
        obtain ⟨M1, c1, c2, c3⟩ := K
        have F1 : Fe e M M1 := Fe.tb c3 (by omega)
        obtain ⟨M2, b1, b2, b3, b4⟩ := X7_puts_ok (by omega) (Or.inl ⟨rfl, rfl, rfl⟩) (X7_isOne_ok (F1.1.trans hI.2.1) hI.1 he) (hE.2.1.2.2.fr c3 (by omega) (Or.inl ⟨rfl, rfl, rfl⟩)) c p3 p4 p5
        refine change_ok hI he (v := iI (E.length : Int)) (L_enter_ok (M1 := M1) ?_) (M2 := M2) ?_ b3 ⟨n, tm, inn, _, B, hE.setE ⟨hE.2.1.1.cons c (by omega) hy, c2.congr (by rw [b4.1 _ (by omega) (by omega) (by omega) (by omega)]) (b4.1 _ (by omega) (by omega) (by omega) (by omega)), b2⟩ (fun k k1 k2 k3 k4 => by rw [b4.1 k (by omega) (by omega) (by omega) (by omega), c3.1 k k3 (by omega)]) (fun k k1 k2 k3 => by rw [b4.1 k (by omega) (by omega) (by omega) (by omega), c3.1 k (by omega) (by omega)]) (by rw [mstL_0k G _ _ (by omega)]) (by rw [mstL_0k G _ 4 (by omega)])⟩ F1 (b4.fe (Or.inl ⟨rfl, rfl, rfl⟩))
        · unfold s_X6_enter
          rw [X6_find_ok hI.1 he, Option.bind_some, if_neg (not_not_intro rfl)]
          dsimp only
          rw [c1]
          rfl
        · show s_X7_enter M1 (iI e) (iI x) (iI y) = _
          unfold s_X7_enter
          rw [b1]
          rfl
      · rw [if_neg c] at K
        refine query_no hI (c := 3) (v := 0) (M2 := mst M 1 0 3) (L_enter_x2 (v := 0) (M1 := M) ?_) (by decide) ?_ (thr _ _) Fq.rf (Fq.thrown _ _)
        · unfold s_X6_enter
          rw [X6_find_ok hI.1 he, Option.bind_some, if_neg (not_not_intro rfl)]
          dsimp only
          rw [K]
          rfl
        · show s_X7_enter M (iI e) (iI x) (iI y) = _
          unfold s_X7_enter
          have hl := hE.2.1.1.1
          rw [X7_puts_x hone (p := 3) (by rw [p3, Option.bind_some, if_neg (show ¬ (1 : Int32) = 0 by decide), if_neg p4, if_pos p5, mrd_i (by omega) (by omega), Int.toNat_natCast, hE.2.1.2.2.1, Option.bind_some, if_pos (by rw [li_20, iI_eq] <;> omega)]) (by decide)]
          rfl
    · refine query_no hI (c := 2) (v := 0) (M2 := mst M 1 0 2) (L_enter_x1 (v := 0) (M1 := M) ?_) (by decide) ?_ (thr _ _) Fq.rf (Fq.thrown _ _)
      · unfold s_X6_enter
        rw [X6_find_ok hI.1 he, Option.bind_some, if_neg (not_not_intro rfl), p1]
        rfl
      · show s_X7_enter M (iI e) a2 a3 = _
        unfold s_X7_enter
        rw [X7_puts_x hone (p2 _) (by decide)]
        rfl
  · refine query_no hI (c := 1) (v := 0) (M2 := mst M 1 0 1) (L_enter_x3 (v := 0) (M1 := M) ?_) (by decide) ?_ (thr _ _) Fq.rf (Fq.thrown _ _)
    · unfold s_X6_enter; rw [h0]; rfl
    · show s_X7_enter M a1 a2 a3 = _
      unfold s_X7_enter
      rw [X7_puts_no (h1 M hI.2.1)]
      rfl
theorem k6 : ∀ (hn : Nat) (M : Mem) (G : Mel), Inv hn M G → ∀ (a1 a2 a3 : Int32), ∃ (M' : Mem) (G' : Mel), lw_6 M G hn a1 a2 a3 = some (M', G') ∧ Inv hn M' G' := by
  intro hn M G hI a1 a2 a3
  have hh := hI.1
  show ∃ (M' : Mem) (G' : Mel), lwq (s_L_enterBreak M G hn a1 a2 a3) (fun M => s_X7_enterBreak M a1 a2 a3) = some (M', G') ∧ Inv hn M' G'
  rcases find_no hI.1 a1 with ⟨e, he, rfl⟩ | ⟨h0, h1⟩
  · obtain ⟨n, tm, inn, E, B, hE⟩ := hI.2.2.2.1 e he
    have hone := X7_isOne_ok hI.2.1 hI.1 he
    rcases hand_cases a2 a3 with ⟨x, y, hxy, hy, rfl, rfl, p1, p2, p3, p4, p5⟩ | ⟨p1, p2⟩
    · have K := X6_hand hE.2.2.1.2.1 (wd_big (by omega)) (tl_5 e) p1 p2
      by_cases c : B.length < 20
      · rw [if_pos c] at K
        obtain ⟨M1, c1, c2, c3⟩ := K
        have F1 : Fe e M M1 := Fe.tb c3 (by omega)
        obtain ⟨M2, b1, b2, b3, b4⟩ := X7_puts_ok (by omega) (Or.inr ⟨rfl, rfl, rfl⟩) (X7_isOne_ok (F1.1.trans hI.2.1) hI.1 he) (hE.2.2.1.2.2.fr c3 (by omega) (Or.inr ⟨rfl, rfl, rfl⟩)) c p3 p4 p5
        refine change_ok hI he (v := iI (B.length : Int)) (L_enterBreak_ok (M1 := M1) ?_) (M2 := M2) ?_ b3 ⟨n, tm, inn, E, _, hE.setB ⟨hE.2.2.1.1.cons c (by omega) hy, c2.congr (by rw [b4.1 _ (by omega) (by omega) (by omega) (by omega)]) (b4.1 _ (by omega) (by omega) (by omega) (by omega)), b2⟩ (fun k k1 k2 k3 k4 => by rw [b4.1 k (by omega) (by omega) (by omega) (by omega), c3.1 k k3 (by omega)]) (fun k k1 k2 k3 => by rw [b4.1 k (by omega) (by omega) (by omega) (by omega), c3.1 k (by omega) (by omega)]) (by rw [mstL_0k G _ _ (by omega)]) (by rw [mstL_0k G _ 4 (by omega)])⟩ F1 (b4.fe (Or.inr ⟨rfl, rfl, rfl⟩))
        · unfold s_X6_enterBreak
          rw [X6_find_ok hI.1 he, Option.bind_some, if_neg (not_not_intro rfl)]
          dsimp only
          rw [c1]
          rfl
        · show s_X7_enterBreak M1 (iI e) (iI x) (iI y) = _
          unfold s_X7_enterBreak
          rw [b1]
          rfl
      · rw [if_neg c] at K
        refine query_no hI (c := 3) (v := 0) (M2 := mst M 1 0 3) (L_enterBreak_x2 (v := 0) (M1 := M) ?_) (by decide) ?_ (thr _ _) Fq.rf (Fq.thrown _ _)
        · unfold s_X6_enterBreak
          rw [X6_find_ok hI.1 he, Option.bind_some, if_neg (not_not_intro rfl)]
          dsimp only
          rw [K]
          rfl
        · show s_X7_enterBreak M (iI e) (iI x) (iI y) = _
          unfold s_X7_enterBreak
          have hl := hE.2.2.1.1.1
          rw [X7_puts_x hone (p := 3) (by rw [p3, Option.bind_some, if_neg (show ¬ (1 : Int32) = 0 by decide), if_neg p4, if_pos p5, mrd_i (by omega) (by omega), Int.toNat_natCast, hE.2.2.1.2.2.1, Option.bind_some, if_pos (by rw [li_20, iI_eq] <;> omega)]) (by decide)]
          rfl
    · refine query_no hI (c := 2) (v := 0) (M2 := mst M 1 0 2) (L_enterBreak_x1 (v := 0) (M1 := M) ?_) (by decide) ?_ (thr _ _) Fq.rf (Fq.thrown _ _)
      · unfold s_X6_enterBreak
        rw [X6_find_ok hI.1 he, Option.bind_some, if_neg (not_not_intro rfl), p1]
        rfl
      · show s_X7_enterBreak M (iI e) a2 a3 = _
        unfold s_X7_enterBreak
        rw [X7_puts_x hone (p2 _) (by decide)]
        rfl
  · refine query_no hI (c := 1) (v := 0) (M2 := mst M 1 0 1) (L_enterBreak_x3 (v := 0) (M1 := M) ?_) (by decide) ?_ (thr _ _) Fq.rf (Fq.thrown _ _)
    · unfold s_X6_enterBreak; rw [h0]; rfl
    · show s_X7_enterBreak M a1 a2 a3 = _
      unfold s_X7_enterBreak
      rw [X7_puts_no (h1 M hI.2.1)]
      rfl
/-- a list by its numbers, the last first -/
def lst (f : Nat → Nat × Nat) : Nat → List (Nat × Nat)
  | 0 => []
  | n + 1 => f n :: lst f n
theorem lst_len (f : Nat → Nat × Nat) : ∀ n, (lst f n).length = n
  | 0 => rfl
  | n + 1 => by rw [lst, List.length_cons, lst_len f n]
theorem lst_gx (f : Nat → Nat × Nat) : ∀ n i, i < n → gx (lst f n) (0, 0) i = f i
  | 0, i, h => by omega
  | n + 1, i, h => by
    rw [lst]
    by_cases c : i = n
    · have e := gx_eq (l := lst f n) (q := f n) (d := (0, 0))
      rw [lst_len] at e
      rw [c, e]
    · rw [gx_lt (by rw [lst_len]; omega)]
      exact lst_gx f n i (by omega)
theorem lst_mem (f : Nat → Nat × Nat) : ∀ n q, q ∈ lst f n → ∃ i, i < n ∧ q = f i
  | 0, q, h => by cases h
  | n + 1, q, h => by
    rw [lst] at h
    rcases List.mem_cons.mp h with rfl | h
    · exact ⟨n, by omega, rfl⟩
    · obtain ⟨i, h1, h2⟩ := lst_mem f n q h
      exact ⟨i, by omega, h2⟩
def rmv (E : List (Nat × Nat)) (k : Nat) : List (Nat × Nat) := lst (fun i => gx E (0, 0) (if i < k then i else i + 1)) (E.length - 1)
theorem rmv_len (E : List (Nat × Nat)) (k : Nat) : (rmv E k).length = E.length - 1 := lst_len _ _
theorem rmv_gx {E : List (Nat × Nat)} {k i : Nat} (h : i < E.length - 1) : gx (rmv E k) (0, 0) i = gx E (0, 0) (if i < k then i else i + 1) := lst_gx _ _ i h
theorem rmv_ok {E : List (Nat × Nat)} {k : Nat} (h : SpOK E 20) : SpOK (rmv E k) 20 := by
  refine ⟨by rw [rmv_len]; have := h.1; omega, fun q hq => ?_⟩
  obtain ⟨i, h1, rfl⟩ := lst_mem _ _ q hq
  refine h.2 _ (gx_mem (0, 0) ?_)
  by_cases c : i < k
  · rw [if_pos c]; omega
  · rw [if_neg c]; omega
theorem X6_rmv {M : Mem} {t k : Nat} {E : List (Nat × Nat)} (hT : Tl M t E) (hk : k < E.length) (hq : s_X6_requireNumber M t (iI (k : Int)) = some 0) : ∃ M1, s_X6_removeNumbered M t (iI k) = some (0, iI ((E.length - 1 : Nat) : Int), M1) ∧ Tl M1 t (rmv E k) ∧ Fr t M M1 := by
  obtain ⟨M1, a1, a2, a3⟩ := X4_remove hT hk
  have a4 : Tl M1 t (rmv E k) := by
    unfold Tl
    rw [rmv_len]
    refine a2.ext (fun i c hi hc => ?_)
    unfold spf
    rw [rmv_gx hi]
    by_cases d : i < k
    · rw [if_pos d, if_pos d]
    · rw [if_neg d, if_neg d]
  refine ⟨M1, ?_, a4, a3⟩
  unfold s_X6_removeNumbered
  rw [hq, Option.bind_some, if_neg (not_not_intro rfl), a1, Option.bind_some, X4_sz a2]
  rfl
theorem L_takes {e a b c n : Nat} (he : e < 6) (hab : Abc a b c) (hn : n ≤ 19) : ∀ (r fu y : Nat) (M : Mem), M a e = iI (n : Int) → y + r = 20 * e + n → r < fu → ∃ z M', L_X7_takes_54 (iI e) a b c fu (iI (y : Int)) M = some (z, M') ∧ (∀ k, k ≠ b → k ≠ c → M' k = M k) ∧ (∀ j, M' b j = if y ≤ j ∧ j < 20 * e + n then M b (j + 1) else M b j) ∧ ∀ j, M' c j = if y ≤ j ∧ j < 20 * e + n then M c (j + 1) else M c j := by
  have hab' : (a = 8 ∧ b = 9 ∧ c = 10) ∨ (a = 11 ∧ b = 12 ∧ c = 13) := hab
  have eix : 20 * iI (e : Int) + iI (n : Int) = iI ((20 * e + n : Nat) : Int) := by
    rw [li_20, iI_mul, iI_add]; exact congrArg iI (by omega)
  intro r
  induction r with
  | zero =>
    intro fu y M h hy hf
    cases fu with
    | zero => omega
    | succ fu =>
      refine ⟨iI (y : Int), M, ?_, fun _ _ _ => rfl, fun j => by rw [if_neg (by omega)], fun j => by rw [if_neg (by omega)]⟩
      rw [L_X7_takes_54, mrd_i (by omega) (by omega), Int.toNat_natCast, h, Option.bind_some, eix, if_pos (by rw [iI_le] <;> omega)]
  | succ r ih =>
    intro fu y M h hy hf
    cases fu with
    | zero => omega
    | succ fu =>
      obtain ⟨M1, g1⟩ : ∃ M1, M1 = mst M b y (M b (y + 1)) := ⟨_, rfl⟩
      obtain ⟨M2, g2⟩ : ∃ M2, M2 = mst M1 c y (M c (y + 1)) := ⟨_, rfl⟩
      have b2 : ∀ j, M2 b j = if j = y then M b (y + 1) else M b j := fun j => by rw [g2, mst_k _ _ _ _ (by omega), g1, mst_a, if_pos rfl]
      have c2 : ∀ j, M2 c j = if j = y then M c (y + 1) else M c j := fun j => by rw [g2, mst_a, if_pos rfl, g1, mst_k _ _ _ _ (by omega)]
      have o2 : ∀ k, k ≠ b → k ≠ c → M2 k = M k := fun k k1 k2 => by rw [g2, mst_k _ _ _ _ k2, g1, mst_k _ _ _ _ k1]
      obtain ⟨z, M', i1, i2, i3, i4⟩ := ih fu (y + 1) M2 (by rw [o2 a (by omega) (by omega)]; exact h) (by omega) (by omega)
      refine ⟨z, M', ?_, fun k k1 k2 => by rw [i2 k k1 k2, o2 k k1 k2], fun j => ?_, fun j => ?_⟩
      · have e1 : iI (y : Int) + 1 = iI ((y + 1 : Nat) : Int) := by rw [li_1, iI_add]; rfl
        have c1 : M1 c (y + 1) = M c (y + 1) := by rw [g1, mst_k _ _ _ _ (by omega)]
        rw [← i1, L_X7_takes_54, mrd_i (by omega) (by omega), Int.toNat_natCast, h, Option.bind_some, eix, if_neg (by rw [iI_le] <;> omega), e1, mrd_i (by omega) (by omega), Int.toNat_natCast, Option.bind_some, mwr_i (by omega) (by omega), Int.toNat_natCast, ← g1, Option.bind_some, mrd_i (by omega) (by omega), Int.toNat_natCast, c1, Option.bind_some, mwr_i (by omega) (by omega), Int.toNat_natCast, ← g2, Option.bind_some]
        rfl
      · rw [i3]
        by_cases d : y + 1 ≤ j ∧ j < 20 * e + n
        · rw [if_pos d, if_pos (by omega), b2, if_neg (by omega)]
        · rw [if_neg d, b2]
          by_cases d2 : j = y
          · rw [if_pos d2, if_pos (by omega), d2]
          · rw [if_neg d2, if_neg (by omega)]
      · rw [i4]
        by_cases d : y + 1 ≤ j ∧ j < 20 * e + n
        · rw [if_pos d, if_pos (by omega), c2, if_neg (by omega)]
        · rw [if_neg d, c2]
          by_cases d2 : j = y
          · rw [if_pos d2, if_pos (by omega), d2]
          · rw [if_neg d2, if_neg (by omega)]
theorem X7_takes_ok {M : Mem} {e a b c k : Nat} {E : List (Nat × Nat)} (he : e < 6) (hab : Abc a b c) (h1 : s_X7_isOne M (iI e) = some 1) (hS : SpM M a b c e E) (hl : E.length ≤ 20) (hk : k < E.length) (k1 : s_X7_in (iI (k : Int)) 0 (iI (E.length : Int) - 1) = some 1) : ∃ M', s_X7_takes M (iI e) (iI k) a b c = some (iI ((E.length - 1 : Nat) : Int), M') ∧ SpM M' a b c e (rmv E k) ∧ M' 1 0 = 0 ∧ Fs e a b c M M' := by
  have hab' : (a = 8 ∧ b = 9 ∧ c = 10) ∨ (a = 11 ∧ b = 12 ∧ c = 13) := hab
  obtain ⟨M6, g6⟩ : ∃ M6, M6 = mst M 1 0 0 := ⟨_, rfl⟩
  obtain ⟨M8, g8⟩ : ∃ M8, M8 = mst M6 a e (iI ((E.length - 1 : Nat) : Int)) := ⟨_, rfl⟩
  have a6 : M6 a e = iI (E.length : Int) := by rw [g6, mst_k _ _ _ _ (by omega)]; exact hS.1
  have a8 : ∀ j, M8 a j = if j = e then iI ((E.length - 1 : Nat) : Int) else M a j := fun j => by rw [g8, mst_a, if_pos rfl, g6, mst_k _ _ _ _ (by omega)]
  have o8 : ∀ j, j ≠ 1 → j ≠ a → M8 j = M j := fun j j1 j2 => by rw [g8, mst_k _ _ _ _ j2, g6, mst_k _ _ _ _ j1]
  obtain ⟨z, M', i1, i2, i3, i4⟩ := L_takes (n := E.length - 1) he hab (by omega) (E.length - 1 - k) FU (20 * e + k) M8 (by rw [a8, if_pos rfl]) (by omega) (by rw [FU_0]; omega)
  refine ⟨M', ?_, ⟨by rw [i2 a (by omega) (by omega), a8, if_pos rfl, rmv_len], fun i hi => ?_⟩, by rw [i2 1 (by omega) (by omega), g8, mst_k _ _ _ _ (by omega), g6, thr], fun q q1 q2 q3 q4 => by rw [i2 q q3 q4, o8 q q1 q2], fun j hj => by rw [i2 1 (by omega) (by omega), g8, mst_k _ _ _ _ (by omega), g6, mst_a, if_pos rfl, if_neg hj], fun j hj => by rw [i2 a (by omega) (by omega), a8, if_neg hj], fun j hj => ?_⟩
  · have e9 : 20 * iI (e : Int) + iI (k : Int) = iI ((20 * e + k : Nat) : Int) := by
      rw [li_20, iI_mul, iI_add]; exact congrArg iI (by omega)
    have e8 : mwr 6 M6 a (iI (e : Int)) (iI (E.length : Int) - 1) = some M8 := by
      rw [mwr_i (by omega) (by omega), Int.toNat_natCast, li_1, iI_sub, g8]
      exact congrArg (fun z => some (mst M6 a e (iI z))) (by omega)
    unfold s_X7_takes bnd
    rw [h1, Option.bind_some, if_neg (show ¬ (1 : Int32) = 0 by decide), mrd_i (by omega) (by omega), Int.toNat_natCast, hS.1, Option.bind_some, k1, Option.bind_some, if_neg (show ¬ (1 : Int32) = 0 by decide), Option.bind_some]
    dsimp only
    rw [thr, if_pos (by decide), ← g6, mrd_i (by omega) (by omega), Int.toNat_natCast, a6, Option.bind_some, e8, Option.bind_some, e9, i1, Option.bind_some]
    dsimp only
    rw [mrd_i (by omega) (by omega), Int.toNat_natCast, i2 a (by omega) (by omega), a8, if_pos rfl, Option.bind_some]
  · rw [rmv_len] at hi
    rw [rmv_gx hi, i3, i4, o8 b (by omega) (by omega), o8 c (by omega) (by omega)]
    by_cases d : i < k
    · rw [if_pos d, if_neg (by omega), if_neg (by omega)]; exact hS.2 i (by omega)
    · rw [if_neg d, if_pos (by omega), if_pos (by omega)]; exact hS.2 (i + 1) (by omega)
  · rw [i3, i4, if_neg (by omega), if_neg (by omega), o8 b (by omega) (by omega), o8 c (by omega) (by omega)]; exact ⟨rfl, rfl⟩
theorem X7_takes_x {M : Mem} {e a b c : Nat} {E : List (Nat × Nat)} {x : Int32} (he : e < 6) (h1 : s_X7_isOne M (iI e) = some 1) (hS : SpM M a b c e E) (k1 : s_X7_in x 0 (iI (E.length : Int) - 1) = some 0) : s_X7_takes M (iI e) x a b c = some (0, mst M 1 0 1) := by
  unfold s_X7_takes bnd
  rw [h1, Option.bind_some, if_neg (show ¬ (1 : Int32) = 0 by decide), mrd_i (by omega) (by omega), Int.toNat_natCast, hS.1, Option.bind_some, k1, Option.bind_some, if_pos rfl, Option.bind_some]
  dsimp only
  rw [thr, if_neg (by decide)]
theorem X7_takes_no {M : Mem} {x0 x1 : Int32} {a b c : Nat} (h1 : s_X7_isOne M x0 = some 0) : s_X7_takes M x0 x1 a b c = some (0, mst M 1 0 1) := by
  unfold s_X7_takes bnd
  rw [h1, Option.bind_some, if_pos rfl, Option.bind_some]
  dsimp only
  rw [thr, if_neg (by decide)]
theorem k5 : ∀ (hn : Nat) (M : Mem) (G : Mel), Inv hn M G → ∀ (a1 a2 : Int32), ∃ (M' : Mem) (G' : Mel), lw_5 M G hn a1 a2 = some (M', G') ∧ Inv hn M' G' := by
  intro hn M G hI a1 a2
  have hh := hI.1
  show ∃ (M' : Mem) (G' : Mel), lwq (s_L_removeEntry M G hn a1 a2) (fun M => s_X7_removeEntry M a1 a2) = some (M', G') ∧ Inv hn M' G'
  rcases find_no hI.1 a1 with ⟨e, he, rfl⟩ | ⟨h0, h1⟩
  · obtain ⟨n, tm, inn, E, B, hE⟩ := hI.2.2.2.1 e he
    have hone := X7_isOne_ok hI.2.1 hI.1 he
    have hl := hE.2.1.1.1
    rcases nmbr hE.2.1.2.1 a2 with ⟨k, p1, rfl, p2, p3⟩ | ⟨p2, p3⟩
    · obtain ⟨M1, c1, c2, c3⟩ := X6_rmv hE.2.1.2.1 p1 p2
      have F1 : Fe e M M1 := Fe.tb c3 (by omega)
      obtain ⟨M2, b1, b2, b3, b4⟩ := X7_takes_ok (by omega) (Or.inl ⟨rfl, rfl, rfl⟩) (X7_isOne_ok (F1.1.trans hI.2.1) hI.1 he) (hE.2.1.2.2.fr c3 (by omega) (Or.inl ⟨rfl, rfl, rfl⟩)) hl p1 p3
      refine change_ok hI he (v := iI ((E.length - 1 : Nat) : Int)) (L_removeEntry_ok (M1 := M1) ?_) (M2 := M2) ?_ b3 ⟨n, tm, inn, _, B, hE.setE ⟨rmv_ok hE.2.1.1, c2.congr (by rw [b4.1 _ (by omega) (by omega) (by omega) (by omega)]) (b4.1 _ (by omega) (by omega) (by omega) (by omega)), b2⟩ (fun k k1 k2 k3 k4 => by rw [b4.1 k (by omega) (by omega) (by omega) (by omega), c3.1 k k3 (by omega)]) (fun k k1 k2 k3 => by rw [b4.1 k (by omega) (by omega) (by omega) (by omega), c3.1 k (by omega) (by omega)]) (by rw [mstL_0k G _ _ (by omega)]) (by rw [mstL_0k G _ 4 (by omega)])⟩ F1 (b4.fe (Or.inl ⟨rfl, rfl, rfl⟩))
      · unfold s_X6_removeEntry
        rw [X6_find_ok hI.1 he, Option.bind_some, if_neg (not_not_intro rfl)]
        dsimp only
        rw [c1]
        rfl
      · show s_X7_removeEntry M1 (iI e) (iI k) = _
        unfold s_X7_removeEntry
        rw [b1]
        rfl
    · refine query_no hI (c := 1) (v := 0) (M2 := mst M 1 0 1) (L_removeEntry_x3 (v := 0) (M1 := M) ?_) (by decide) ?_ (thr _ _) Fq.rf (Fq.thrown _ _)
      · unfold s_X6_removeEntry s_X6_removeNumbered
        rw [X6_find_ok hI.1 he, Option.bind_some, if_neg (not_not_intro rfl)]
        dsimp only
        rw [p2]
        rfl
      · show s_X7_removeEntry M (iI e) a2 = _
        unfold s_X7_removeEntry
        rw [X7_takes_x (by omega) hone hE.2.1.2.2 p3]
        rfl
  · refine query_no hI (c := 1) (v := 0) (M2 := mst M 1 0 1) (L_removeEntry_x3 (v := 0) (M1 := M) ?_) (by decide) ?_ (thr _ _) Fq.rf (Fq.thrown _ _)
    · unfold s_X6_removeEntry; rw [h0]; rfl
    · show s_X7_removeEntry M a1 a2 = _
      unfold s_X7_removeEntry
      rw [X7_takes_no (h1 M hI.2.1)]
      rfl
theorem k7 : ∀ (hn : Nat) (M : Mem) (G : Mel), Inv hn M G → ∀ (a1 a2 : Int32), ∃ (M' : Mem) (G' : Mel), lw_7 M G hn a1 a2 = some (M', G') ∧ Inv hn M' G' := by
  intro hn M G hI a1 a2
  have hh := hI.1
  show ∃ (M' : Mem) (G' : Mel), lwq (s_L_removeBreak M G hn a1 a2) (fun M => s_X7_removeBreak M a1 a2) = some (M', G') ∧ Inv hn M' G'
  rcases find_no hI.1 a1 with ⟨e, he, rfl⟩ | ⟨h0, h1⟩
  · obtain ⟨n, tm, inn, E, B, hE⟩ := hI.2.2.2.1 e he
    have hone := X7_isOne_ok hI.2.1 hI.1 he
    have hl := hE.2.2.1.1.1
    rcases nmbr hE.2.2.1.2.1 a2 with ⟨k, p1, rfl, p2, p3⟩ | ⟨p2, p3⟩
    · obtain ⟨M1, c1, c2, c3⟩ := X6_rmv hE.2.2.1.2.1 p1 p2
      have F1 : Fe e M M1 := Fe.tb c3 (by omega)
      obtain ⟨M2, b1, b2, b3, b4⟩ := X7_takes_ok (by omega) (Or.inr ⟨rfl, rfl, rfl⟩) (X7_isOne_ok (F1.1.trans hI.2.1) hI.1 he) (hE.2.2.1.2.2.fr c3 (by omega) (Or.inr ⟨rfl, rfl, rfl⟩)) hl p1 p3
      refine change_ok hI he (v := iI ((B.length - 1 : Nat) : Int)) (L_removeBreak_ok (M1 := M1) ?_) (M2 := M2) ?_ b3 ⟨n, tm, inn, E, _, hE.setB ⟨rmv_ok hE.2.2.1.1, c2.congr (by rw [b4.1 _ (by omega) (by omega) (by omega) (by omega)]) (b4.1 _ (by omega) (by omega) (by omega) (by omega)), b2⟩ (fun k k1 k2 k3 k4 => by rw [b4.1 k (by omega) (by omega) (by omega) (by omega), c3.1 k k3 (by omega)]) (fun k k1 k2 k3 => by rw [b4.1 k (by omega) (by omega) (by omega) (by omega), c3.1 k (by omega) (by omega)]) (by rw [mstL_0k G _ _ (by omega)]) (by rw [mstL_0k G _ 4 (by omega)])⟩ F1 (b4.fe (Or.inr ⟨rfl, rfl, rfl⟩))
      · unfold s_X6_removeBreak
        rw [X6_find_ok hI.1 he, Option.bind_some, if_neg (not_not_intro rfl)]
        dsimp only
        rw [c1]
        rfl
      · show s_X7_removeBreak M1 (iI e) (iI k) = _
        unfold s_X7_removeBreak
        rw [b1]
        rfl
    · refine query_no hI (c := 1) (v := 0) (M2 := mst M 1 0 1) (L_removeBreak_x3 (v := 0) (M1 := M) ?_) (by decide) ?_ (thr _ _) Fq.rf (Fq.thrown _ _)
      · unfold s_X6_removeBreak s_X6_removeNumbered
        rw [X6_find_ok hI.1 he, Option.bind_some, if_neg (not_not_intro rfl)]
        dsimp only
        rw [p2]
        rfl
      · show s_X7_removeBreak M (iI e) a2 = _
        unfold s_X7_removeBreak
        rw [X7_takes_x (by omega) hone hE.2.2.1.2.2 p3]
        rfl
  · refine query_no hI (c := 1) (v := 0) (M2 := mst M 1 0 1) (L_removeBreak_x3 (v := 0) (M1 := M) ?_) (by decide) ?_ (thr _ _) Fq.rf (Fq.thrown _ _)
    · unfold s_X6_removeBreak; rw [h0]; rfl
    · show s_X7_removeBreak M a1 a2 = _
      unfold s_X7_removeBreak
      rw [X7_takes_no (h1 M hI.2.1)]
      rfl

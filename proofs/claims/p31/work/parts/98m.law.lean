/-! the law's loops, and its whole -/
theorem low_ok (v : Int32) {n : Nat} (hn : 0 < n ∧ n ≤ 10000) : ∃ m : Nat, m < n ∧ s_L_low v (iI (n : Int)) = some (iI (m : Int)) := by
  obtain ⟨j, hj, ej⟩ := pk_andE v (m := 2147483647) 31 rfl
  refine ⟨j % n, Nat.mod_lt _ hn.1, ?_⟩
  have h1 : ((j % n : Nat) : Int) = (j : Int) - (j : Int) / (n : Int) * (n : Int) := by
    rw [Int.natCast_emod, Int.emod_def, Int.mul_comm]
  unfold s_L_low
  rw [if_neg (by rw [li_0, iI_eq] <;> omega), ej, iI_nI, iI_div (by omega) (by omega), iI_mul, iI_sub, h1]
theorem cell_ok {L : Nat} (hL : L ≤ 260) (xs : Nat → Int32) {k : Nat} (hk : k ≤ 10000) : ∃ v, s_L_cell L xs (iI (k : Int)) = some v := by
  unfold s_L_cell
  rw [iI_nI]
  by_cases c : k < L
  · rw [if_pos (by rw [iI_lt] <;> omega), if_neg]
    · exact ⟨_, rfl⟩
    · rw [iI_cl (by omega), Int.toNat_natCast, li_0, iI_lt (by omega) (by omega)]
      omega
  · rw [if_neg (by rw [iI_lt] <;> omega)]
    exact ⟨_, rfl⟩
/-- a number for a number in range, by its place -/
theorem low_at {L : Nat} (hL : L ≤ 260) (xs : Nat → Int32) {k : Nat} (hk : k ≤ 10000) : ∃ v, s_L_cell L xs (iI (k : Int)) = some v := cell_ok hL xs hk
section
variable {E B : List (Nat × Nat)} {pn : Nat} {pr : Nat → Nat → Nat} {x y : Int32}
/-- the premiums -/
theorem L_prem {L : Nat} (hL : L ≤ 260) (xs : Nat → Int32) {n : Nat} (hn : n < 4) : ∀ (r fu k : Nat) (pr : Nat → Nat → Nat) (M : Mem), k + r = n → r < fu → St M [] [] k pr x y → ∃ z pr' M', L_L_law_41 L xs (iI (n : Int)) fu (iI (k : Int)) M = some (z, M') ∧ St M' [] [] n pr' x y := by
  intro r
  induction r with
  | zero =>
    intro fu k pr M hk hf h
    have e : k = n := by omega
    subst e
    obtain ⟨f, rfl⟩ : ∃ f, fu = f + 1 := ⟨fu - 1, by omega⟩
    refine ⟨iI (k : Int), pr, M, ?_, h⟩
    rw [L_L_law_41, if_pos (by rw [iI_le] <;> omega)]
  | succ r ih =>
    intro fu k pr M hk hf h
    obtain ⟨f, rfl⟩ : ∃ f, fu = f + 1 := ⟨fu - 1, by omega⟩
    obtain ⟨v, hv⟩ := cell_ok hL xs (k := 2 + k) (by omega)
    obtain ⟨a, ha, ea⟩ := low_ok v (n := 127) (by omega)
    obtain ⟨b, hb, eb⟩ := low_ok (v >>> (7 &&& 31)) (n := 1440) (by omega)
    obtain ⟨c, hc, ec⟩ := low_ok (v >>> (12 &&& 31)) (n := 1440) (by omega)
    obtain ⟨d, hd, ed⟩ := low_ok (v >>> (9 &&& 31)) (n := 900) (by omega)
    obtain ⟨w, M1, c1, c2⟩ := c_addPremium h (by omega) (a := 1 + a) (b := b) (c := c) (d := 1 + d) (by omega) (by omega) (by omega) (by omega)
    obtain ⟨z, pr', M', d1, d2⟩ := ih f (k + 1) _ M1 (by omega) (by omega) c2
    refine ⟨z, pr', M', ?_, d2⟩
    have e0 : (2 : Int32) + iI (k : Int) = iI ((2 + k : Nat) : Int) := by rw [li_2, iI_add]; exact congrArg iI (by omega)
    have e1 : (1 : Int32) + iI (a : Int) = iI ((1 + a : Nat) : Int) := by rw [li_1, iI_add]; exact congrArg iI (by omega)
    have e2 : (1 : Int32) + iI (d : Int) = iI ((1 + d : Nat) : Int) := by rw [li_1, iI_add]; exact congrArg iI (by omega)
    have e3 : iI (k : Int) + 1 = iI ((k + 1 : Nat) : Int) := by rw [li_1, iI_add]; exact congrArg iI (by omega)
    have ea' : s_L_low v 127 = some (iI (a : Int)) := ea
    have eb' : s_L_low (v >>> (7 &&& 31)) 1440 = some (iI (b : Int)) := eb
    have ec' : s_L_low (v >>> (12 &&& 31)) 1440 = some (iI (c : Int)) := ec
    have ed' : s_L_low (v >>> (9 &&& 31)) 900 = some (iI (d : Int)) := ed
    rw [L_L_law_41, if_neg (by rw [iI_le] <;> omega), e0, hv, Option.bind_some, ea', Option.bind_some, Option.bind_some, eb', Option.bind_some, Option.bind_some, ec', Option.bind_some, Option.bind_some, ed', Option.bind_some, e1, e2, c1, Option.bind_some, if_neg (not_not_intro rfl)]
    unfold bnd
    dsimp only
    rw [e3]
    exact d1
/-- the entries and breaks of a week -/
theorem L_week_in {L : Nat} (hL : L ≤ 260) (xs : Nat → Int32) {t n : Nat} (ht : t < 4) (hn : n ≤ 9) : ∀ (r fu k : Nat) (E B : List (Nat × Nat)) (M : Mem), k + r = n → r < fu → E.length = k → B.length ≤ k → St M E B pn pr x y → ∃ z E' B' M', L_L_law_177 1 L xs (iI (t : Int)) (iI (n : Int)) fu (iI (k : Int)) M = some (z, M') ∧ E'.length = n ∧ St M' E' B' pn pr x y := by
  intro r
  induction r with
  | zero =>
    intro fu k E B M hk hf hE hB h
    have e : k = n := by omega
    subst e
    obtain ⟨f, rfl⟩ : ∃ f, fu = f + 1 := ⟨fu - 1, by omega⟩
    refine ⟨iI (k : Int), E, B, M, ?_, hE, h⟩
    rw [L_L_law_177, if_pos (by rw [iI_le] <;> omega)]
  | succ r ih =>
    intro fu k E B M hk hf hE hB h
    obtain ⟨f, rfl⟩ : ∃ f, fu = f + 1 := ⟨fu - 1, by omega⟩
    obtain ⟨v, hv⟩ := cell_ok hL xs (k := 7 + 20 * t + k) (by omega)
    obtain ⟨w, hw⟩ := cell_ok hL xs (k := 17 + 20 * t + k) (by omega)
    obtain ⟨a, ha, ea⟩ := low_ok v (n := 7) (by omega)
    obtain ⟨b, hb, eb⟩ := low_ok (v >>> (3 &&& 31)) (n := 1400) (by omega)
    obtain ⟨c, hc, ec⟩ := low_ok (w >>> (12 &&& 31)) (n := 3) (by omega)
    obtain ⟨m, hm, em⟩ : ∃ m : Nat, (0 < m ∧ m ≤ 900) ∧ (if iI (c : Int) = 0 then (900 : Int32) else 600) = iI (m : Int) := by
      by_cases q : iI (c : Int) = 0
      · exact ⟨900, by omega, by rw [if_pos q]; rfl⟩
      · exact ⟨600, by omega, by rw [if_neg q]; rfl⟩
    obtain ⟨d, hd, ed⟩ := low_ok w (n := m) (by omega)
    obtain ⟨g, hg, eg⟩ := low_ok (v >>> (14 &&& 31)) (n := 4) (by omega)
    obtain ⟨o, ho, eo⟩ := low_ok (w >>> (5 &&& 31)) (n := 90) (by omega)
    obtain ⟨F, eF⟩ : ∃ F, F = 1440 * a + b := ⟨_, rfl⟩
    obtain ⟨T, eT⟩ : ∃ T, T = min (F + 1 + d) 10080 := ⟨_, rfl⟩
    obtain ⟨U, eU⟩ : ∃ U, U = min (F + 41 + o) 10080 := ⟨_, rfl⟩
    obtain ⟨u, M1, c1, c2⟩ := c_enter h (by omega) (a := F) (b := T) (by omega) (by omega)
    have e0 : ((7 : Int32) + 20 * iI (t : Int)) + iI (k : Int) = iI ((7 + 20 * t + k : Nat) : Int) := by rw [li_7, li_20, iI_mul, iI_add, iI_add]; exact congrArg iI (by omega)
    have l17 : (17 : Int32) = iI 17 := rfl
    have l1400 : (1400 : Int32) = iI 1400 := rfl
    have e1 : ((17 : Int32) + 20 * iI (t : Int)) + iI (k : Int) = iI ((17 + 20 * t + k : Nat) : Int) := by rw [l17, li_20, iI_mul, iI_add, iI_add]; exact congrArg iI (by omega)
    have e2 : ((1440 : Int32) * iI (a : Int)) + iI (b : Int) = iI (F : Int) := by rw [li_1440, iI_mul, iI_add]; exact congrArg iI (by omega)
    have e3 : (iI (F : Int) + 1) + iI (d : Int) = iI ((F + 1 + d : Nat) : Int) := by rw [li_1, iI_add, iI_add]; exact congrArg iI (by omega)
    have e4 : (if iI ((F + 1 + d : Nat) : Int) ≤ 10080 then iI ((F + 1 + d : Nat) : Int) else 10080) = iI (T : Int) := by
      by_cases q : F + 1 + d ≤ 10080
      · rw [if_pos (by rw [li_10080, iI_le] <;> omega)]; exact congrArg iI (by omega)
      · rw [if_neg (by rw [li_10080, iI_le] <;> omega), li_10080]; exact congrArg iI (by omega)
    have e5 : iI (k : Int) + 1 = iI ((k + 1 : Nat) : Int) := by rw [li_1, iI_add]; exact congrArg iI (by omega)
    have l41 : (41 : Int32) = iI 41 := rfl
    have e6 : (iI (F : Int) + 41) + iI (o : Int) = iI ((F + 41 + o : Nat) : Int) := by rw [l41, iI_add, iI_add]; exact congrArg iI (by omega)
    have l40 : (40 : Int32) = iI 40 := rfl
    have e7 : iI (F : Int) + 40 = iI ((F + 40 : Nat) : Int) := by rw [l40, iI_add]; exact congrArg iI (by omega)
    have ea' : s_L_low v 7 = some (iI (a : Int)) := ea
    have eb' : s_L_low (v >>> (3 &&& 31)) 1400 = some (iI (b : Int)) := eb
    have ec' : s_L_low (w >>> (12 &&& 31)) 3 = some (iI (c : Int)) := ec
    have eg' : s_L_low (v >>> (14 &&& 31)) 4 = some (iI (g : Int)) := eg
    have eo' : s_L_low (w >>> (5 &&& 31)) 90 = some (iI (o : Int)) := eo
    obtain ⟨B', M2, hB', h2, e8⟩ : ∃ B' M2, B'.length ≤ k + 1 ∧ St M2 ((F, T) :: E) B' pn pr x y ∧ (if iI (g : Int) = 0 then (s_L_low (w >>> (5 &&& 31)) 90).bind fun r26 => Option.bind (α := Int32) (if ((iI (F : Int) + 41) + r26) ≤ 10080 then (s_L_low (w >>> (5 &&& 31)) 90).bind fun r28 => some ((iI (F : Int) + 41) + r28) else some 10080) fun p29 => (s_X6_enterBreak M1 1 0 (iI (F : Int) + 40) p29).bind fun r30 => if ¬ r30.1 = 0 then none else some r30.2.2 else some M1) = some M2 := by
      by_cases q : iI (g : Int) = 0
      · obtain ⟨u2, M2, k1, k2⟩ := c_enterBreak c2 (by omega) (a := F + 40) (b := U) (by omega) (by omega)
        refine ⟨(F + 40, U) :: B, M2, by rw [List.length_cons]; omega, k2, ?_⟩
        rw [if_pos q, eo', Option.bind_some, Option.bind_some, e6, e7]
        have e9 : (if iI ((F + 41 + o : Nat) : Int) ≤ 10080 then some (iI ((F + 41 + o : Nat) : Int)) else some 10080) = some (iI (U : Int)) := by
          by_cases q : F + 41 + o ≤ 10080
          · rw [if_pos (by rw [li_10080, iI_le] <;> omega)]; exact congrArg (fun z => some (iI z)) (by omega)
          · rw [if_neg (by rw [li_10080, iI_le] <;> omega), li_10080]; exact congrArg (fun z => some (iI z)) (by omega)
        rw [e9, Option.bind_some, k1, Option.bind_some, if_neg (not_not_intro rfl)]
      · exact ⟨B, M1, by omega, c2, by rw [if_neg q]⟩
    obtain ⟨z, E', B'', M', d1, d2, d3⟩ := ih f (k + 1) ((F, T) :: E) B' M2 (by omega) (by omega) (by rw [List.length_cons]; omega) hB' h2
    refine ⟨z, E', B'', M', ?_, d2, d3⟩
    rw [L_L_law_177, if_neg (by rw [iI_le] <;> omega), e0, hv, Option.bind_some, e1, hw, Option.bind_some, ea', Option.bind_some, eb', Option.bind_some]
    unfold bnd
    dsimp only
    rw [e2, ec', Option.bind_some, em, ed, Option.bind_some, e3, e4, c1, Option.bind_some, if_neg (not_not_intro rfl), eg', Option.bind_some]
    dsimp only
    rw [e8, Option.bind_some, e5]
    exact d1
/-- the weeks -/
theorem L_weeks {L : Nat} (hL : L ≤ 260) (xs : Nat → Int32) {x3 : Int32} (hx3 : x3 ≤ 0 → pn = 0) : ∀ (r fu t : Nat) (y : Int32) (M : Mem) (G : Mel), t + r = 4 → r < fu → St M [] [] pn pr x y → ∃ p, L_L_law_147 1 L xs x x3 fu (G 46 2) y (iI (t : Int)) M G = some p := by
  intro r
  induction r with
  | zero =>
    intro fu t y M G ht hf h
    obtain ⟨f, rfl⟩ : ∃ f, fu = f + 1 := ⟨fu - 1, by omega⟩
    refine ⟨(G 46 2, y, iI (t : Int), M, G), ?_⟩
    · rw [L_L_law_147, if_pos (by rw [li_4, iI_le] <;> omega)]
  | succ r ih =>
    intro fu t y M G ht hf h
    obtain ⟨f, rfl⟩ : ∃ f, fu = f + 1 := ⟨fu - 1, by omega⟩
    obtain ⟨v, hv⟩ := cell_ok hL xs (k := 6 + 20 * t) (by omega)
    obtain ⟨a, ha, ea⟩ := low_ok v (n := 9) (by omega)
    have ea' : s_L_low v 9 = some (iI (a : Int)) := ea
    obtain ⟨z, E, B, M1, b1, b2, b3⟩ := L_week_in (pn := pn) (pr := pr) (x := x) (y := y) hL xs (t := t) (n := 1 + a) (by omega) (by omega) (1 + a) FU 0 [] [] M (by omega) (by rw [FU_0]; omega) rfl (Nat.le_refl _) h
    have hE : E ≠ [] := by
      intro e
      rw [e] at b2
      have b2' : 0 = 1 + a := b2
      omega
    obtain ⟨x4, e4, hx4⟩ : ∃ x4 : Int32, (if x3 ≤ 0 then (0 : Int32) else 1) = x4 ∧ (x4 = 0 → pn = 0) := by
      by_cases q : x3 ≤ 0
      · exact ⟨0, by rw [if_pos q], fun _ => hx3 q⟩
      · exact ⟨1, by rw [if_neg q], fun w => absurd w (by decide)⟩
    obtain ⟨M2, c1, c2⟩ := X_isPaid b3 hx4
    obtain ⟨M3, d1, d2⟩ := q_pay c2
    have h3 := c2.fq d2
    obtain ⟨M4, G4, f1, f2, f3⟩ := c_closeWeek h3 hE G
    obtain ⟨M5, g1, g2⟩ := q_isEmpty f2
    obtain ⟨p, hp⟩ := ih f (t + 1) (y + 1) M5 G4 (by omega) (by omega) (f2.fq g2)
    refine ⟨p, ?_⟩
    have l6 : (6 : Int32) = iI 6 := rfl
    have e0 : (6 : Int32) + 20 * iI (t : Int) = iI ((6 + 20 * t : Nat) : Int) := by rw [l6, li_20, iI_mul, iI_add]; exact congrArg iI (by omega)
    have e1 : (1 : Int32) + iI (a : Int) = iI ((1 + a : Nat) : Int) := by rw [li_1, iI_add]; exact congrArg iI (by omega)
    have e5 : iI (t : Int) + 1 = iI ((t + 1 : Nat) : Int) := by rw [li_1, iI_add]; exact congrArg iI (by omega)
    have b1' : L_L_law_177 1 L xs (iI (t : Int)) (iI ((1 + a : Nat) : Int)) FU 0 M = some (z, M1) := b1
    rw [L_L_law_147, if_neg (by rw [li_4, iI_le] <;> omega), e0, hv, Option.bind_some, ea', Option.bind_some]
    unfold bnd
    dsimp only
    rw [e1, b1', Option.bind_some, e4]
    dsimp only
    rw [c1, Option.bind_some, if_neg (show ¬ (1 : Int32) = 0 by decide)]
    dsimp only
    rw [d1, Option.bind_some, if_neg (not_not_intro rfl)]
    dsimp only
    rw [f1, Option.bind_some, if_neg (not_not_intro rfl)]
    dsimp only
    rw [if_pos rfl, q_earned, Option.bind_some, if_neg (not_not_intro rfl)]
    dsimp only
    rw [if_pos f3, q_closed f2, Option.bind_some, if_neg (not_not_intro rfl)]
    dsimp only
    rw [if_pos rfl, g1, Option.bind_some, if_neg (show ¬ (1 : Int32) = 0 by decide)]
    dsimp only
    rw [e5, ← f3]
    exact hp
end
theorem law_ok {L : Nat} (hL : L ≤ 260) {xs : Nat → Int32} : LawOK L xs := by
  obtain ⟨v, hv⟩ := cell_ok hL xs (k := 0) (by omega)
  obtain ⟨a, ha, ea⟩ := low_ok v (n := 9000) (by omega)
  obtain ⟨v1, hv1⟩ := cell_ok hL xs (k := 1) (by omega)
  obtain ⟨n, hn, en⟩ := low_ok v1 (n := 4) (by omega)
  have e1 : (1 : Int32) + iI (a : Int) = iI ((1 + a : Nat) : Int) := by rw [li_1, iI_add]; exact congrArg iI (by omega)
  obtain ⟨x, ex⟩ : ∃ x : Int32, x = 1 + iI (a : Int) := ⟨_, rfl⟩
  have h0 : St (hM (fun _ _ => 0) 46 x) [] [] 0 (fun _ _ => 0) x 0 := by
    refine ⟨⟨rfl, by simp, fun i c hi => absurd hi (Nat.not_lt_zero _)⟩, ⟨⟨by simp, fun q hq => by cases hq⟩, ⟨rfl, by simp, fun i c hi => absurd hi (Nat.not_lt_zero _)⟩⟩, ⟨⟨by simp, fun q hq => by cases hq⟩, ⟨rfl, by simp, fun i c hi => absurd hi (Nat.not_lt_zero _)⟩⟩, ⟨⟨by omega, fun i hi => by omega⟩, ⟨rfl, by simp, fun i c hi => absurd hi (Nat.not_lt_zero _)⟩⟩, ?_, ?_⟩
    · simp [hM]
    · simp [hM]
  obtain ⟨z, pr, M1, b1, b2⟩ := L_prem hL xs (n := n) (by omega) n FU 0 _ _ (by omega) (by rw [FU_0]; omega) h0
  have h1 : St (aM M1) [] [] n pr x 0 := b2.congr (fun k hk => by unfold aM; rw [if_neg (by omega), if_neg (by omega)])
  have hx3 : iI (n : Int) ≤ 0 → n = 0 := fun h => by
    rw [li_0, iI_le (by omega) (by omega)] at h
    omega
  obtain ⟨p, hp⟩ := L_weeks (pn := n) (pr := pr) (x := x) hL xs (x3 := iI (n : Int)) hx3 4 FU 0 0 (aM M1) (hG (fun _ _ => 0) 46) (by omega) (by rw [FU_0]; omega) h1
  refine ⟨v, iI (a : Int), (iI (n : Int), M1), hv, ea, ?_, ?_, ?_⟩
  · rw [e1]
    exact wthin (k := ((1 + a : Nat) : Int)) (a := 1) (b := 100000) (by omega) (by omega) (by omega) (by omega)
  · have b1' : L_L_law_41 L xs (iI (n : Int)) FU 0 (hM (fun _ _ => 0) 46 x) = some (z, M1) := b1
    have hv1' : s_L_cell L xs 1 = some v1 := hv1
    have en' : s_L_low v1 4 = some (iI (n : Int)) := en
    rw [← ex]
    unfold s_L_law1
    rw [hv1', Option.bind_some, en', Option.bind_some, b1']
    rfl
  · have hg : hG (fun _ _ => 0) 46 46 2 = 0 := by simp [hG]
    have hp' : L_L_law_147 1 L xs x (iI (n : Int)) FU 0 0 0 (aM M1) (hG (fun _ _ => 0) 46) = some p := by
      rw [hg] at hp
      exact hp
    rw [← ex]
    unfold s_L_law2
    dsimp only
    rw [hp']
    rfl

/-! spans entered by hand: entries (8 9 10) and breaks (11 12 13) -/
/-- only the spans of the employee e in the model's arrays have changed -/
def Fs (e a b c : Nat) (M M' : Mem) : Prop := (∀ k, k ≠ 1 → k ≠ a → k ≠ b → k ≠ c → M' k = M k) ∧ (∀ j, j ≠ 0 → M' 1 j = M 1 j) ∧ (∀ j, j ≠ e → M' a j = M a j) ∧ ∀ j, j < 20 * e ∨ 20 * e + 20 ≤ j → M' b j = M b j ∧ M' c j = M c j
def Abc (a b c : Nat) : Prop := (a = 8 ∧ b = 9 ∧ c = 10) ∨ (a = 11 ∧ b = 12 ∧ c = 13)
theorem Fs.fe {e a b c : Nat} {M M' : Mem} (h : Fs e a b c M M') (ha : Abc a b c) : Fe e M M' := by
  obtain ⟨h1, h2, h3, h4⟩ := h
  have ha' : (a = 8 ∧ b = 9 ∧ c = 10) ∨ (a = 11 ∧ b = 12 ∧ c = 13) := ha
  refine ⟨h2 1 (by omega), h2 14 (by omega), fun k hk => h1 k (by omega) (by omega) (by omega) (by omega), fun k j hk hj => ?_, fun k j hk hj => by rw [h1 k (by omega) (by omega) (by omega) (by omega)], fun k j hk hj => ?_⟩
  · by_cases c1 : k = a
    · rw [c1, h3 j hj]
    · rw [h1 k (by omega) c1 (by omega) (by omega)]
  · by_cases c1 : k = b
    · rw [c1, (h4 j hj).1]
    · by_cases c2 : k = c
      · rw [c2, (h4 j hj).2]
      · rw [h1 k (by omega) (by omega) c1 c2]
theorem EmpI.setE {M M' : Mem} {G G' : Mel} {e n : Nat} {tm : Nat → Nat} {inn : Nat → Bool} {E B : List (Nat × Nat)} (h : EmpI M G e n tm inn E B) {E' : List (Nat × Nat)} (hE : SpOK E' 20 ∧ Tl M' (46 + 7 * e + 3) E' ∧ SpM M' 8 9 10 e E') (h1 : ∀ k, 46 + 7 * e ≤ k → k < 46 + 7 * e + 7 → k ≠ 46 + 7 * e + 3 → k ≠ 46 + 7 * e + 4 → M' k = M k) (h2 : ∀ k, k ≠ 1 → k < 8 ∨ 10 < k → k < 18 → M' k = M k) (g1 : G' (46 + 7 * e) 2 = G (46 + 7 * e) 2) (g2 : G' 4 e = G 4 e) : EmpI M' G' e n tm inn E' B :=
  ⟨EmpI.pn h.1 (h1 _ (by omega) (by omega) (by omega) (by omega)) (h1 _ (by omega) (by omega) (by omega) (by omega)) (by rw [h2 5 (by omega) (by omega) (by omega)]) (fun k j hk _ => by rw [h2 k (by omega) (by omega) (by omega)]), hE, EmpI.sp h.2.2.1 (h1 _ (by omega) (by omega) (by omega) (by omega)) (h1 _ (by omega) (by omega) (by omega) (by omega)) (by rw [h2 11 (by omega) (by omega) (by omega)]) (fun j _ => by rw [h2 12 (by omega) (by omega) (by omega), h2 13 (by omega) (by omega) (by omega)]; exact ⟨rfl, rfl⟩), by rw [h1 _ (by omega) (by omega) (by omega) (by omega), h2 2 (by omega) (by omega) (by omega)]; exact h.2.2.2.1, by rw [h1 _ (by omega) (by omega) (by omega) (by omega), h2 3 (by omega) (by omega) (by omega)]; exact h.2.2.2.2.1, by rw [g1, g2]; exact h.2.2.2.2.2⟩
theorem EmpI.setB {M M' : Mem} {G G' : Mel} {e n : Nat} {tm : Nat → Nat} {inn : Nat → Bool} {E B : List (Nat × Nat)} (h : EmpI M G e n tm inn E B) {B' : List (Nat × Nat)} (hB : SpOK B' 20 ∧ Tl M' (46 + 7 * e + 5) B' ∧ SpM M' 11 12 13 e B') (h1 : ∀ k, 46 + 7 * e ≤ k → k < 46 + 7 * e + 7 → k ≠ 46 + 7 * e + 5 → k ≠ 46 + 7 * e + 6 → M' k = M k) (h2 : ∀ k, k ≠ 1 → k < 11 ∨ 13 < k → k < 18 → M' k = M k) (g1 : G' (46 + 7 * e) 2 = G (46 + 7 * e) 2) (g2 : G' 4 e = G 4 e) : EmpI M' G' e n tm inn E B' :=
  ⟨EmpI.pn h.1 (h1 _ (by omega) (by omega) (by omega) (by omega)) (h1 _ (by omega) (by omega) (by omega) (by omega)) (by rw [h2 5 (by omega) (by omega) (by omega)]) (fun k j hk _ => by rw [h2 k (by omega) (by omega) (by omega)]), EmpI.sp h.2.1 (h1 _ (by omega) (by omega) (by omega) (by omega)) (h1 _ (by omega) (by omega) (by omega) (by omega)) (by rw [h2 8 (by omega) (by omega) (by omega)]) (fun j _ => by rw [h2 9 (by omega) (by omega) (by omega), h2 10 (by omega) (by omega) (by omega)]; exact ⟨rfl, rfl⟩), hB, by rw [h1 _ (by omega) (by omega) (by omega) (by omega), h2 2 (by omega) (by omega) (by omega)]; exact h.2.2.2.1, by rw [h1 _ (by omega) (by omega) (by omega) (by omega), h2 3 (by omega) (by omega) (by omega)]; exact h.2.2.2.2.1, by rw [g1, g2]; exact h.2.2.2.2.2⟩
/-- the bounds of a span -/
theorem hand_cases (x1 x2 : Int32) : (∃ x y : Nat, x < y ∧ y ≤ 10080 ∧ x1 = iI (x : Int) ∧ x2 = iI (y : Int) ∧ s_X6_requireWithin x1 0 10079 = some 0 ∧ s_X6_requireWithin x2 (x1 + 1) 10080 = some 0 ∧ s_X7_in x1 0 10079 = some 1 ∧ ¬ x2 ≤ x1 ∧ x2 ≤ 10080) ∨ ((∀ (M : Mem) (t : Nat) (z : Int32), s_X6_addByHand M t x1 x2 z = some (1, 0, M)) ∧ ∀ Z : Option Int32, ((s_X7_in x1 0 10079).bind fun r3 => if r3 = 0 then some (2 : Int32) else if x2 ≤ x1 then some 2 else if x2 ≤ 10080 then Z else some 2) = some 2) := by
  rcases wthn x1 (a := 0) (b := 10079) (by omega) (by omega) with ⟨k, k1, k2, rfl, k3, k4⟩ | ⟨k3, k4⟩
  · have k3' : s_X6_requireWithin (iI k) 0 10079 = some 0 := k3
    have k4' : s_X7_in (iI k) 0 10079 = some 1 := k4
    have e1 : iI k + 1 = iI (k + 1) := by rw [li_1, iI_add]
    rcases wthn x2 (a := k + 1) (b := 10080) (by omega) (by omega) with ⟨j, j1, j2, rfl, j3, j4⟩ | ⟨j3, j4⟩
    · obtain ⟨x, rfl⟩ := ge0 k1
      obtain ⟨y, rfl⟩ := ge0 (k := j) (by omega)
      exact Or.inl ⟨x, y, by omega, by omega, rfl, rfl, k3', by rw [e1]; exact j3, k4', by rw [iI_le] <;> omega, by rw [li_10080, iI_le] <;> omega⟩
    · refine Or.inr ⟨fun M t z => ?_, fun Z => ?_⟩
      · unfold s_X6_addByHand
        have j3' : s_X6_requireWithin x2 (iI k + 1) 10080 = some 1 := by rw [e1]; exact j3
        rw [k3', Option.bind_some, if_neg (not_not_intro rfl), j3']
        rfl
      · rw [k4', Option.bind_some, if_neg (show ¬ (1 : Int32) = 0 by decide)]
        obtain ⟨j, rfl, hj⟩ := iI_ex x2
        rw [X7_in hj (by omega) (by omega)] at j4
        by_cases c : j ≤ k
        · rw [if_pos (by rw [iI_le] <;> omega)]
        · rw [if_neg (by rw [iI_le] <;> omega), if_neg]
          rw [li_10080, iI_le hj (by omega)]
          intro c2
          rw [decide_eq_true (by omega)] at j4
          exact absurd (Option.some.inj j4) (by decide)
  · have k3' : s_X6_requireWithin x1 0 10079 = some 1 := k3
    have k4' : s_X7_in x1 0 10079 = some 0 := k4
    refine Or.inr ⟨fun M t z => ?_, fun Z => ?_⟩
    · unfold s_X6_addByHand
      rw [k3']
      rfl
    · rw [k4', Option.bind_some, if_pos rfl]
theorem room_ok {M : Mem} {t n m : Nat} {f : Nat → Nat → Int} (h : Tb M t n f) (hm : m ≤ 1000) : s_X6_requireRoom M t (iI (m : Int)) = if n < m then some 0 else some 2 := by
  have hn := h.n_b
  unfold s_X6_requireRoom
  rw [X4_sz h, Option.bind_some]
  by_cases c : n < m
  · rw [if_pos (by rw [iI_lt] <;> omega), if_pos c]
  · rw [if_neg (by rw [iI_lt] <;> omega), if_neg c]
theorem X6_hand {M : Mem} {t : Nat} {E : List (Nat × Nat)} (hT : Tl M t E) (hw : wd t = 2) (hl : tl t = 40) {x y : Nat} (h1 : s_X6_requireWithin (iI (x : Int)) 0 10079 = some 0) (h2 : s_X6_requireWithin (iI (y : Int)) (iI (x : Int) + 1) 10080 = some 0) : if E.length < 20 then ∃ M1, s_X6_addByHand M t (iI x) (iI y) 20 = some (0, iI (E.length : Int), M1) ∧ Tl M1 t ((x, y) :: E) ∧ Fr t M M1 else s_X6_addByHand M t (iI x) (iI y) 20 = some (2, 0, M) := by
  have h3 : s_X6_requireRoom M t 20 = if E.length < 20 then some 0 else some 2 := room_ok hT (m := 20) (by omega)
  by_cases c : E.length < 20
  · rw [if_pos c] at h3 ⊢
    obtain ⟨M1, a1, a2, a3⟩ := hT.add hw (by omega) x y
    refine ⟨M1, ?_, a2, a3⟩
    unfold s_X6_addByHand
    rw [h1, Option.bind_some, if_neg (not_not_intro rfl), h2, Option.bind_some, if_neg (not_not_intro rfl), h3, Option.bind_some, if_neg (not_not_intro rfl), a1, Option.bind_some, X4_sz a2, Option.bind_some, List.length_cons, li_1, iI_sub]
    exact congrArg (fun z => some (0, iI z, M1)) (by omega)
  · rw [if_neg c] at h3 ⊢
    unfold s_X6_addByHand
    rw [h1, Option.bind_some, if_neg (not_not_intro rfl), h2, Option.bind_some, if_neg (not_not_intro rfl), h3]
    rfl
theorem X7_puts_ok {M : Mem} {e a b c : Nat} {E : List (Nat × Nat)} (he : e < 6) (hab : Abc a b c) (h1 : s_X7_isOne M (iI e) = some 1) (hS : SpM M a b c e E) (hl : E.length < 20) {x y : Nat} (k1 : s_X7_in (iI (x : Int)) 0 10079 = some 1) (k2 : ¬ iI (y : Int) ≤ iI (x : Int)) (k3 : iI (y : Int) ≤ 10080) : ∃ M', s_X7_puts M (iI e) (iI x) (iI y) a b c = some (iI (E.length : Int), M') ∧ SpM M' a b c e ((x, y) :: E) ∧ M' 1 0 = 0 ∧ Fs e a b c M M' := by
  have hab' : (a = 8 ∧ b = 9 ∧ c = 10) ∨ (a = 11 ∧ b = 12 ∧ c = 13) := hab
  have eix : 20 * iI (e : Int) + iI (E.length : Int) = iI ((20 * e + E.length : Nat) : Int) := by
    rw [li_20, iI_mul, iI_add]; exact congrArg iI (by omega)
  obtain ⟨M6, g6⟩ : ∃ M6, M6 = mst M 1 0 0 := ⟨_, rfl⟩
  obtain ⟨M8, g8⟩ : ∃ M8, M8 = mst M6 b (20 * e + E.length) (iI (x : Int)) := ⟨_, rfl⟩
  obtain ⟨M10, g10⟩ : ∃ M10, M10 = mst M8 c (20 * e + E.length) (iI (y : Int)) := ⟨_, rfl⟩
  obtain ⟨M12, g12⟩ : ∃ M12, M12 = mst M10 a e (iI ((E.length + 1 : Nat) : Int)) := ⟨_, rfl⟩
  have a6 : M6 a e = iI (E.length : Int) := by rw [g6, mst_k _ _ _ _ (by omega)]; exact hS.1
  have a8 : M8 a e = iI (E.length : Int) := by rw [g8, mst_k _ _ _ _ (by omega), a6]
  have a10 : M10 a e = iI (E.length : Int) := by rw [g10, mst_k _ _ _ _ (by omega), a8]
  have a12 : ∀ j, M12 a j = if j = e then iI ((E.length + 1 : Nat) : Int) else M a j := fun j => by
    rw [g12, mst_a, if_pos rfl, g10, mst_k _ _ _ _ (by omega), g8, mst_k _ _ _ _ (by omega), g6, mst_k _ _ _ _ (by omega)]
  have b12 : ∀ j, M12 b j = if j = 20 * e + E.length then iI (x : Int) else M b j := fun j => by
    rw [g12, mst_k _ _ _ _ (by omega), g10, mst_k _ _ _ _ (by omega), g8, mst_a, if_pos rfl, g6, mst_k _ _ _ _ (by omega)]
  have c12 : ∀ j, M12 c j = if j = 20 * e + E.length then iI (y : Int) else M c j := fun j => by
    rw [g12, mst_k _ _ _ _ (by omega), g10, mst_a, if_pos rfl, g8, mst_k _ _ _ _ (by omega), g6, mst_k _ _ _ _ (by omega)]
  have t12 : M12 1 = M6 1 := by rw [g12, mst_k _ _ _ _ (by omega), g10, mst_k _ _ _ _ (by omega), g8, mst_k _ _ _ _ (by omega)]
  refine ⟨M12, ?_, ⟨by rw [a12, if_pos rfl]; rfl, fun k hk => ?_⟩, by rw [t12, g6, thr], fun k q1 q2 q3 q4 => ?_, fun j hj => ?_, fun j hj => by rw [a12, if_neg hj], fun j hj => ?_⟩
  · unfold s_X7_puts bnd
    rw [h1, Option.bind_some, if_neg (show ¬ (1 : Int32) = 0 by decide), k1, Option.bind_some, if_neg (show ¬ (1 : Int32) = 0 by decide), if_neg k2, if_pos k3, mrd_i (by omega) (by omega), Int.toNat_natCast, hS.1, Option.bind_some, if_neg (by rw [li_20, iI_eq] <;> omega), Option.bind_some]
    dsimp only
    rw [thr, if_pos (by decide), ← g6, mrd_i (by omega) (by omega), Int.toNat_natCast, a6, Option.bind_some, eix, mwr_i (by omega) (by omega), Int.toNat_natCast, ← g8, Option.bind_some, mrd_i (by omega) (by omega), Int.toNat_natCast, a8, Option.bind_some, eix, mwr_i (by omega) (by omega), Int.toNat_natCast, ← g10, Option.bind_some, mrd_i (by omega) (by omega), Int.toNat_natCast, a10, Option.bind_some, mwr_i (by omega) (by omega), Int.toNat_natCast, li_1, iI_add]
    have e12 : mst M10 a e (iI ((E.length : Int) + 1)) = M12 := g12.symm
    rw [e12, Option.bind_some, mrd_i (by omega) (by omega), Int.toNat_natCast, a12, if_pos rfl, Option.bind_some, iI_sub]
    exact congrArg (fun z => some (iI z, M12)) (by omega)
  · rw [List.length_cons] at hk
    rw [b12, c12]
    by_cases d : k = E.length
    · rw [if_pos (by omega), if_pos (by omega), d, gx_eq]; exact ⟨rfl, rfl⟩
    · rw [if_neg (by omega), if_neg (by omega), gx_lt (by omega)]; exact hS.2 k (by omega)
  · rw [g12, mst_k _ _ _ _ q2, g10, mst_k _ _ _ _ q4, g8, mst_k _ _ _ _ q3, g6, mst_k _ _ _ _ q1]
  · rw [t12, g6, mst_a, if_pos rfl, if_neg hj]
  · rw [b12, c12, if_neg (by omega), if_neg (by omega)]; exact ⟨rfl, rfl⟩
theorem X7_puts_x {M : Mem} {e a b c : Nat} {x1 x2 p : Int32} (h1 : s_X7_isOne M (iI e) = some 1) (hp : ((s_X7_in x1 0 10079).bind fun r3 => if r3 = 0 then some (2 : Int32) else if x2 ≤ x1 then some 2 else if x2 ≤ 10080 then (mrd 6 (M a) (iI e)).bind fun v4 => if v4 = 20 then some 3 else some 0 else some 2) = some p) (h0 : ¬ p ≤ 0) : s_X7_puts M (iI e) x1 x2 a b c = some (0, mst M 1 0 p) := by
  unfold s_X7_puts bnd
  rw [h1, Option.bind_some, if_neg (show ¬ (1 : Int32) = 0 by decide), hp, Option.bind_some]
  dsimp only
  rw [thr, if_neg h0]
theorem X7_puts_no {M : Mem} {x0 x1 x2 : Int32} {a b c : Nat} (h1 : s_X7_isOne M x0 = some 0) : s_X7_puts M x0 x1 x2 a b c = some (0, mst M 1 0 1) := by
  unfold s_X7_puts bnd
  rw [h1, Option.bind_some, if_pos rfl, Option.bind_some]
  dsimp only
  rw [thr, if_neg (by decide)]

/-- findsShifts, whole -/
theorem X7_finds {e n : Nat} {tm : Nat → Nat} {inn : Nat → Bool} {M : Mem} (he : e < 6) (hp : PnOK n tm) (h : PnM M e n tm inn) : ∃ M', s_X7_findsShifts M (iI e) = some M' ∧ ShA M' (shL n tm inn n) (shR n inn n) ∧ (∀ k, k ≠ 1 → k ≠ 18 → k ≠ 19 → M' k = M k) ∧ ∀ j, j ≠ 19 → j ≠ 20 → M' 1 j = M 1 j := by
  obtain ⟨M2, g2⟩ : ∃ M2, M2 = mst (mst M 1 19 0) 1 20 0 := ⟨_, rfl⟩
  have c2 : ∀ k, k ≠ 1 → M2 k = M k := fun k hk => by rw [g2, mst_k _ _ _ _ hk, mst_k _ _ _ _ hk]
  have f2 : ∀ j, M2 1 j = if j = 20 then 0 else if j = 19 then 0 else M 1 j := fun j => by rw [g2, mst_a, if_pos rfl, mst_a, if_pos rfl]
  obtain ⟨y, M', a1, a2, a3, a4⟩ := L_fs he hp n FU 0 M2 ⟨by rw [c2 5 (by omega)]; exact h.1, fun k hk => by rw [c2 6 (by omega), c2 7 (by omega)]; exact h.2 k hk⟩ ⟨by rw [f2, if_neg (by omega), if_pos rfl]; rfl, by rw [f2, if_pos rfl]; rfl, fun j hj => absurd hj (Nat.not_lt_zero _)⟩ (by omega) (by rw [FU_0]; have := hp.1; omega)
  refine ⟨M', ?_, a2, fun k k1 k2 k3 => by rw [a3 k k1 k2 k3, c2 k k1], fun j j1 j2 => by rw [a4 j j1 j2, f2, if_neg j2, if_neg j1]⟩
  have a1' : L_X7_findsShifts_12 (iI e) FU 0 M2 = some (y, M') := a1
  unfold s_X7_findsShifts bnd
  dsimp only
  rw [← g2, a1']
  rfl
/-! marks: a span adds 1 where it begins and takes 1 off where it ends -/
def mk1 (x y j : Nat) : Int := (if x = j then 1 else 0) - (if y = j then 1 else 0)
def mkl (j : Nat) : List (Nat × Nat) → Int
  | [] => 0
  | q :: r => mkl j r + mk1 q.1 q.2 j
theorem mkl_cc {m : Nat} : ∀ l : List (Nat × Nat), (∀ q ∈ l, q.1 ≤ q.2) → mkl m l = (cc m l : Int) - (if m = 0 then 0 else (cc (m - 1) l : Int))
  | [], _ => by simp [mkl, cc]
  | q :: r, h => by
    have ih := mkl_cc (m := m) r (fun z hz => h z (List.mem_cons_of_mem _ hz))
    have h1 := h q (List.mem_cons_self ..)
    rw [mkl, ih, cc, cc, mk1]
    by_cases c : m = 0
    · subst c
      rw [if_pos rfl, if_pos rfl]
      by_cases c1 : q.1 = 0
      · rw [if_pos c1]
        by_cases c2 : q.2 = 0
        · rw [if_pos c2, if_neg (by omega)]; omega
        · rw [if_neg c2, if_pos (by omega)]; omega
      · rw [if_neg c1, if_neg (by omega), if_neg (by omega)]; omega
    · rw [if_neg c, if_neg c]
      by_cases c1 : q.1 = m
      · rw [if_pos c1]
        by_cases c2 : q.2 = m
        · rw [if_pos c2, if_neg (by omega), if_neg (by omega)]; omega
        · rw [if_neg c2, if_pos (by omega), if_neg (by omega)]; omega
      · rw [if_neg c1]
        by_cases c2 : q.2 = m
        · rw [if_pos c2, if_neg (by omega), if_pos (by omega)]; omega
        · rw [if_neg c2]
          by_cases c3 : q.1 ≤ m ∧ m < q.2
          · rw [if_pos c3, if_pos (by omega)]; omega
          · rw [if_neg c3, if_neg (by omega)]; omega
theorem X7_marks {M : Mem} {q : Nat} {D : Nat → Int} (h : ∀ j, j ≤ 10080 → M q j = iI (D j)) {x y : Nat} (hx : x ≤ 10080) (hy : y ≤ 10080) : ∃ M', s_X7_marks M q (iI x) (iI y) = some M' ∧ (∀ j, j ≤ 10080 → M' q j = iI (D j + mk1 x y j)) ∧ ∀ k, k ≠ q → M' k = M k := by
  obtain ⟨M1, g1⟩ : ∃ M1, M1 = mst M q x (iI (D x + 1)) := ⟨_, rfl⟩
  have f1 : ∀ j, M1 q j = if j = x then iI (D x + 1) else M q j := fun j => by rw [g1, mst_a, if_pos rfl]
  have v1 : M1 q y = iI (if y = x then D x + 1 else D y) := by
    rw [f1]
    by_cases c : y = x
    · rw [if_pos c, if_pos c]
    · rw [if_neg c, if_neg c, h y hy]
  refine ⟨mst M1 q y (iI ((if y = x then D x + 1 else D y) - 1)), ?_, fun j hj => ?_, fun k hk => by rw [mst_k _ _ _ _ hk, g1, mst_k _ _ _ _ hk]⟩
  · unfold s_X7_marks
    rw [mrd_i (by omega) (by omega), Int.toNat_natCast, h x hx, Option.bind_some, li_1, iI_add, mwr_i (by omega) (by omega), Int.toNat_natCast, Option.bind_some, ← g1, mrd_i (by omega) (by omega), Int.toNat_natCast, v1, Option.bind_some, iI_sub, mwr_i (by omega) (by omega), Int.toNat_natCast]
    rfl
  · rw [mst_a, if_pos rfl, f1]
    unfold mk1
    by_cases c : j = y
    · rw [if_pos c, if_pos c.symm]
      by_cases d : y = x
      · rw [if_pos d, if_pos (by omega), show D x = D j by rw [c, d]]
        exact congrArg iI (by omega)
      · rw [if_neg d, if_neg (by omega), c]
        exact congrArg iI (by omega)
    · rw [if_neg c, if_neg (Ne.symm c)]
      by_cases d : j = x
      · rw [if_pos d, if_pos d.symm, d]
        exact congrArg iI (by omega)
      · rw [if_neg d, if_neg (Ne.symm d), h j hj]
        exact congrArg iI (by omega)
theorem L_lay7 : ∀ (r fu d : Nat) (M : Mem), d + r = 10081 → r < fu → (∀ j, j < d → M 20 j = iI 0 ∧ M 21 j = iI 0) → ∃ y M', L_X7_lays_7 fu (iI d) M = some (y, M') ∧ (∀ j, j ≤ 10080 → M' 20 j = iI 0 ∧ M' 21 j = iI 0) ∧ ∀ k, k ≠ 20 → k ≠ 21 → M' k = M k := by
  intro r
  induction r with
  | zero =>
    intro fu d M hd hf h
    cases fu with
    | zero => omega
    | succ fu =>
      have hd' : d = 10081 := by omega
      subst hd'
      refine ⟨iI ((10081 : Nat) : Int), M, ?_, fun j hj => h j (by omega), fun _ _ _ => rfl⟩
      rw [L_X7_lays_7, if_pos (by rw [li_10080, iI_lt] <;> omega)]
  | succ r ih =>
    intro fu d M hd hf h
    cases fu with
    | zero => omega
    | succ fu =>
      obtain ⟨y, M', a1, a2, a3⟩ := ih fu (d + 1) (mst (mst M 20 d (iI 0)) 21 d (iI 0)) (by omega) (by omega) (fun j hj => by
        rw [mst_k _ _ _ _ (show (20 : Nat) ≠ 21 by omega), mst_a, if_pos rfl, mst_a, if_pos rfl, mst_k _ _ _ _ (show (21 : Nat) ≠ 20 by omega)]
        by_cases c : j = d
        · rw [if_pos c, if_pos c]; exact ⟨rfl, rfl⟩
        · rw [if_neg c, if_neg c]; exact h j (by omega))
      refine ⟨y, M', ?_, a2, fun k k1 k2 => by rw [a3 k k1 k2, mst_k _ _ _ _ k2, mst_k _ _ _ _ k1]⟩
      rw [← a1, L_X7_lays_7, if_neg (by rw [li_10080, iI_lt] <;> omega), li_0, mwr_i (by omega) (by omega), Option.bind_some, mwr_i (by omega) (by omega), Option.bind_some, Int.toNat_natCast]
      unfold bnd
      rw [li_1, iI_add]
      rfl
theorem L_lay36 {l : List (Nat × Nat)} {R : Nat} (hb : ∀ q ∈ l, q.1 ≤ q.2 ∧ q.2 ≤ 10080) (hl : l.length ≤ 41) {M0 : Mem} (h : ShA M0 l R) : ∀ (r fu k : Nat) (M : Mem), k + r = l.length → r < fu → (∀ k, k ≠ 20 → M k = M0 k) → (∀ j, j ≤ 10080 → M 20 j = iI (mkl j (l.drop (l.length - k)))) → ∃ y M', L_X7_lays_36 fu (iI k) M = some (y, M') ∧ (∀ k, k ≠ 20 → M' k = M0 k) ∧ ∀ j, j ≤ 10080 → M' 20 j = iI (mkl j l) := by
  intro r
  induction r with
  | zero =>
    intro fu k M hk hf h1 h2
    cases fu with
    | zero => omega
    | succ fu =>
      have hk' : k = l.length := by omega
      subst hk'
      refine ⟨iI (l.length : Int), M, ?_, h1, fun j hj => ?_⟩
      · rw [L_X7_lays_36, h1 1 (by omega), h.1, if_pos (by rw [iI_le] <;> omega)]
      · rw [h2 j hj, Nat.sub_self, List.drop_zero]
  | succ r ih =>
    intro fu k M hk hf h1 h2
    cases fu with
    | zero => omega
    | succ fu =>
      have hk' : k < l.length := by omega
      have hm := hb _ (gx_mem (0, 0) hk')
      obtain ⟨M1, m1, m2, m3⟩ := X7_marks h2 (x := (gx l (0, 0) k).1) (y := (gx l (0, 0) k).2) (by omega) (by omega)
      obtain ⟨y, M', a1, a2, a3⟩ := ih fu (k + 1) M1 (by omega) (by omega) (fun j hj => by rw [m3 j hj, h1 j hj]) (fun j hj => by rw [m2 j hj, drop_gx (0, 0) hk']; rfl)
      refine ⟨y, M', ?_, a2, a3⟩
      rw [← a1, L_X7_lays_36, h1 1 (by omega), h.1, if_neg (by rw [iI_le] <;> omega), mrd_i (by omega) (by omega), Int.toNat_natCast, h1 18 (by omega), (h.2.2 k hk').1, Option.bind_some, mrd_i (by omega) (by omega), Int.toNat_natCast, h1 19 (by omega), (h.2.2 k hk').2, Option.bind_some, m1, Option.bind_some]
      unfold bnd
      rw [li_1, iI_add]
      rfl
/-- spans of an employee in the model's arrays -/
def SpM (M : Mem) (a b c e : Nat) (l : List (Nat × Nat)) : Prop := M a e = iI (l.length : Int) ∧ ∀ k, k < l.length → M b (20 * e + k) = iI ((gx l (0, 0) k).1 : Nat) ∧ M c (20 * e + k) = iI ((gx l (0, 0) k).2 : Nat)
theorem L_lay75 {e : Nat} (he : e < 6) {l : List (Nat × Nat)} (hb : SpOK l 20) {M0 : Mem} (h : SpM M0 8 9 10 e l) {D : Nat → Int} : ∀ (r fu k : Nat) (M : Mem), k + r = l.length → r < fu → (∀ k, k ≠ 20 → M k = M0 k) → (∀ j, j ≤ 10080 → M 20 j = iI (D j + mkl j (l.drop (l.length - k)))) → ∃ y M', L_X7_lays_75 (iI e) fu (iI ((20 * e + k : Nat) : Int)) M = some (y, M') ∧ (∀ k, k ≠ 20 → M' k = M0 k) ∧ ∀ j, j ≤ 10080 → M' 20 j = iI (D j + mkl j l) := by
  obtain ⟨hl, hb⟩ := hb
  have eix : 20 * iI (e : Int) + iI (l.length : Int) = iI ((20 * e + l.length : Nat) : Int) := by
    rw [li_20, iI_mul, iI_add]; exact congrArg iI (by omega)
  intro r
  induction r with
  | zero =>
    intro fu k M hk hf h1 h2
    cases fu with
    | zero => omega
    | succ fu =>
      have hk' : k = l.length := by omega
      subst hk'
      refine ⟨iI ((20 * e + l.length : Nat) : Int), M, ?_, h1, fun j hj => ?_⟩
      · rw [L_X7_lays_75, mrd_i (by omega) (by omega), Int.toNat_natCast, h1 8 (by omega), h.1, Option.bind_some, eix, if_pos (by rw [iI_le] <;> omega)]
      · rw [h2 j hj, Nat.sub_self, List.drop_zero]
  | succ r ih =>
    intro fu k M hk hf h1 h2
    cases fu with
    | zero => omega
    | succ fu =>
      have hk' : k < l.length := by omega
      have hm := hb _ (gx_mem (0, 0) hk')
      obtain ⟨M1, m1, m2, m3⟩ := X7_marks h2 (x := (gx l (0, 0) k).1) (y := (gx l (0, 0) k).2) (by omega) (by omega)
      obtain ⟨y, M', a1, a2, a3⟩ := ih fu (k + 1) M1 (by omega) (by omega) (fun j hj => by rw [m3 j hj, h1 j hj]) (fun j hj => by rw [m2 j hj, drop_gx (0, 0) hk', Int.add_assoc]; rfl)
      refine ⟨y, M', ?_, a2, a3⟩
      rw [← a1, L_X7_lays_75, mrd_i (by omega) (by omega), Int.toNat_natCast, h1 8 (by omega), h.1, Option.bind_some, eix, if_neg (by rw [iI_le] <;> omega), mrd_i (by omega) (by omega), Int.toNat_natCast, h1 9 (by omega), (h.2 k hk').1, Option.bind_some, mrd_i (by omega) (by omega), Int.toNat_natCast, h1 10 (by omega), (h.2 k hk').2, Option.bind_some, m1, Option.bind_some]
      unfold bnd
      rw [li_1, iI_add]
      rfl
theorem L_lay121 {e : Nat} (he : e < 6) {l : List (Nat × Nat)} (hb : SpOK l 20) {M0 : Mem} (h : SpM M0 11 12 13 e l) {D : Nat → Int} : ∀ (r fu k : Nat) (M : Mem), k + r = l.length → r < fu → (∀ k, k ≠ 21 → M k = M0 k) → (∀ j, j ≤ 10080 → M 21 j = iI (D j + mkl j (l.drop (l.length - k)))) → ∃ y M', L_X7_lays_121 (iI e) fu (iI ((20 * e + k : Nat) : Int)) M = some (y, M') ∧ (∀ k, k ≠ 21 → M' k = M0 k) ∧ ∀ j, j ≤ 10080 → M' 21 j = iI (D j + mkl j l) := by
  obtain ⟨hl, hb⟩ := hb
  have eix : 20 * iI (e : Int) + iI (l.length : Int) = iI ((20 * e + l.length : Nat) : Int) := by
    rw [li_20, iI_mul, iI_add]; exact congrArg iI (by omega)
  intro r
  induction r with
  | zero =>
    intro fu k M hk hf h1 h2
    cases fu with
    | zero => omega
    | succ fu =>
      have hk' : k = l.length := by omega
      subst hk'
      refine ⟨iI ((20 * e + l.length : Nat) : Int), M, ?_, h1, fun j hj => ?_⟩
      · rw [L_X7_lays_121, mrd_i (by omega) (by omega), Int.toNat_natCast, h1 11 (by omega), h.1, Option.bind_some, eix, if_pos (by rw [iI_le] <;> omega)]
      · rw [h2 j hj, Nat.sub_self, List.drop_zero]
  | succ r ih =>
    intro fu k M hk hf h1 h2
    cases fu with
    | zero => omega
    | succ fu =>
      have hk' : k < l.length := by omega
      have hm := hb _ (gx_mem (0, 0) hk')
      obtain ⟨M1, m1, m2, m3⟩ := X7_marks h2 (x := (gx l (0, 0) k).1) (y := (gx l (0, 0) k).2) (by omega) (by omega)
      obtain ⟨y, M', a1, a2, a3⟩ := ih fu (k + 1) M1 (by omega) (by omega) (fun j hj => by rw [m3 j hj, h1 j hj]) (fun j hj => by rw [m2 j hj, drop_gx (0, 0) hk', Int.add_assoc]; rfl)
      refine ⟨y, M', ?_, a2, a3⟩
      rw [← a1, L_X7_lays_121, mrd_i (by omega) (by omega), Int.toNat_natCast, h1 11 (by omega), h.1, Option.bind_some, eix, if_neg (by rw [iI_le] <;> omega), mrd_i (by omega) (by omega), Int.toNat_natCast, h1 12 (by omega), (h.2 k hk').1, Option.bind_some, mrd_i (by omega) (by omega), Int.toNat_natCast, h1 13 (by omega), (h.2 k hk').2, Option.bind_some, m1, Option.bind_some]
      unfold bnd
      rw [li_1, iI_add]
      rfl

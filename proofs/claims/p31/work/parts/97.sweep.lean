/-! the sweep over the events -/
theorem sm_z {F : Nat → Int} : ∀ n, (∀ i, i < n → F i = 0) → sm F n = 0
  | 0, _ => rfl
  | n + 1, h => by rw [sm, sm_z n (fun i hi => h i (by omega)), h n (by omega)]; rfl
theorem sm_cut {F : Nat → Int} {i : Nat} : ∀ n, i ≤ n → (∀ j, i ≤ j → j < n → F j = 0) → sm F n = sm F i
  | 0, h, _ => by rw [show i = 0 by omega]
  | n + 1, h, hz => by
    by_cases c : i = n + 1
    · rw [c]
    · rw [sm, sm_cut n (by omega) (fun j g1 g2 => hz j g1 (by omega)), hz n (by omega) (by omega)]
      omega
theorem sm_le {F : Nat → Int} (h : ∀ i, 0 ≤ F i) {i : Nat} : ∀ n, i ≤ n → sm F i ≤ sm F n
  | 0, h' => by rw [show i = 0 by omega]; exact Int.le_refl _
  | n + 1, h' => by
    by_cases c : i = n + 1
    · rw [c]; exact Int.le_refl _
    · have := sm_le h n (i := i) (by omega)
      have := h n
      rw [sm]
      omega
/-- between two events the sum by the minute is the sum of those before -/
theorem sm_tle {f : Nat → Nat → Int} {n i k : Nat} {m : Nat} (hs : ∀ i j, i ≤ j → j < n → f i 0 ≤ f j 0) (hi : i ≤ n) (h1 : 0 < i → f (i - 1) 0 ≤ m) (h2 : i < n → (m : Int) < f i 0) : sm (fun j => tle (f j 0) m (f j k)) n = sm (fun j => f j k) i := by
  rw [sm_cut n hi (fun j g1 g2 => ?_)]
  · refine sm_congr i (fun j hj => ?_)
    unfold tle
    rw [if_pos]
    have := hs j (i - 1) (by omega) (by omega)
    have := h1 (by omega)
    omega
  · unfold tle
    rw [if_neg]
    have := hs i j g1 g2
    have := h2 (by omega)
    omega
def wk (C B : Nat → Int) (m : Nat) : Bool := decide (0 < C m) && decide (B m = 0)
/-- minutes below T that are covered twice -/
def db (C : Nat → Int) : Nat → Nat
  | 0 => 0
  | T + 1 => db C T + (if 1 < C T then 1 else 0)
theorem db_iv {C : Nat → Int} {a : Nat} {c : Int} : ∀ n, (∀ m, a ≤ m → m < a + n → C m = c) → db C (a + n) = db C a + (if 1 < c then n else 0)
  | 0, _ => by simp
  | n + 1, h => by
    rw [← Nat.add_assoc, db, db_iv n (fun m g1 g2 => h m g1 (by omega)), h (a + n) (by omega) (by omega)]
    split <;> omega
theorem X5_addWorked {M : Mem} {l : List (Nat × Nat)} (h : Tl M 41 l) {b e : Nat} (hb : b ≤ 10080) (hl : ∀ q ∈ l, q.2 ≤ 10080) (hr : (l ≠ [] ∧ hdE l = b) ∨ l.length + 1 ≤ 80) : ∃ M', s_X5_addWorked M (iI b) (iI e) = some M' ∧ Tl M' 41 (push b e l) ∧ Fr 41 M M' := by
  have hn := h.n_b
  cases l with
  | nil =>
    obtain ⟨M', a1, a2, a3⟩ := h.add (by decide) (by decide) b e
    refine ⟨M', ?_, a2, a3⟩
    unfold s_X5_addWorked
    rw [h.size, Option.bind_some]
    simp only [bnd, li_1, li_0, iI_sub]
    rw [if_pos (by rw [iI_lt] <;> simp), a1]
    rfl
  | cons q r =>
    obtain ⟨b', e'⟩ := q
    have hg := h.get1 (k := r.length) (by simp)
    rw [gx_eq] at hg
    have he := hl _ List.mem_cons_self
    dsimp only at hg he
    rw [List.length_cons] at hn hr
    have hsz : s_X4_size M 41 = some (iI ((r.length + 1 : Nat) : Int)) := h.size
    have e1 : ((r.length + 1 : Nat) : Int) - 1 = (r.length : Int) := by omega
    by_cases c : e' = b
    · obtain ⟨M', a1, a2, a3⟩ := h.setEnd (by decide) e
      refine ⟨M', ?_, by rw [push, if_pos c]; exact a2, a3⟩
      unfold s_X5_addWorked
      rw [hsz, Option.bind_some]
      simp only [bnd]
      rw [show iI ((r.length + 1 : Nat) : Int) - 1 = iI (r.length : Int) by rw [li_1, iI_sub, e1]]
      rw [if_neg (by rw [li_0, iI_lt] <;> omega), hg, Option.bind_some, if_pos (by rw [c]), a1]
      rfl
    · have hr' : r.length + 1 + 1 ≤ 80 := by
        rcases hr with ⟨_, g⟩ | g
        · exact absurd g c
        · exact g
      obtain ⟨M', a1, a2, a3⟩ := h.add (by decide) (by rw [List.length_cons]; show _ ≤ 160; omega) b e
      refine ⟨M', ?_, by rw [push, if_neg c]; exact a2, a3⟩
      unfold s_X5_addWorked
      rw [hsz, Option.bind_some]
      simp only [bnd]
      rw [show iI ((r.length + 1 : Nat) : Int) - 1 = iI (r.length : Int) by rw [li_1, iI_sub, e1]]
      rw [if_neg (by rw [li_0, iI_lt] <;> omega), hg, Option.bind_some, if_neg (by rw [iI_eq] <;> omega), a1]
      rfl
theorem sm_b {F : Nat → Int} : ∀ n, (∀ i, i < n → -1 ≤ F i ∧ F i ≤ 1) → -(n : Int) ≤ sm F n ∧ sm F n ≤ n
  | 0, _ => by simp [sm]
  | n + 1, h => by
    have h1 := sm_b n (fun i hi => h i (by omega))
    have h2 := h n (by omega)
    rw [sm]
    omega
theorem sm_diff {F F' G G' : Nat → Int} : ∀ n, (∀ i, i < n → F i - F' i ≤ G i - G' i) → sm F n - sm F' n ≤ sm G n - sm G' n
  | 0, _ => by simp [sm]
  | n + 1, h => by
    have h1 := sm_diff n (fun i hi => h i (by omega))
    have h2 := h n (by omega)
    simp only [sm]
    omega
theorem rr_cap {n : Nat} {f : Nat → Nat → Int} {C B : Nat → Int} {P : Int} {M : Mem} (hE : Ev M n f C B P) (hB : ∀ m, 0 ≤ B m) : ∀ T, ((rr (wk C B) (T + 1)).length : Int) ≤ sm (fun i => tle (f i 0) T (opn (f i 1) (f i 2))) n := by
  obtain ⟨h1, h2, h3, h4, h5, h6⟩ := hE
  have hz : sm (fun _ => (0 : Int)) n = 0 := sm_z n (fun _ _ => rfl)
  intro T
  induction T with
  | zero =>
    have d1 := sm_diff (F := fun i => tle (f i 0) (0 : Nat) (f i 1)) (F' := fun _ => 0) (G := fun i => tle (f i 0) (0 : Nat) (opn (f i 1) (f i 2))) (G' := fun _ => 0) n (fun i hi => by
      have := h3 i hi
      unfold tle opn
      (repeat' split) <;> omega)
    have d0 := sm_diff (F := fun _ => 0) (F' := fun _ => 0) (G := fun i => tle (f i 0) (0 : Nat) (opn (f i 1) (f i 2))) (G' := fun _ => 0) n (fun i hi => by
      unfold tle opn
      (repeat' split) <;> omega)
    rw [h4 0, hz] at d1
    rw [hz] at d0
    rw [rr]
    by_cases c : wk C B 0 = true
    · rw [if_pos c]
      unfold wk at c
      simp only [Bool.and_eq_true, decide_eq_true_eq] at c
      simp only [rr, push, List.length_cons, List.length_nil]
      omega
    · rw [if_neg c]
      simp only [rr, List.length_nil]
      omega
  | succ T ih =>
    have d1 := sm_diff (F := fun i => tle (f i 0) (T + 1 : Nat) (f i 1)) (F' := fun i => tle (f i 0) (T : Nat) (f i 1)) (G := fun i => tle (f i 0) (T + 1 : Nat) (opn (f i 1) (f i 2))) (G' := fun i => tle (f i 0) (T : Nat) (opn (f i 1) (f i 2))) n (fun i hi => by
      have := h3 i hi
      unfold tle opn
      (repeat' split) <;> omega)
    have d2 := sm_diff (F := fun i => tle (f i 0) (T : Nat) (f i 2)) (F' := fun i => tle (f i 0) (T + 1 : Nat) (f i 2)) (G := fun i => tle (f i 0) (T + 1 : Nat) (opn (f i 1) (f i 2))) (G' := fun i => tle (f i 0) (T : Nat) (opn (f i 1) (f i 2))) n (fun i hi => by
      have := h3 i hi
      unfold tle opn
      (repeat' split) <;> omega)
    have d3 := sm_diff (F := fun _ => 0) (F' := fun _ => 0) (G := fun i => tle (f i 0) (T + 1 : Nat) (opn (f i 1) (f i 2))) (G' := fun i => tle (f i 0) (T : Nat) (opn (f i 1) (f i 2))) n (fun i hi => by
      unfold tle opn
      (repeat' split) <;> omega)
    rw [h4 (T + 1), h4 T] at d1
    rw [h5 (T + 1), h5 T] at d2
    rw [hz] at d3
    have hl := rr_length (wk C B) (T + 1)
    rw [hl]
    have hBT := hB T
    by_cases c : ln (wk C B) (T + 1 + 1) = 1
    · rw [if_pos c]
      have c1 : wk C B (T + 1) = true := by
        by_cases c' : wk C B (T + 1) = true
        · exact c'
        · rw [ln, if_neg c'] at c; omega
      have c2 : wk C B T = false := by
        cases c' : wk C B T with
        | false => rfl
        | true => rw [ln, if_pos c1, ln, if_pos c'] at c; omega
      unfold wk at c1 c2
      simp only [Bool.and_eq_true, decide_eq_true_eq] at c1
      simp only [Bool.and_eq_false_iff, decide_eq_false_iff_not] at c2
      omega
    · rw [if_neg c]
      omega
theorem rr_capP {n : Nat} {f : Nat → Nat → Int} {C B : Nat → Int} {P : Int} {M : Mem} (hE : Ev M n f C B P) (hB : ∀ m, 0 ≤ B m) (hP : P ≤ 80) : ∀ T, (rr (wk C B) T).length ≤ 80
  | 0 => by simp [rr]
  | T + 1 => by
    have h1 := rr_cap hE hB T
    have h6 := hE.2.2.2.2.2
    have hz : sm (fun _ => (0 : Int)) n = 0 := sm_z n (fun _ _ => rfl)
    have d := sm_diff (F := fun i => tle (f i 0) T (opn (f i 1) (f i 2))) (F' := fun _ => 0) (G := fun i => opn (f i 1) (f i 2)) (G' := fun _ => 0) n (fun i hi => by
      unfold tle opn
      (repeat' split) <;> omega)
    rw [h6] at d
    omega
theorem L_sweep {n : Nat} {f : Nat → Nat → Int} {C B : Nat → Int} {P : Int} (hcap : ∀ T, (rr (wk C B) T).length ≤ 80) : ∀ (r fu i s : Nat) (M : Mem), Ev M n f C B P → n ≤ 160 → i + r = n → r < fu → (s : Int) = (if i = 0 then 0 else f (i - 1) 0) → Tl M 41 (rr (wk C B) s) → M 38 3 = iI (db C s : Nat) →
    ∃ (y1 y2 y3 y4 : Int32) (M' : Mem) (s' : Nat), L_X5_goThroughEvents_21 fu (iI (sm (fun j => f j 1) i)) (iI (sm (fun j => f j 2) i)) (iI s) (iI i) M = some (y1, y2, y3, y4, M') ∧ s' ≤ 10080 ∧ (s' : Int) = (if n = 0 then 0 else f (n - 1) 0) ∧ Tl M' 41 (rr (wk C B) s') ∧ M' 38 3 = iI (db C s' : Nat) ∧ (∀ k, k ≠ 41 → k ≠ 42 → k ≠ 38 → M' k = M k) := by
  intro r
  induction r with
  | zero =>
    intro fu i s M hE hn hk hf hs hT hD
    cases fu with
    | zero => omega
    | succ fu =>
      have hk' : i = n := by omega
      subst hk'
      obtain ⟨h1, h2, h3, h4, h5, h6⟩ := hE
      refine ⟨iI (sm (fun j => f j 1) i), iI (sm (fun j => f j 2) i), iI (s : Int), iI (i : Int), M, s, ?_, ?_, hs, hT, hD, fun k _ _ _ => rfl⟩
      rotate_left
      · by_cases c : i = 0
        · rw [if_pos c] at hs; omega
        · rw [if_neg c] at hs
          have := h3 (i - 1) (by omega)
          omega
      · rw [L_X5_goThroughEvents_21, X4_size h1, Option.bind_some, if_pos (by rw [iI_le] <;> omega)]
  | succ r ih =>
    intro fu i s M hE hn hk hf hs hT hD
    cases fu with
    | zero => omega
    | succ fu =>
      obtain ⟨h1, h2, h3, h4, h5, h6⟩ := hE
      have hb := h3 i (by omega)
      have g0 := X4_get h1 (i := i) (c := 0) (by omega) (by decide)
      have hb1 := sm_b (F := fun j => f j 1) i (fun j hj => by have := h3 j (by omega); omega)
      have hb2 := sm_b (F := fun j => f j 2) i (fun j hj => by have := h3 j (by omega); omega)
      obtain ⟨t, ht⟩ : ∃ t : Nat, f i 0 = (t : Int) := ⟨(f i 0).toNat, by omega⟩
      have hst : s ≤ t := by
        by_cases c : i = 0
        · rw [if_pos c] at hs; omega
        · rw [if_neg c] at hs
          have := h2 (i - 1) i (by omega) (by omega)
          omega
      have hC : ∀ m, s ≤ m → m < t → C m = sm (fun j => f j 1) i := by
        intro m g1 g2
        rw [← h4 m]
        refine sm_tle h2 (by omega) (fun g => ?_) (fun _ => by omega)
        rw [if_neg (by omega)] at hs
        omega
      have hB : ∀ m, s ≤ m → m < t → B m = sm (fun j => f j 2) i := by
        intro m g1 g2
        rw [← h5 m]
        refine sm_tle h2 (by omega) (fun g => ?_) (fun _ => by omega)
        rw [if_neg (by omega)] at hs
        omega
      have hsm1 : sm (fun j => f j 1) (i + 1) = sm (fun j => f j 1) i + f i 1 := rfl
      have hsm2 : sm (fun j => f j 2) (i + 1) = sm (fun j => f j 2) i + f i 2 := rfl
      generalize sm (fun j => f j 1) i = cv at hb1 hC hsm1 ⊢
      generalize sm (fun j => f j 2) i = bk at hb2 hB hsm2 ⊢
      have hsb : s ≤ 10080 := by omega
      obtain ⟨n', hn'⟩ : ∃ n', t = s + n' := ⟨t - s, by omega⟩
      have hdb := db_iv (C := C) (a := s) (c := cv) n' (fun m g1 g2 => hC m g1 (by omega))
      rw [← hn'] at hdb
      have hdbb : ∀ T, db C T ≤ T := by
        intro T
        induction T with
        | zero => exact Nat.le_refl _
        | succ T iT => rw [db]; split <;> omega
      -- the count of what is covered twice
      obtain ⟨M1, m1, m2, m3⟩ : ∃ M1 : Mem, (bnd (α := Mem) (if iI cv < 2 then M else bnd (mst M 38 3 ((M 38 3) + (iI (t : Int) - iI (s : Int)))) fun M11 : Mem => M11) fun x => x) = M1 ∧ M1 38 3 = iI (db C t : Nat) ∧ ∀ k, k ≠ 38 → M1 k = M k := by
        simp only [bnd]
        by_cases c : cv < 2
        · refine ⟨M, by rw [if_pos (by rw [li_2, iI_lt] <;> omega)], ?_, fun k _ => rfl⟩
          rw [hD, hdb, if_neg (by omega)]
          rfl
        · refine ⟨mst M 38 3 ((M 38 3) + (iI (t : Int) - iI (s : Int))), by rw [if_neg (by rw [li_2, iI_lt] <;> omega)], ?_, fun k hk => mst_k _ _ _ _ hk⟩
          rw [mst_a, if_pos rfl, if_pos rfl, hD, iI_sub, iI_add, hdb, if_pos (by omega)]
          congr 1
          omega
      have hT1 : Tl M1 41 (rr (wk C B) s) := hT.congr (by rw [m3 41 (by omega)]) (by rw [m3 42 (by omega)])
      have h11 : Tb M1 39 n f := h1.congr (by rw [m3 39 (by omega)]) (by rw [m3 40 (by omega)])
      have hw : ∀ m, s ≤ m → m < t → (wk C B m = true ↔ 0 < cv ∧ bk = 0) := by
        intro m g1 g2
        unfold wk
        rw [hC m g1 g2, hB m g1 g2]
        simp
      obtain ⟨M2, w1, w2, w3⟩ : ∃ M2 : Mem, (Option.bind (α := Mem) (if iI (t : Int) ≤ iI (s : Int) then some M1 else if iI cv < 1 then some M1 else if iI bk = 0 then (s_X5_addWorked M1 (iI s) (iI t)).bind fun r14 => some r14 else some M1) fun x => some x) = some M2 ∧ Tl M2 41 (rr (wk C B) t) ∧ (∀ k, k ≠ 41 → k ≠ 42 → M2 k = M1 k) := by
        by_cases c : t ≤ s
        · have : t = s := by omega
          subst this
          refine ⟨M1, by rw [if_pos (by rw [iI_le] <;> omega)]; rfl, hT1, fun k _ _ => rfl⟩
        · rw [if_neg (by rw [iI_le] <;> omega)]
          by_cases c2 : 0 < cv ∧ bk = 0
          · have hiv := rr_iv (wk C B) (a := s) t (by omega) (fun m g1 g2 => (hw m g1 g2).mpr c2)
            have hc1 := hcap t
            rw [hiv] at hc1
            obtain ⟨M2, a1, a2, a3⟩ := X5_addWorked (e := t) hT1 hsb (fun q hq => (((rr_ok (wk C B) s).bnd hsb) q hq).2) (by
              cases hrr : rr (wk C B) s with
              | nil => right; simp
              | cons q r' =>
                obtain ⟨b', e'⟩ := q
                rw [hrr, push] at hc1
                by_cases c3 : e' = s
                · exact Or.inl ⟨by simp, c3⟩
                · rw [if_neg c3] at hc1
                  exact Or.inr hc1)
            exact ⟨M2, by rw [if_neg (by rw [li_1, iI_lt] <;> omega), if_pos (by rw [li_0, iI_eq] <;> omega), a1]; rfl, by rw [hiv]; exact a2, a3.1⟩
          · have hno := rr_no (wk C B) (a := s) t (by omega) (fun m g1 g2 => by
              cases hv : wk C B m with
              | false => rfl
              | true => exact absurd ((hw m g1 g2).mp hv) c2)
            rw [hno]
            refine ⟨M1, ?_, hT1, fun k _ _ => rfl⟩
            by_cases c3 : 0 < cv
            · rw [if_neg (by rw [li_1, iI_lt] <;> omega), if_neg (by rw [li_0, iI_eq] <;> omega)]; rfl
            · rw [if_pos (by rw [li_1, iI_lt] <;> omega)]; rfl
      have h12 : Tb M2 39 n f := h11.congr (by rw [w3 39 (by omega) (by omega)]) (by rw [w3 40 (by omega) (by omega)])
      have g1 := X4_get h12 (i := i) (c := 1) (by omega) (by decide)
      have g2 := X4_get h12 (i := i) (c := 2) (by omega) (by decide)
      obtain ⟨y1, y2, y3, y4, M', s', z1, z2, z3, z4, z5, z7⟩ := ih fu (i + 1) t M2 ⟨h12, h2, h3, h4, h5, h6⟩ hn (by omega) (by omega) (by rw [if_neg (by omega), Nat.add_sub_cancel, ht]) w2 (by rw [w3 38 (by omega) (by omega)]; exact m2)
      refine ⟨y1, y2, y3, y4, M', s', ?_, z2, z3, z4, z5, fun k k1 k2 k3 => ?_⟩
      · have m1' : (if iI cv < 2 then M else bnd (mst M 38 3 ((M 38 3) + (iI (t : Int) - iI (s : Int)))) fun M11 : Mem => M11) = M1 := m1
        have w1' : (if iI (t : Int) ≤ iI (s : Int) then some M1 else if iI cv < 1 then some M1 else if iI bk = 0 then (s_X5_addWorked M1 (iI s) (iI t)).bind fun r14 => some r14 else some M1) = some M2 := by
          revert w1
          generalize (if iI (t : Int) ≤ iI (s : Int) then some M1 else if iI cv < 1 then some M1 else if iI bk = 0 then (s_X5_addWorked M1 (iI s) (iI t)).bind fun r14 => some r14 else some M1) = z
          intro w1
          cases z with
          | none => cases w1
          | some z => exact w1
        have g0' : s_X4_get M 39 (iI ↑i) 0 = some (iI (t : Int)) := by rw [← ht]; exact g0
        have g1' : s_X4_get M2 39 (iI ↑i) 1 = some (iI (f i 1)) := g1
        have g2' : s_X4_get M2 39 (iI ↑i) 2 = some (iI (f i 2)) := g2
        rw [← z1, L_X5_goThroughEvents_21, X4_size h1, Option.bind_some, if_neg (by rw [iI_le] <;> omega), g0', Option.bind_some, m1']
        unfold bnd
        dsimp only
        rw [w1', Option.bind_some, g1', Option.bind_some, g2', Option.bind_some, iI_add, iI_add, li_1, iI_add, hsm1, hsm2]
        rfl
      · rw [z7 k k1 k2 k3, w3 k k1 k2, m3 k k3]
theorem X5_go {n : Nat} {f : Nat → Nat → Int} {C B : Nat → Int} {P : Int} {M : Mem} (hE : Ev M n f C B P) (hn : n ≤ 160) (hB : ∀ m, 0 ≤ B m) (hP : P ≤ 80) (hC0 : C 10080 = 0) : ∃ M', s_X5_goThroughEvents M = some M' ∧ Tl M' 41 (rr (wk C B) 10080) ∧ M' 38 3 = iI (db C 10080 : Nat) ∧ (∀ k, k ≠ 41 → k ≠ 42 → k ≠ 38 → M' k = M k) := by
  obtain ⟨M1, a1, a2, a3⟩ := X4_clear M 41 (spf [])
  obtain ⟨h1, h2, h3, h4, h5, h6⟩ := id hE
  have hcap := rr_capP hE hB hP
  have hT0 : Tl (mst M1 38 3 0) 41 (rr (wk C B) 0) := by
    have : Tl M1 41 [] := a2
    exact this.congr (by rw [mst_k _ _ _ _ (by omega)]) (by rw [mst_k _ _ _ _ (by omega)])
  have hE1 : Ev (mst M1 38 3 0) n f C B P := ⟨h1.congr (by rw [mst_k _ _ _ _ (by omega), a3.1 39 (by omega) (by omega)]) (by rw [mst_k _ _ _ _ (by omega), a3.1 40 (by omega) (by omega)]), h2, h3, h4, h5, h6⟩
  obtain ⟨y1, y2, y3, y4, M', s', z1, z2, z3, z4, z5, z7⟩ := L_sweep hcap n FU 0 0 (mst M1 38 3 0) hE1 hn (by omega) (by rw [FU_0]; omega) rfl hT0 (by rw [mst_a, if_pos rfl, if_pos rfl]; rfl)
  have hall : ∀ m : Nat, s' ≤ m → C m = C 10080 := by
    intro m hm
    rw [← h4 m, ← h4 10080]
    refine sm_congr n (fun i hi => ?_)
    have e1 : f i 0 ≤ (s' : Int) := by
      rw [if_neg (by omega)] at z3
      rw [z3]
      exact h2 i (n - 1) (by omega) (by omega)
    unfold tle
    rw [if_pos (by omega), if_pos (by omega)]
  have hno := rr_no (wk C B) (a := s') 10080 z2 (fun m g1 g2 => by
    unfold wk
    rw [hall m g1, hC0]
    rfl)
  obtain ⟨n', hn'⟩ : ∃ n', 10080 = s' + n' := ⟨10080 - s', by omega⟩
  have hdb := db_iv (C := C) (a := s') (c := 0) n' (fun m g1 g2 => by rw [hall m g1, hC0])
  rw [← hn', if_neg (by omega)] at hdb
  refine ⟨M', ?_, by rw [hno]; exact z4, by rw [hdb]; exact z5, fun k k1 k2 k3 => ?_⟩
  · unfold s_X5_goThroughEvents
    rw [a1, Option.bind_some]
    unfold bnd
    dsimp only
    have e0 : L_X5_goThroughEvents_21 FU 0 0 0 0 (mst M1 38 3 0) = some (y1, y2, y3, y4, M') := z1
    rw [e0]
    rfl
  · rw [z7 k k1 k2 k3, mst_k _ _ _ _ k3, a3.1 k k1 k2]

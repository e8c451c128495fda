def ul (d w : Nat) : Nat := if w < 2400 then min (if d < 480 then 480 - d else if d < 720 then 720 - d else 10080) (2400 - w) else if d < 480 then 480 - d else if d < 720 then 720 - d else 10080
theorem X1_ul {d w : Nat} (hd : d ≤ 10080) (hw : w ≤ 10080) : s_X1_untilLimit (iI d) (iI w) = some (iI (ul d w : Nat)) := by
  have hin : (if (480 : Int32) ≤ iI d then if (720 : Int32) ≤ iI d then (10080 : Int32) else bnd (720 - iI d) fun z2 => z2 else bnd (480 - iI d) fun z3 => z3) = iI ((if d < 480 then 480 - d else if d < 720 then 720 - d else 10080 : Nat) : Int) := by
    simp only [bnd, li_480, li_720, li_10080, iI_sub]
    by_cases c1 : d < 480
    · rw [if_neg (by rw [iI_le] <;> omega), if_pos c1]
      congr 1
      omega
    · rw [if_pos (by rw [iI_le] <;> omega), if_neg c1]
      by_cases c2 : d < 720
      · rw [if_neg (by rw [iI_le] <;> omega), if_pos c2]
        congr 1
        omega
      · rw [if_pos (by rw [iI_le] <;> omega), if_neg c2]
        rfl
  unfold s_X1_untilLimit ul
  rw [hin]
  have hb : (if d < 480 then 480 - d else if d < 720 then 720 - d else 10080) ≤ 10080 := by
    split
    · omega
    · split <;> omega
  generalize (if d < 480 then 480 - d else if d < 720 then 720 - d else 10080) = x at hb ⊢
  simp only [bnd, li_2400, iI_sub]
  by_cases c3 : w < 2400
  · rw [if_neg (by rw [iI_le] <;> omega), if_pos c3, iI_mn (by omega) (by omega)]
    congr 2
    omega
  · rw [if_pos (by rw [iI_le] <;> omega), if_neg c3]
def bI (x : Bool) : Int32 := if x then 1 else 0
theorem bI_0 (x : Bool) : bI x = 0 ↔ x = false := by cases x <;> decide
theorem X1_cat {d w : Nat} {x : Bool} (hd : d ≤ 10080) (hw : w ≤ 10080) : s_X1_categoryFor (iI d) (iI w) (bI x) = some (iI (cat d w x : Nat)) := by
  unfold s_X1_categoryFor cat
  simp only [li_480, li_720, li_2400]
  have p1 : (iI 720 ≤ iI ↑d) = (720 ≤ d) := propext (by rw [iI_le] <;> omega)
  have p2 : (iI 480 ≤ iI ↑d) = (480 ≤ d) := propext (by rw [iI_le] <;> omega)
  have p3 : (iI ↑d < iI 480) = (d < 480) := propext (by rw [iI_lt] <;> omega)
  have p4 : (iI 2400 ≤ iI ↑w) = (2400 ≤ w) := propext (by rw [iI_le] <;> omega)
  have p5 : (bI x = 0) = (x = false) := propext (bI_0 x)
  simp only [p1, p2, p3, p4, p5]
  have k0 : (0 : Int32) = iI ((0 : Nat) : Int) := rfl
  have k1 : (1 : Int32) = iI ((1 : Nat) : Int) := rfl
  have k2 : (2 : Int32) = iI ((2 : Nat) : Int) := rfl
  rw [k0, k1, k2]
  by_cases c1 : 720 ≤ d
  · simp [c1]
  · by_cases c2 : 480 ≤ d
    · have c3 : ¬ d < 480 := by omega
      cases x <;> simp [c1, c2, c3]
    · have c3 : d < 480 := by omega
      by_cases c4 : 2400 ≤ w
      · cases x <;> simp [c1, c2, c3, c4]
      · cases x <;> simp [c1, c2, c3, c4]
theorem ow_le (p : Nat → Bool) : ∀ T, ow p T ≤ T
  | 0 => Nat.le_refl _
  | T + 1 => by
    have := ow_le p T
    rw [ow]
    split <;> omega
theorem xd_day (full : Bool) {d m n : Nat} (h1 : d * 1440 ≤ m) (h2 : m < (d + 1) * 1440) (h3 : d * 1440 ≤ n) (h4 : n < (d + 1) * 1440) : xd full m = xd full n := by
  unfold xd
  rw [show m / 1440 = n / 1440 by omega]
theorem L_parts {p : Nat → Bool} {full : Bool} {d b e : Nat} (hd : d < 7) (hb : d * 1440 ≤ b) (hbe : b ≤ e) (he : e ≤ (d + 1) * 1440) (hp : ∀ m, b ≤ m → m < e → p m = true) (hr : (rr p 10080).length ≤ 160) : ∀ (R fu a i : Nat) (M : Mem), e - a ≤ R → b ≤ a → a ≤ e → i ≤ a - b → R < fu → Tq M 36 (qq p full a) → (a < e → cut p a = true ∨ hdQ (qq p full a) ≠ a ∨ qq p full a = []) → ∃ y1 y2 M', L_X1_addParts_6 (iI b) (iI e) (iI (od p b)) (iI (ow p b)) (bI (xd full b)) fu (iI a) (iI i) M = some (y1, y2, M') ∧ Tq M' 36 (qq p full e) ∧ Fr 36 M M' := by
  intro R
  induction R with
  | zero =>
    intro fu a i M hR h1 h2 h3 hf hT hc
    cases fu with
    | zero => omega
    | succ fu =>
      have ha : a = e := by omega
      subst ha
      refine ⟨iI a, iI i, M, ?_, hT, Fr.rf⟩
      rw [L_X1_addParts_6, li_1440]
      by_cases c1 : 1440 ≤ i
      · rw [if_pos (by rw [iI_le] <;> omega)]
      · rw [if_neg (by rw [iI_le] <;> omega), if_pos (by rw [iI_le] <;> omega)]
  | succ R ih =>
    intro fu a i M hR h1 h2 h3 hf hT hc
    cases fu with
    | zero => omega
    | succ fu =>
      by_cases ha : a = e
      · subst ha
        refine ⟨iI a, iI i, M, ?_, hT, Fr.rf⟩
        rw [L_X1_addParts_6, li_1440]
        by_cases c1 : 1440 ≤ i
        · rw [if_pos (by rw [iI_le] <;> omega)]
        · rw [if_neg (by rw [iI_le] <;> omega), if_pos (by rw [iI_le] <;> omega)]
      · obtain ⟨n, hn⟩ : ∃ n, a = b + n := ⟨a - b, by omega⟩
        obtain ⟨k, hk⟩ : ∃ k, b = d * 1440 + k := ⟨b - d * 1440, by omega⟩
        have hwa : ow p a = ow p b + n := by rw [hn]; exact ow_iv p n (fun m g1 g2 => hp m g1 (by omega))
        have hob := od_ow p d k (by omega)
        have hoa := od_ow p d (k + n) (by omega)
        rw [← hk] at hob
        rw [← Nat.add_assoc, ← hk, ← hn] at hoa
        have hle := ow_le p a
        have hoda : od p a = od p b + n := by omega
        have e4 : iI ↑(od p b) + iI ↑a - iI ↑b = iI (od p a : Nat) := by rw [iI_add, iI_sub]; congr 1; omega
        have e5 : iI ↑(ow p b) + iI ↑a - iI ↑b = iI (ow p a : Nat) := by rw [iI_add, iI_sub]; congr 1; omega
        obtain ⟨len, hlen⟩ : ∃ len, len = min (e - a) (ul (od p a) (ow p a)) := ⟨_, rfl⟩
        have hul : 1 ≤ ul (od p a) (ow p a) ∧ ul (od p a) (ow p a) ≤ 10080 := by
          unfold ul
          split
          · split
            · omega
            · split <;> omega
          · split
            · omega
            · split <;> omega
        obtain ⟨l0, hl0⟩ : ∃ l0, len = l0 + 1 := ⟨len - 1, by omega⟩
        have hstep : ∀ j, a + j < e → od p (a + j) = od p a + j ∧ ow p (a + j) = ow p a + j := by
          intro j hj
          have g1 := ow_iv p j (a := a) (fun m g1 g2 => hp m (by omega) (by omega))
          have g2 := od_ow p d (k + n + j) (by omega)
          rw [← Nat.add_assoc, ← Nat.add_assoc, ← hk, ← hn] at g2
          omega
        have hnc : ∀ m, a < m → m < a + (l0 + 1) → cut p m = false := by
          intro m g1 g2
          obtain ⟨j, hj⟩ : ∃ j, m = a + j := ⟨m - a, by omega⟩
          obtain ⟨s1, s2⟩ := hstep j (by omega)
          rw [← hj] at s1 s2
          have hu : l0 + 1 ≤ ul (od p a) (ow p a) := by omega
          unfold ul at hu
          simp only [cut, Bool.or_eq_false_iff, decide_eq_false_iff_not]
          split at hu
          · split at hu
            · omega
            · split at hu <;> omega
          · split at hu
            · omega
            · split at hu <;> omega
        have hq := qq_iv p full (hc (by omega)) l0 (fun m g1 g2 => hp m (by omega) (by omega)) hnc
        have hcap := qq_cap (p := p) (full := full) (T := a + (l0 + 1)) (by omega) hr
        rw [hq, List.length_cons] at hcap
        have hcm : cm p full a = cat (od p a) (ow p a) (xd full b) := by
          unfold cm
          rw [xd_day full (d := d) (m := a) (n := b) (by omega) (by omega) hb (by omega)]
        obtain ⟨M1, M2, b1, b2, b3, b4⟩ := hT.add (by omega) a (a + (l0 + 1)) (cm p full a)
        rw [← hq] at b3
        have hc' : a + (l0 + 1) < e → cut p (a + (l0 + 1)) = true ∨ hdQ (qq p full (a + (l0 + 1))) ≠ a + (l0 + 1) ∨ qq p full (a + (l0 + 1)) = [] := by
          intro g
          left
          obtain ⟨s1, s2⟩ := hstep (l0 + 1) g
          have hu : l0 + 1 = ul (od p a) (ow p a) := by omega
          simp only [cut, Bool.or_eq_true, decide_eq_true_eq]
          unfold ul at hu
          split at hu
          · split at hu
            · omega
            · split at hu <;> omega
          · split at hu
            · omega
            · split at hu <;> omega
        obtain ⟨y1, y2, M', d1, d2, d3⟩ := ih fu (a + (l0 + 1)) (i + 1) M2 (by omega) (by omega) (by omega) (by omega) (by omega) b3 hc'
        refine ⟨y1, y2, M', ?_, d2, b4.tr d3⟩
        rw [← d1, L_X1_addParts_6, li_1440, if_neg (by rw [iI_le] <;> omega), if_neg (by rw [iI_le] <;> omega)]
        simp only [bnd]
        rw [e4, e5, X1_ul (by omega) (by omega), Option.bind_some, iI_sub, iI_mn (by omega) (by omega), hT.size, Option.bind_some, iI_add]
        have ez : iI ((a : Int) + min ((ul (od p a) (ow p a) : Nat) : Int) ((e : Int) - (a : Int))) = iI ((a + (l0 + 1) : Nat) : Int) := by congr 1; omega
        rw [ez, b1, Option.bind_some, X1_cat (by omega) (by omega), Option.bind_some, ← hcm, b2, Option.bind_some, li_1, iI_add]
        rfl
theorem X1_parts {p : Nat → Bool} {full : Bool} {d b e : Nat} {M : Mem} (hd : d < 7) (hb : d * 1440 ≤ b) (hbe : b ≤ e) (he : e ≤ (d + 1) * 1440) (hp : ∀ m, b ≤ m → m < e → p m = true) (hr : (rr p 10080).length ≤ 160) (hT : Tq M 36 (qq p full b)) (hc : b < e → cut p b = true ∨ hdQ (qq p full b) ≠ b ∨ qq p full b = []) : ∃ M', s_X1_addParts M (iI b) (iI e) (iI (od p b)) (iI (ow p b)) (bI (xd full b)) = some M' ∧ Tq M' 36 (qq p full e) ∧ Fr 36 M M' := by
  obtain ⟨y1, y2, M', h1, h2, h3⟩ := L_parts hd hb hbe he hp hr (e - b) FU b 0 M (Nat.le_refl _) (Nat.le_refl _) hbe (by omega) (by rw [FU_0]; omega) hT hc
  refine ⟨M', ?_, h2, h3⟩
  unfold s_X1_addParts
  rw [li_0, show iI 0 = iI ((0 : Nat) : Int) from rfl, h1]
  rfl

/-! quarters -/
/-- over the numbers q of the seven days -/
def sd (q : Nat → Nat) : Nat → Nat
  | 0 => 0
  | d + 1 => sd q d + q d
def wq (q : Nat → Nat) : Nat := (sd q 7 + 7) / 15
/-- what is left of w when the days before d have taken their whole quarters -/
def lf (q : Nat → Nat) (w : Int) : Nat → Int
  | 0 => w
  | d + 1 => lf q w d - (q d / 15 : Nat)
def ah (q : Nat → Nat) (x : Nat) : Nat → Nat
  | 0 => 0
  | d + 1 => ah q x d + (if q x % 15 < q d % 15 ∨ (q d % 15 = q x % 15 ∧ d < x) then 1 else 0)
def shq (q : Nat → Nat) (x : Nat) : Nat := q x / 15 + (if (ah q x 7 : Int) < lf q (wq q) 7 then 1 else 0)
theorem sd_le {q : Nat → Nat} (h : ∀ d, q d ≤ 10080) : ∀ d, sd q d ≤ d * 10080
  | 0 => Nat.le_refl _
  | d + 1 => by
    have := sd_le h d
    have := h d
    rw [sd]
    omega
theorem lf_b {q : Nat → Nat} (h : ∀ d, q d ≤ 10080) {w : Int} : ∀ d, w - d * 672 ≤ lf q w d ∧ lf q w d ≤ w
  | 0 => by simp [lf]
  | d + 1 => by
    have := lf_b h d (w := w)
    have := h d
    rw [lf]
    omega
theorem ah_le (q : Nat → Nat) (x : Nat) : ∀ d, ah q x d ≤ d
  | 0 => Nat.le_refl _
  | d + 1 => by
    have := ah_le q x d
    rw [ah]
    split <;> omega
theorem L_qow {M : Mem} {q : Nat → Nat} {j : Nat} (hq : ∀ d, q d ≤ 10080) (h : ∀ d : Nat, d < 7 → s_X1_minutesOf M (iI d) (iI j) = some (iI (q d : Nat))) : ∀ (r fu d : Nat), d + r = 7 → r < fu → ∃ y, L_X1_quartersOfWeek_4 M (iI j) fu (iI (sd q d : Nat)) (iI d) = some (iI (sd q 7 : Nat), y) := by
  intro r
  induction r with
  | zero =>
    intro fu d hd hf
    cases fu with
    | zero => omega
    | succ fu =>
      have hd' : d = 7 := by omega
      subst hd'
      refine ⟨iI ((7 : Nat) : Int), ?_⟩
      rw [L_X1_quartersOfWeek_4, if_pos (by rw [li_7, iI_le] <;> omega)]
  | succ r ih =>
    intro fu d hd hf
    cases fu with
    | zero => omega
    | succ fu =>
      obtain ⟨y, e⟩ := ih fu (d + 1) (by omega) (by omega)
      refine ⟨y, ?_⟩
      rw [← e, L_X1_quartersOfWeek_4, if_neg (by rw [li_7, iI_le] <;> omega), h d (by omega), Option.bind_some]
      unfold bnd
      rw [li_1, iI_add, iI_add]
      rfl
theorem X1_qow {M : Mem} {q : Nat → Nat} {j : Nat} (hq : ∀ d, q d ≤ 10080) (h : ∀ d : Nat, d < 7 → s_X1_minutesOf M (iI d) (iI j) = some (iI (q d : Nat))) : s_X1_quartersOfWeek M (iI j) = some (iI (wq q : Nat)) := by
  obtain ⟨y, e⟩ := L_qow hq h 7 FU 0 (by omega) (by rw [FU_0]; omega)
  have e' : L_X1_quartersOfWeek_4 M (iI j) FU 0 0 = some (iI (sd q 7 : Nat), y) := e
  have hs := sd_le hq 7
  unfold s_X1_quartersOfWeek wq
  rw [e', Option.bind_some]
  dsimp only
  rw [li_7, li_15, iI_add, iI_div (by omega) (by omega)]
  rfl
theorem iI_mod15 {a : Nat} (h : a ≤ 10080) : iI (a : Int) - iI (a : Int) / 15 * 15 = iI ((a % 15 : Nat) : Int) := by
  rw [li_15, iI_div (by omega) (by omega), iI_mul, iI_sub]
  congr 1
  omega
theorem iI_div15 {a : Nat} (h : a ≤ 10080) : iI (a : Int) / 15 = iI ((a / 15 : Nat) : Int) := by
  rw [li_15, iI_div (by omega) (by omega)]
  congr 1
theorem L_qof {M : Mem} {q : Nat → Nat} {j x : Nat} (hx : x < 7) (hq : ∀ d, q d ≤ 10080) (h : ∀ d : Nat, d < 7 → s_X1_minutesOf M (iI d) (iI j) = some (iI (q d : Nat))) {w : Int} (hw : 0 ≤ w ∧ w ≤ 10080) : ∀ (r fu d : Nat), d + r = 7 → r < fu → ∃ y, L_X1_quartersOf_20 M (iI x) (iI j) (iI (q x : Nat)) fu (iI (lf q w d)) (iI (ah q x d : Nat)) (iI d) = some (iI (lf q w 7), iI (ah q x 7 : Nat), y) := by
  intro r
  induction r with
  | zero =>
    intro fu d hd hf
    cases fu with
    | zero => omega
    | succ fu =>
      have hd' : d = 7 := by omega
      subst hd'
      refine ⟨iI ((7 : Nat) : Int), ?_⟩
      rw [L_X1_quartersOf_20, if_pos (by rw [li_7, iI_le] <;> omega)]
  | succ r ih =>
    intro fu d hd hf
    cases fu with
    | zero => omega
    | succ fu =>
      obtain ⟨y, e⟩ := ih fu (d + 1) (by omega) (by omega)
      refine ⟨y, ?_⟩
      have hqd := hq d
      have hqx := hq x
      have hah := ah_le q x d
      rw [← e, L_X1_quartersOf_20, if_neg (by rw [li_7, iI_le] <;> omega), h d (by omega), Option.bind_some]
      rw [iI_mod15 hqd, iI_mod15 hqx, iI_div15 hqd, iI_sub, iI_sub]
      have p1 : ((0 : Int32) < iI (((q d % 15 : Nat) : Int) - ((q x % 15 : Nat) : Int))) = (q x % 15 < q d % 15) := propext (by rw [li_0, iI_lt] <;> omega)
      have p2 : (iI (((q d % 15 : Nat) : Int) - ((q x % 15 : Nat) : Int)) = 0) = (q d % 15 = q x % 15) := propext (by rw [li_0, iI_eq] <;> omega)
      have p3 : (iI (x : Int) ≤ iI (d : Int)) = (x ≤ d) := propext (by rw [iI_le] <;> omega)
      simp only [bnd, p1, p2, p3]
      have ea : (if q x % 15 < q d % 15 then iI (ah q x d : Nat) + 1 else if q d % 15 = q x % 15 then if x ≤ d then iI (ah q x d : Nat) else iI (ah q x d : Nat) + 1 else iI (ah q x d : Nat)) = iI (ah q x (d + 1) : Nat) := by
        rw [ah, li_1, iI_add]
        by_cases c1 : q x % 15 < q d % 15
        · rw [if_pos c1, if_pos (Or.inl c1)]; rfl
        · rw [if_neg c1]
          by_cases c2 : q d % 15 = q x % 15
          · rw [if_pos c2]
            by_cases c3 : x ≤ d
            · rw [if_pos c3, if_neg (by omega)]; rfl
            · rw [if_neg c3, if_pos (by omega)]; rfl
          · rw [if_neg c2, if_neg (by omega)]; rfl
      rw [ea, li_1, iI_add]
      rfl
theorem X1_qof {M : Mem} {q : Nat → Nat} {j x : Nat} (hx : x < 7) (hq : ∀ d, q d ≤ 10080) (h : ∀ d : Nat, d < 7 → s_X1_minutesOf M (iI d) (iI j) = some (iI (q d : Nat))) : s_X1_quartersOf M (iI x) (iI j) = some (iI (shq q x : Nat)) := by
  have hs := sd_le hq 7
  have hw : wq q ≤ 4705 := by unfold wq; omega
  have hlf := lf_b hq (w := (wq q : Int)) 7
  have hah := ah_le q x 7
  obtain ⟨y, e⟩ := L_qof hx hq h (w := (wq q : Int)) (by omega) 7 FU 0 (by omega) (by rw [FU_0]; omega)
  have e' : L_X1_quartersOf_20 M (iI x) (iI j) (iI (q x : Nat)) FU (iI (wq q : Nat)) 0 0 = some (iI (lf q (wq q) 7), iI (ah q x 7 : Nat), y) := e
  unfold s_X1_quartersOf shq
  rw [h x hx, Option.bind_some, X1_qow hq h, Option.bind_some, e', Option.bind_some, iI_div15 (hq x)]
  have p1 : (iI (lf q (wq q) 7) ≤ iI (ah q x 7 : Nat)) = ¬ ((ah q x 7 : Int) < lf q (wq q) 7) := propext (by rw [iI_le] <;> omega)
  simp only [bnd, p1]
  by_cases c : (ah q x 7 : Int) < lf q (wq q) 7
  · rw [if_neg (fun g => g c), if_pos c, li_1, iI_add]; rfl
  · rw [if_pos c, if_neg c, li_0, iI_add]; rfl

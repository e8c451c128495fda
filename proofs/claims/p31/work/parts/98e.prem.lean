/-! pay and premiums -/
theorem X1_basic {M : Mem} {q0 q1 q2 : Nat → Nat} (h0 : ∀ d, q0 d ≤ 10080) (h1 : ∀ d, q1 d ≤ 10080) (h2 : ∀ d, q2 d ≤ 10080) (e0 : ∀ d : Nat, d < 7 → s_X1_minutesOf M (iI d) (iI ((0 : Nat) : Int)) = some (iI (q0 d : Nat))) (e1 : ∀ d : Nat, d < 7 → s_X1_minutesOf M (iI d) (iI ((1 : Nat) : Int)) = some (iI (q1 d : Nat))) (e2 : ∀ d : Nat, d < 7 → s_X1_minutesOf M (iI d) (iI ((2 : Nat) : Int)) = some (iI (q2 d : Nat))) (w : Int32) : s_X1_basicPay M w = some ((w * (((2 * iI (wq q0 : Nat)) + (3 * iI (wq q1 : Nat))) + (4 * iI (wq q2 : Nat))) + 4) / 8) := by
  have k0 : s_X1_quartersOfWeek M 0 = some (iI (wq q0 : Nat)) := X1_qow h0 e0
  have k1 : s_X1_quartersOfWeek M 1 = some (iI (wq q1 : Nat)) := X1_qow h1 e1
  have k2 : s_X1_quartersOfWeek M 2 = some (iI (wq q2 : Nat)) := X1_qow h2 e2
  unfold s_X1_basicPay
  rw [k0, Option.bind_some, k1, Option.bind_some, k2, Option.bind_some]
  rfl
def onD (a d : Nat) : Bool := decide (((iI (a : Int) >>> (iI (d : Int) &&& 31)) &&& 1) = 1)
theorem onD_mod : ∀ a : Fin 128, ∀ d : Fin 7, (((iI ((a : Nat) : Int) >>> (iI ((d : Nat) : Int) &&& 31)) &&& 1) = 1) = ((iI ((a : Nat) : Int) >>> (iI ((d : Nat) : Int) &&& 31)) - (iI ((a : Nat) : Int) >>> (iI ((d : Nat) : Int) &&& 31)) / 2 * 2 = 1) := by
  have h : ∀ a : Fin 128, ∀ d : Fin 7, decide (((iI ((a : Nat) : Int) >>> (iI ((d : Nat) : Int) &&& 31)) &&& 1) = 1) = decide ((iI ((a : Nat) : Int) >>> (iI ((d : Nat) : Int) &&& 31)) - (iI ((a : Nat) : Int) >>> (iI ((d : Nat) : Int) &&& 31)) / 2 * 2 = 1) := by decide +kernel
  intro a d
  exact propext (decide_eq_decide.mp (h a d))
def btw (u a b : Nat) : Bool := if a < b then decide (a ≤ u) && decide (u < b) else decide (a = b) || decide (a ≤ u) || decide (u < b)
theorem btw_aux (A1 A2 A3 A4 : Prop) [Decidable A1] [Decidable A2] [Decidable A3] [Decidable A4] (h5 : A2 → A1) : (if A1 then if A2 then some (1 : Int32) else if A3 then some 1 else if A4 then some 0 else some 1 else if ¬ A3 then some 0 else if A4 then some 0 else some 1) = some (bI (if ¬ A1 then decide A3 && decide (¬ A4) else decide A2 || decide A3 || decide (¬ A4))) := by
  by_cases c1 : A1 <;> by_cases c2 : A2 <;> by_cases c3 : A3 <;> by_cases c4 : A4 <;> simp_all [bI]
theorem X2_btw {u a b : Nat} (hu : u < 1440) (ha : a < 1440) (hb : b < 1440) : s_X2_isBetween (iI u) (iI a) (iI b) = some (bI (btw u a b)) := by
  have p1 : (iI (b : Int) ≤ iI (a : Int)) = (b ≤ a) := propext (by rw [iI_le] <;> omega)
  have p2 : (iI (a : Int) = iI (b : Int)) = (a = b) := propext (by rw [iI_eq] <;> omega)
  have p3 : (iI (a : Int) ≤ iI (u : Int)) = (a ≤ u) := propext (by rw [iI_le] <;> omega)
  have p4 : (iI (b : Int) ≤ iI (u : Int)) = (b ≤ u) := propext (by rw [iI_le] <;> omega)
  have p5 : (iI (u : Int) < iI (a : Int)) = (u < a) := propext (by rw [iI_lt] <;> omega)
  have q1 : (a < b) = ¬ (b ≤ a) := propext (by omega)
  have q2 : (u < b) = ¬ (b ≤ u) := propext (by omega)
  have q3 : (u < a) = ¬ (a ≤ u) := propext (by omega)
  have h5 : a = b → b ≤ a := by omega
  unfold s_X2_isBetween btw
  simp only [p1, p2, p3, p4, p5, q1, q2, q3]
  exact btw_aux (b ≤ a) (a = b) (a ≤ u) (b ≤ u) h5
/-- premiums: n rows of days, from, to, rate -/
def PmOK (n : Nat) (pr : Nat → Nat → Nat) : Prop := n ≤ 6 ∧ ∀ i, i < n → pr i 0 < 128 ∧ pr i 1 < 1440 ∧ pr i 2 < 1440 ∧ pr i 3 ≤ 10000
def gr (pr : Nat → Nat → Nat) (d u : Nat) : Nat → Nat
  | 0 => 0
  | i + 1 => if onD (pr i 0) d = true ∧ btw u (pr i 1) (pr i 2) = true then max (gr pr d u i) (pr i 3) else gr pr d u i
def nc (pr : Nat → Nat → Nat) (u : Nat) : Nat → Nat
  | 0 => 1440
  | i + 1 => (fun x => if u < pr i 2 then min x (pr i 2) else x) (if u < pr i 1 then min (nc pr u i) (pr i 1) else nc pr u i)
theorem nc_b {pr : Nat → Nat → Nat} {u : Nat} (hu : u < 1440) : ∀ i, u < nc pr u i ∧ nc pr u i ≤ 1440
  | 0 => ⟨hu, Nat.le_refl _⟩
  | i + 1 => by
    have := nc_b hu i (pr := pr)
    rw [nc]
    dsimp only
    (repeat' split) <;> omega
theorem gr_same {pr : Nat → Nat → Nat} {u v d : Nat} (hv : u ≤ v) : ∀ i, v < nc pr u i → gr pr d v i = gr pr d u i
  | 0, _ => rfl
  | i + 1, h => by
    rw [nc] at h
    dsimp only at h
    have h1 : v < nc pr u i ∧ (u < pr i 1 → v < pr i 1) ∧ (u < pr i 2 → v < pr i 2) := by
      split at h <;> split at h <;> omega
    have hb : btw v (pr i 1) (pr i 2) = btw u (pr i 1) (pr i 2) := by
      unfold btw
      have e1 : (pr i 1 ≤ v) = (pr i 1 ≤ u) := propext (by omega)
      have e2 : (v < pr i 2) = (u < pr i 2) := propext (by omega)
      simp only [e1, e2]
    rw [gr, gr, gr_same hv i h1.1, hb]
theorem gr_le {n : Nat} {pr : Nat → Nat → Nat} (h : PmOK n pr) {d u : Nat} : ∀ i, i ≤ n → gr pr d u i ≤ 10000
  | 0, _ => by simp [gr]
  | i + 1, hi => by
    have := gr_le h i (by omega) (d := d) (u := u)
    have := (h.2 i (by omega)).2.2.2
    rw [gr]
    split <;> omega

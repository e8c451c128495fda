/-! the quarters of the days: as many as the week's minutes make, given to the greatest remainders -/
def nb (f : Nat → Nat) (c : Nat) : Nat → Nat
  | 0 => 0
  | n + 1 => nb f c n + (if f n < c then 1 else 0)
def nq (f : Nat → Nat) (c : Nat) : Nat → Nat
  | 0 => 0
  | n + 1 => nq f c n + (if f n = c then 1 else 0)
theorem nb_s (f : Nat → Nat) (c : Nat) : ∀ n, nb f (c + 1) n = nb f c n + nq f c n
  | 0 => rfl
  | n + 1 => by
    have ih := nb_s f c n
    rw [nb, nb, nq]
    (repeat' split) <;> omega
theorem nq_0 (f : Nat → Nat) (c : Nat) : ∀ n, (∀ i, i < n → f i ≠ c) → nq f c n = 0
  | 0, _ => rfl
  | n + 1, h => by
    rw [nq, nq_0 f c n (fun i hi => h i (by omega)), if_neg (h n (by omega))]
theorem nq_1 (f : Nat → Nat) (c : Nat) : ∀ n, (∀ i j, i < n → j < n → f i = f j → i = j) → nq f c n ≤ 1
  | 0, _ => Nat.zero_le _
  | n + 1, h => by
    rw [nq]
    by_cases e : f n = c
    · rw [nq_0 f c n (fun i hi he => by have := h i n (by omega) (by omega) (he.trans e.symm); omega), if_pos e]
      exact Nat.le_refl _
    · rw [if_neg e]
      exact nq_1 f c n (fun i j hi hj => h i j (by omega) (by omega))
theorem nb_le (f : Nat → Nat) (c n : Nat) (h : ∀ i j, i < n → j < n → f i = f j → i = j) : ∀ k, nb f (c + k) n ≤ nb f c n + k
  | 0 => Nat.le_refl _
  | k + 1 => by
    have ih := nb_le f c n h k
    have h1 := nq_1 f (c + k) n h
    have h2 := nb_s f (c + k) n
    rw [show c + (k + 1) = c + k + 1 from rfl, h2]
    omega
theorem nb_0 (f : Nat → Nat) : ∀ n, nb f 0 n = 0
  | 0 => rfl
  | n + 1 => by rw [nb, nb_0 f n, if_neg (by omega)]
theorem nb_all (f : Nat → Nat) (c : Nat) : ∀ n, (∀ i, i < n → f i < c) → nb f c n = n
  | 0, _ => rfl
  | n + 1, h => by rw [nb, nb_all f c n (fun i hi => h i (by omega)), if_pos (h n (by omega))]
theorem nb_eq (f : Nat → Nat) {c n : Nat} (h : ∀ i j, i < n → j < n → f i = f j → i = j) (hb : ∀ i, i < n → f i < n) (hc : c ≤ n) : nb f c n = c := by
  have a := nb_le f 0 n h c
  have b := nb_le f c n h (n - c)
  have e1 : c + (n - c) = n := by omega
  have e2 : 0 + c = c := by omega
  rw [nb_0, e2] at a
  rw [e1, nb_all f n n hb] at b
  omega
theorem ah_lt {q : Nat → Nat} {x y : Nat} (h : q y % 15 < q x % 15 ∨ (q x % 15 = q y % 15 ∧ x < y)) : ∀ d, ah q x d + (if x < d then 1 else 0) ≤ ah q y d
  | 0 => by simp [ah]
  | d + 1 => by
    have ih := ah_lt h d
    rw [ah, ah]
    by_cases e : d = x
    · subst e
      rw [if_neg (by omega), if_pos (by omega), if_pos h]
      rw [if_neg (by omega)] at ih
      omega
    · generalize q x % 15 = a at *
      generalize q y % 15 = b at *
      generalize q d % 15 = c at *
      (repeat' split) <;> (repeat' split at ih) <;> omega
theorem ah_self (q : Nat → Nat) (x : Nat) : ∀ d, ah q x d + (if x < d then 1 else 0) ≤ d
  | 0 => by simp [ah]
  | d + 1 => by
    have ih := ah_self q x d
    rw [ah]
    by_cases e : d = x
    · subst e
      rw [if_neg (by omega), if_pos (by omega)]
      rw [if_neg (by omega)] at ih
      omega
    · generalize q x % 15 = a at *
      generalize q d % 15 = c at *
      (repeat' split) <;> (repeat' split at ih) <;> omega
theorem ah_inj {q : Nat → Nat} {x y : Nat} (hx : x < 7) (hy : y < 7) (e : ah q x 7 = ah q y 7) : x = y := by
  by_cases c : x = y
  · exact c
  · have h : (q y % 15 < q x % 15 ∨ (q x % 15 = q y % 15 ∧ x < y)) ∨ (q x % 15 < q y % 15 ∨ (q y % 15 = q x % 15 ∧ y < x)) := by omega
    rcases h with h | h
    · have := ah_lt h 7
      rw [if_pos hx] at this
      omega
    · have := ah_lt h 7
      rw [if_pos hy] at this
      omega
/-- sums of the whole quarters, of the remainders, and how many remainders there are -/
def sq (q : Nat → Nat) : Nat → Nat
  | 0 => 0
  | d + 1 => sq q d + q d / 15
def sr (q : Nat → Nat) : Nat → Nat
  | 0 => 0
  | d + 1 => sr q d + q d % 15
def ps (q : Nat → Nat) : Nat → Nat
  | 0 => 0
  | d + 1 => ps q d + (if 0 < q d % 15 then 1 else 0)
theorem sd_sq (q : Nat → Nat) : ∀ d, sd q d = 15 * sq q d + sr q d
  | 0 => rfl
  | d + 1 => by
    have := sd_sq q d
    rw [sd, sq, sr]
    omega
theorem sr_ps (q : Nat → Nat) : ∀ d, sr q d ≤ 14 * ps q d ∧ ps q d ≤ d
  | 0 => ⟨Nat.le_refl _, Nat.le_refl _⟩
  | d + 1 => by
    have := sr_ps q d
    rw [sr, ps]
    split <;> omega
theorem lf_sq (q : Nat → Nat) (w : Int) : ∀ d, lf q w d = w - (sq q d : Int)
  | 0 => by simp [lf, sq]
  | d + 1 => by
    have := lf_sq q w d
    rw [lf, sq]
    omega
theorem ps_ah {q : Nat → Nat} {x : Nat} (h : q x % 15 = 0) : ∀ d, ps q d ≤ ah q x d
  | 0 => Nat.le_refl _
  | d + 1 => by
    have := ps_ah h d
    rw [ps, ah]
    (repeat' split) <;> omega
/-- the quarters that are left for the remainders -/
def lft (q : Nat → Nat) : Nat := (sr q 7 + 7) / 15
theorem wq_lft (q : Nat → Nat) : wq q = sq q 7 + lft q := by
  unfold wq lft
  rw [sd_sq]
  omega
theorem lft_ps (q : Nat → Nat) : lft q ≤ ps q 7 ∧ lft q ≤ 7 := by
  have := sr_ps q 7
  unfold lft
  omega
theorem lf_lft (q : Nat → Nat) : lf q (wq q) 7 = (lft q : Int) := by
  rw [lf_sq, wq_lft]
  omega
/-- the quarter that a day gets for its remainder -/
def mr (q : Nat → Nat) (x : Nat) : Nat := if ah q x 7 < lft q then 1 else 0
theorem shq_mr (q : Nat → Nat) (x : Nat) : shq q x = q x / 15 + mr q x := by
  unfold shq mr
  rw [lf_lft]
  congr 1
  by_cases c : ah q x 7 < lft q
  · rw [if_pos (by omega), if_pos c]
  · rw [if_neg (by omega), if_neg c]
theorem mr_le (q : Nat → Nat) (x : Nat) : mr q x ≤ 1 := by unfold mr; split <;> omega
theorem mr_1 {q : Nat → Nat} {x : Nat} (h : mr q x = 1) : 0 < q x % 15 := by
  unfold mr at h
  split at h
  · next c =>
    have h1 := (lft_ps q).1
    by_cases z : q x % 15 = 0
    · have := ps_ah z 7
      omega
    · omega
  · omega
theorem mr_lt {q : Nat → Nat} {x y : Nat} (hx : x < 7) (hy : y < 7) (h : mr q x < mr q y) : q x % 15 < q y % 15 ∨ (q y % 15 = q x % 15 ∧ y < x) := by
  have c : q x % 15 < q y % 15 ∨ (q y % 15 = q x % 15 ∧ y < x) ∨ (q y % 15 < q x % 15 ∨ (q x % 15 = q y % 15 ∧ x < y)) ∨ x = y := by omega
  rcases c with c | c | c | c
  · exact Or.inl c
  · exact Or.inr c
  · have := ah_lt c 7
    rw [if_pos hx] at this
    unfold mr at h
    split at h <;> split at h <;> omega
  · subst c; omega
theorem sd_shq (q : Nat → Nat) : ∀ d, sd (shq q) d = sq q d + nb (fun x => ah q x 7) (lft q) d
  | 0 => rfl
  | d + 1 => by
    have := sd_shq q d
    rw [sd, sq, nb, shq_mr]
    unfold mr
    omega
/-- as many as the minutes of the week make -/
theorem sd_wq (q : Nat → Nat) : sd (shq q) 7 = wq q := by
  rw [sd_shq, nb_eq _ (fun i j hi hj => ah_inj hi hj) (fun i hi => ?_) (lft_ps q).2, wq_lft]
  have := ah_self q i 7
  rw [if_pos hi] at this
  show ah q i 7 < 7
  omega
theorem wq_near (q : Nat → Nat) : 15 * wq q ≤ sd q 7 + 7 ∧ sd q 7 ≤ 15 * wq q + 7 := by
  unfold wq
  omega

/-! the parts, as the class makes them -/
def RrP (p : Nat → Bool) : List (Nat × Nat) → Nat → Prop
  | [], T => ∀ m, m < T → p m = false
  | (b, e) :: r, T => (∀ m, e ≤ m → m < T → p m = false) ∧ (∀ m, b ≤ m → m < e → p m = true) ∧ RrP p r b
theorem RrP.ext {p : Nat → Bool} {l : List (Nat × Nat)} {T : Nat} (h : RrP p l T) (hp : p T = false) : RrP p l (T + 1) := by
  cases l with
  | nil =>
    intro m hm
    by_cases e : m = T
    · rw [e]; exact hp
    · exact h m (by omega)
  | cons q r =>
    obtain ⟨b, e⟩ := q
    refine ⟨fun m h1 h2 => ?_, h.2⟩
    by_cases e : m = T
    · rw [e]; exact hp
    · exact h.1 m h1 (by omega)
theorem rr_P (p : Nat → Bool) : ∀ T, RrP p (rr p T) T
  | 0 => fun m h => by omega
  | T + 1 => by
    have ih := rr_P p T
    have ho := rr_ok p T
    rw [rr]
    by_cases c : p T
    · rw [if_pos c]
      have hs : ∀ m, T ≤ m → m < T + 1 → p m = true := fun m h1 h2 => by rw [show m = T by omega]; exact c
      cases hr : rr p T with
      | nil =>
        rw [hr] at ih
        exact ⟨fun m h1 h2 => by omega, hs, ih⟩
      | cons q r =>
        obtain ⟨b, e⟩ := q
        rw [hr] at ih
        rw [push]
        by_cases c2 : e = T
        · rw [if_pos c2]
          refine ⟨fun m h1 h2 => by omega, fun m h1 h2 => ?_, ih.2.2⟩
          by_cases c3 : m < e
          · exact ih.2.1 m h1 c3
          · exact hs m (by omega) h2
        · rw [if_neg c2]
          exact ⟨fun m h1 h2 => by omega, hs, ih⟩
    · rw [if_neg c]
      exact ih.ext (by simpa using c)
theorem RrP.drop {p : Nat → Bool} : ∀ {l : List (Nat × Nat)} {T : Nat} (j : Nat), RrP p l T → RrOK l T → ∃ T', T' ≤ T ∧ RrP p (l.drop j) T' ∧ RrOK (l.drop j) T'
  | l, T, 0, h, ho => ⟨T, Nat.le_refl _, h, ho⟩
  | [], T, j + 1, h, ho => ⟨T, Nat.le_refl _, h, ho⟩
  | (b, e) :: r, T, j + 1, h, ho => by
    obtain ⟨T', h1, h2, h3⟩ := RrP.drop j h.2.2 ho.2.2.2
    have := ho.1
    have := ho.2.1
    exact ⟨T', by omega, h2, h3⟩
theorem RrP.gap {p : Nat → Bool} {r : List (Nat × Nat)} {b : Nat} (h : RrP p r b) : ∀ m, hdE r ≤ m → m < b → p m = false := by
  cases r with
  | nil => exact fun m _ h2 => h m h2
  | cons q r => exact h.1
theorem ow_iv (p : Nat → Bool) {a : Nat} : ∀ n, (∀ m, a ≤ m → m < a + n → p m = true) → ow p (a + n) = ow p a + n
  | 0, _ => rfl
  | n + 1, h => by
    rw [← Nat.add_assoc, ow, ow_iv p n (fun m h1 h2 => h m h1 (by omega)), if_pos (h (a + n) (by omega) (by omega))]
    omega
theorem ow_no (p : Nat → Bool) {a : Nat} : ∀ n, (∀ m, a ≤ m → m < a + n → p m = false) → ow p (a + n) = ow p a
  | 0, _ => rfl
  | n + 1, h => by
    rw [← Nat.add_assoc, ow, ow_no p n (fun m h1 h2 => h m h1 (by omega)), h (a + n) (by omega) (by omega)]
    rfl
theorem qq_no (p : Nat → Bool) (full : Bool) {a : Nat} : ∀ n, (∀ m, a ≤ m → m < a + n → p m = false) → qq p full (a + n) = qq p full a
  | 0, _ => rfl
  | n + 1, h => by
    rw [← Nat.add_assoc, qq, h (a + n) (by omega) (by omega), qq_no p full n (fun m h1 h2 => h m h1 (by omega))]
    rfl
/-- the count of the day, out of the week's -/
theorem od_ow (p : Nat → Bool) (d : Nat) : ∀ n, n < 1440 → od p (d * 1440 + n) + ow p (d * 1440) = ow p (d * 1440 + n)
  | 0, _ => by
    have h0 : od p (d * 1440 + 0) = 0 := by
      cases d with
      | zero => rfl
      | succ d => rw [show (d + 1) * 1440 + 0 = (d * 1440 + 1439) + 1 by omega, od, if_pos (by omega)]
    rw [h0]; simp
  | n + 1, h => by
    have ih := od_ow p d n (by omega)
    rw [← Nat.add_assoc, od, ow, if_neg (by omega)]
    omega
theorem qq_iv (p : Nat → Bool) (full : Bool) {a : Nat} (hn : cut p a = true ∨ hdQ (qq p full a) ≠ a ∨ qq p full a = []) : ∀ n, (∀ m, a ≤ m → m < a + (n + 1) → p m = true) → (∀ m, a < m → m < a + (n + 1) → cut p m = false) → qq p full (a + (n + 1)) = (a, a + (n + 1), cm p full a) :: qq p full a
  | 0, h, _ => by
    rw [show a + (0 + 1) = a + 1 from rfl, qq, if_pos (h a (by omega) (by omega))]
    cases hq : qq p full a with
    | nil => rfl
    | cons q r =>
      obtain ⟨b, e, c⟩ := q
      dsimp only
      rw [if_neg]
      rintro ⟨h1, h2⟩
      rw [hq] at hn
      rcases hn with h3 | h3 | h3
      · rw [h2] at h3; cases h3
      · exact h3 h1
      · cases h3
  | n + 1, h, hc => by
    rw [show a + (n + 1 + 1) = (a + (n + 1)) + 1 by omega, qq, if_pos (h _ (by omega) (by omega)), qq_iv p full hn n (fun m h1 h2 => h m h1 (by omega)) (fun m h1 h2 => hc m h1 (by omega))]
    dsimp only
    rw [if_pos ⟨rfl, hc _ (by omega) (by omega)⟩]
theorem rr_mono (p : Nat → Bool) {a : Nat} : ∀ n, (rr p a).length ≤ (rr p (a + n)).length
  | 0 => Nat.le_refl _
  | n + 1 => by
    have := rr_mono p n (a := a)
    rw [← Nat.add_assoc, rr_length]
    omega
theorem qq_cap {p : Nat → Bool} {full : Bool} {T : Nat} (hT : T ≤ 10080) (hr : (rr p 10080).length ≤ 160) : (qq p full T).length ≤ 182 := by
  have h1 := qq_length p full T
  have h2 := rr_mono p (10080 - T) (a := T)
  rw [show T + (10080 - T) = 10080 by omega] at h2
  split at h1 <;> split at h1 <;> split at h1 <;> omega
def spq (l : List (Nat × Nat × Nat)) (i c : Nat) : Int := if c = 0 then ((gx l (0, 0, 0) i).1 : Int) else if c = 1 then ((gx l (0, 0, 0) i).2.1 : Int) else ((gx l (0, 0, 0) i).2.2 : Int)
def Tq (M : Mem) (t : Nat) (l : List (Nat × Nat × Nat)) : Prop := Tb M t l.length (spq l)
theorem Tq.get0 {M : Mem} {l : List (Nat × Nat × Nat)} (h : Tq M 36 l) {k : Nat} (hk : k < l.length) : s_X4_get M 36 (iI k) 0 = some (iI ((gx l (0, 0, 0) k).1 : Int)) := X4_get h hk (c := 0) (by decide)
theorem Tq.get1 {M : Mem} {l : List (Nat × Nat × Nat)} (h : Tq M 36 l) {k : Nat} (hk : k < l.length) : s_X4_get M 36 (iI k) 1 = some (iI ((gx l (0, 0, 0) k).2.1 : Int)) := X4_get h hk (c := 1) (by decide)
theorem Tq.get2 {M : Mem} {l : List (Nat × Nat × Nat)} (h : Tq M 36 l) {k : Nat} (hk : k < l.length) : s_X4_get M 36 (iI k) 2 = some (iI ((gx l (0, 0, 0) k).2.2 : Int)) := X4_get h hk (c := 2) (by decide)
theorem Tq.size {M : Mem} {l : List (Nat × Nat × Nat)} (h : Tq M 36 l) : s_X4_size M 36 = some (iI (l.length : Int)) := X4_size h
theorem Tq.n_b {M : Mem} {l : List (Nat × Nat × Nat)} (h : Tq M 36 l) : l.length ≤ 282 := Tb.n_b h
theorem Tq.add {M : Mem} {l : List (Nat × Nat × Nat)} (h : Tq M 36 l) (hr : l.length + 1 ≤ 188) (x y z : Nat) : ∃ M1 M2, s_X4_addSpan M 36 (iI x) (iI y) = some M1 ∧ s_X4_set M1 36 (iI (l.length : Int)) 2 (iI z) = some M2 ∧ Tq M2 36 ((x, y, z) :: l) ∧ Fr 36 M M2 := by
  obtain ⟨M', g, h1, h2, h3, h4, h5, h6⟩ := X4_addSpan h (by show (l.length + 1) * 3 ≤ 564; omega) (x : Int) (y : Int)
  obtain ⟨M'', a1, a2, a3⟩ := X4_set h2 (i := l.length) (c := 2) (by omega) (by decide) (z : Int)
  refine ⟨M', M'', h1, a1, a2.ext (fun i c hi hc => ?_), h6.tr a3⟩
  unfold spq
  have hc3 : c = 0 ∨ c = 1 ∨ c = 2 := by have : wd 36 = 3 := by decide
                                         omega
  by_cases e : i < l.length
  · rw [gx_lt e, if_neg (by omega), h3 i c e hc]
    rfl
  · have e2 : i = l.length := by omega
    rw [e2, gx_eq]
    rcases hc3 with rfl | rfl | rfl
    · rw [if_neg (by omega), if_pos rfl, h4]
    · rw [if_neg (by omega), if_neg (by omega), if_pos rfl, h5]
    · rw [if_pos ⟨rfl, rfl⟩, if_neg (by omega), if_neg (by omega)]

/-! the minutes of a day, by their categories -/
theorem ct_0 (p : Nat → Bool) (lo hi : Nat) : ∀ T, T ≤ lo → ct p lo hi T = 0
  | 0, _ => rfl
  | T + 1, h => by rw [ct, ct_0 p lo hi T (by omega), if_neg (by omega)]
theorem od_ct (p : Nat → Bool) : ∀ T, od p T = ct p (T / 1440 * 1440) ((T / 1440 + 1) * 1440) T
  | 0 => rfl
  | T + 1 => by
    have ih := od_ct p T
    rw [od]
    by_cases c : (T + 1) % 1440 = 0
    · rw [if_pos c, ct_0 _ _ _ _ (by omega)]
    · have e : (T + 1) / 1440 = T / 1440 := by omega
      rw [if_neg c, e, ct, ih]
      by_cases d : p T = true
      · rw [if_pos d, if_pos ⟨d, by omega, by omega⟩]
      · rw [if_neg d, if_neg (fun h => d h.1)]
theorem cat_0 {d w : Nat} {x : Bool} (h : cat d w x = 0) : d < 480 := by
  unfold cat at h
  split at h
  · omega
  · split at h
    · omega
    · omega
theorem cat_1 {d w : Nat} {x : Bool} (h : cat d w x ≤ 1) : d < 720 := by
  unfold cat at h
  split at h
  · omega
  · omega
/-- over a day: all paid minutes have a category; at most 480 are of the first, 720 of the first two -/
theorem kc_day (p : Nat → Bool) (full : Bool) (d : Nat) : ∀ T, kc p full d 0 T + kc p full d 1 T + kc p full d 2 T = ct p (d * 1440) ((d + 1) * 1440) T ∧ kc p full d 0 T ≤ 480 ∧ kc p full d 0 T + kc p full d 1 T ≤ 720
  | 0 => ⟨rfl, Nat.zero_le _, Nat.zero_le _⟩
  | T + 1 => by
    obtain ⟨h1, h2, h3⟩ := kc_day p full d T
    have e1 : cm p full T ≤ 2 := cat_le _ _ _
    rw [kc, kc, kc, ct]
    by_cases c : p T = true ∧ T / 1440 = d
    · have hod := od_ct p T
      rw [c.2] at hod
      have k0 : cm p full T = 0 → od p T < 480 := fun h => cat_0 h
      have k1 : cm p full T ≤ 1 → od p T < 720 := fun h => cat_1 h
      rw [if_pos (show p T = true ∧ d * 1440 ≤ T ∧ T < (d + 1) * 1440 from ⟨c.1, by omega, by omega⟩)]
      have hc : cm p full T = 0 ∨ cm p full T = 1 ∨ cm p full T = 2 := by omega
      rcases hc with hc | hc | hc
      · rw [if_pos ⟨c.1, hc, c.2⟩, if_neg (by omega), if_neg (by omega)]
        have := k0 hc
        omega
      · rw [if_neg (by omega), if_pos ⟨c.1, hc, c.2⟩, if_neg (by omega)]
        have := k1 (by omega)
        omega
      · rw [if_neg (by omega), if_neg (by omega), if_pos ⟨c.1, hc, c.2⟩]
        omega
    · rw [if_neg (fun h => c ⟨h.1, h.2.2⟩), if_neg (fun h => c ⟨h.1, h.2.2⟩), if_neg (fun h => c ⟨h.1, h.2.2⟩), if_neg (fun h => c ⟨h.1, by omega⟩)]
      omega
theorem ct_mono {p w : Nat → Bool} (h : ∀ m, p m = true → w m = true) (lo hi : Nat) : ∀ T, ct p lo hi T ≤ ct w lo hi T
  | 0 => Nat.le_refl _
  | T + 1 => by
    have ih := ct_mono h lo hi T
    rw [ct, ct]
    by_cases c : p T = true ∧ lo ≤ T ∧ T < hi
    · rw [if_pos c, if_pos ⟨h T c.1, c.2⟩]; omega
    · rw [if_neg c]; omega
theorem ct_b (w : Nat → Bool) (lo hi : Nat) : ∀ T, ct w lo hi T ≤ min T hi - lo
  | 0 => Nat.zero_le _
  | T + 1 => by
    have ih := ct_b w lo hi T
    rw [ct]
    split <;> omega
theorem pd_w {w : Nat → Bool} (m : Nat) (h : pd w m = true) : w m = true := by
  unfold pd at h
  cases hw : w m with
  | true => rfl
  | false => rw [hw] at h; cases h
/-! a week with nothing -/
theorem rr_none {w : Nat → Bool} (h : ∀ m, w m = false) : ∀ T, rr w T = []
  | 0 => rfl
  | T + 1 => by rw [rr, h T]; exact rr_none h T
theorem kc_none {p : Nat → Bool} (h : ∀ m, p m = false) (full : Bool) (d j : Nat) : ∀ T, kc p full d j T = 0
  | 0 => rfl
  | T + 1 => by rw [kc, kc_none h full d j T, if_neg (fun z => by rw [h T] at z; exact absurd z.1 (by decide))]
theorem ex_none {p : Nat → Bool} (h : ∀ m, p m = false) (n : Nat) (pr : Nat → Nat → Nat) : ∀ T, ex n pr p T = 0
  | 0 => rfl
  | T + 1 => by rw [ex, ex_none h n pr T, h T]; rfl
theorem ex_free (pr : Nat → Nat → Nat) (p : Nat → Bool) : ∀ T, ex 0 pr p T = 0
  | 0 => rfl
  | T + 1 => by
    rw [ex, ex_free pr p T]
    split <;> rfl
theorem db_none {C : Nat → Int} (h : ∀ m, C m = 0) : ∀ T, db C T = 0
  | 0 => rfl
  | T + 1 => by rw [db, db_none h T, h T]; rfl

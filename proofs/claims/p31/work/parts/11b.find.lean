/-! find answers an employee's number -/
theorem find_em {hn : Nat} {x : Int32} {r : Nat × Nat} (h : s_X6_find hn x = some r) (hk : r.1 = 0) : em hn r.2 := by
  unfold s_X6_find at h
  split at h
  · cases h; cases hk
  · split at h
    · cases h; cases hk
    · split at h
      · obtain ⟨u, h1, h2⟩ := ob_bind h
        cases h2
        exact mrs_em h1
      · cases h; cases hk

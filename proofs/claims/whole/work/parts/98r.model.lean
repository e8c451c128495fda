/-! the model's shifts -/
def ShA (M : Mem) (l : List (Nat × Nat)) (R : Nat) : Prop := M 1 19 = iI (l.length : Int) ∧ M 1 20 = iI (R : Int) ∧ ∀ j, j < l.length → M 18 j = iI ((gx l (0, 0) j).1 : Nat) ∧ M 19 j = iI ((gx l (0, 0) j).2 : Nat)
theorem X7_makes {M : Mem} {l : List (Nat × Nat)} {R : Nat} (h : ShA M l R) (hl : l.length < 41) (x y : Nat) (b : Bool) : ∃ M', s_X7_makes M (iI x) (iI y) (bI b) = some M' ∧ ShA M' ((x, y) :: l) (if b = true then R + 1 else R) ∧ (∀ k, k ≠ 1 → k ≠ 18 → k ≠ 19 → M' k = M k) ∧ ∀ j, j ≠ 19 → j ≠ 20 → M' 1 j = M 1 j := by
  obtain ⟨h1, h2, h3⟩ := h
  obtain ⟨M1, g1⟩ : ∃ M1, M1 = mst M 18 l.length (iI (x : Int)) := ⟨_, rfl⟩
  obtain ⟨M2, g2⟩ : ∃ M2, M2 = mst M1 19 l.length (iI (y : Int)) := ⟨_, rfl⟩
  obtain ⟨M3, g3⟩ : ∃ M3, M3 = mst M2 1 20 (iI ((if b = true then R + 1 else R : Nat) : Int)) := ⟨_, rfl⟩
  obtain ⟨M4, g4⟩ : ∃ M4, M4 = mst M3 1 19 (iI ((l.length + 1 : Nat) : Int)) := ⟨_, rfl⟩
  have c1 : M1 1 = M 1 := by rw [g1, mst_k _ _ _ _ (by omega)]
  have c2 : M2 1 = M 1 := by rw [g2, mst_k _ _ _ _ (by omega), c1]
  have f1 : ∀ j, M4 1 j = if j = 19 then iI ((l.length + 1 : Nat) : Int) else if j = 20 then iI ((if b = true then R + 1 else R : Nat) : Int) else M 1 j := fun j => by rw [g4, mst_a, if_pos rfl, g3, mst_a, if_pos rfl, c2]
  have f18 : ∀ j, M4 18 j = if j = l.length then iI (x : Int) else M 18 j := fun j => by rw [g4, mst_k _ _ _ _ (by omega), g3, mst_k _ _ _ _ (by omega), g2, mst_k _ _ _ _ (by omega), g1, mst_a, if_pos rfl]
  have f19 : ∀ j, M4 19 j = if j = l.length then iI (y : Int) else M 19 j := fun j => by rw [g4, mst_k _ _ _ _ (by omega), g3, mst_k _ _ _ _ (by omega), g2, mst_a, if_pos rfl, g1, mst_k _ _ _ _ (by omega)]
  refine ⟨M4, ?_, ⟨?_, ?_, fun j hj => ?_⟩, fun k k1 k2 k3 => ?_, fun j j1 j2 => ?_⟩
  · unfold s_X7_makes
    rw [h1, mwr_i (by omega) (by omega), Int.toNat_natCast, Option.bind_some, ← g1, c1, h1, mwr_i (by omega) (by omega), Int.toNat_natCast, Option.bind_some, ← g2, c2, h2]
    have p5 : (bI b = 0) = (b = false) := propext (bI_0 b)
    have e3 : mst M2 1 20 (iI (R : Int) + (if bI b = 0 then (0 : Int32) else 1)) = M3 := by
      rw [g3]
      simp only [p5]
      cases b
      · rw [if_pos rfl, if_neg (by decide), li_0, iI_add]; rfl
      · rw [if_neg (by decide), if_pos rfl, li_1, iI_add]; rfl
    unfold bnd
    dsimp only
    rw [e3]
    have c3 : M3 1 19 = iI (l.length : Int) := by rw [g3, mst_a, if_pos rfl, if_neg (by omega), c2, h1]
    rw [c3, li_1, iI_add, g4]
    rfl
  · rw [f1, if_pos rfl]; rfl
  · rw [f1, if_neg (by omega), if_pos rfl]
  · rw [List.length_cons] at hj
    rw [f18, f19]
    by_cases e : j = l.length
    · rw [if_pos e, if_pos e, e, gx_eq]; exact ⟨rfl, rfl⟩
    · rw [if_neg e, if_neg e, gx_lt (by omega)]; exact h3 j (by omega)
  · rw [g4, mst_k _ _ _ _ k1, g3, mst_k _ _ _ _ k1, g2, mst_k _ _ _ _ k3, g1, mst_k _ _ _ _ k2]
  · rw [f1, if_neg j1, if_neg j2]

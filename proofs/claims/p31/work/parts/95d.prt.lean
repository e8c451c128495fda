theorem ct_ow (p : Nat → Bool) {lo hi : Nat} (h : lo ≤ hi) : ∀ T, ct p lo hi T + ow p (min T lo) = ow p (min T hi)
  | 0 => by simp [ct]
  | T + 1 => by
    have ih := ct_ow p h T
    rw [ct]
    by_cases c1 : T < lo
    · rw [show min (T + 1) lo = T + 1 by omega, show min (T + 1) hi = T + 1 by omega, if_neg (by omega)]
      rw [show min T lo = T by omega, show min T hi = T by omega] at ih
      omega
    · by_cases c2 : T < hi
      · rw [show min (T + 1) lo = lo by omega, show min (T + 1) hi = T + 1 by omega, ow]
        rw [show min T lo = lo by omega, show min T hi = T by omega] at ih
        by_cases c3 : p T
        · rw [if_pos ⟨c3, by omega, c2⟩, if_pos c3]; omega
        · rw [if_neg (fun h => c3 h.1), if_neg c3]; omega
      · rw [show min (T + 1) lo = lo by omega, show min (T + 1) hi = hi by omega, if_neg (by omega)]
        rw [show min T lo = lo by omega, show min T hi = hi by omega] at ih
        omega
theorem cls_ow (p : Nat → Bool) {d : Nat} (hd : d < 7) : cls (d * 1440) ((d + 1) * 1440) (rr p 10080) + ow p (d * 1440) = ow p ((d + 1) * 1440) := by
  have h := ct_ow p (lo := d * 1440) (hi := (d + 1) * 1440) (by omega) 10080
  rw [rr_cls]
  rw [show min 10080 (d * 1440) = d * 1440 by omega, show min 10080 ((d + 1) * 1440) = (d + 1) * 1440 by omega] at h
  exact h
def flg (p : Nat → Bool) : Nat → Bool
  | 0 => true
  | d + 1 => flg p d && decide (ow p (d * 1440) < ow p ((d + 1) * 1440))
theorem RrOK.bnd : ∀ {l : List (Nat × Nat)} {T : Nat}, RrOK l T → T ≤ 10080 → ∀ q ∈ l, q.1 ≤ 10080 ∧ q.2 ≤ 10080
  | [], _, _, _ => fun q h => by cases h
  | (b, e) :: r, T, h, hT => by
    obtain ⟨h1, h2, h3, h4⟩ := h
    intro q hq
    rcases List.mem_cons.mp hq with rfl | hq
    · exact ⟨by show b ≤ 10080; omega, by show e ≤ 10080; omega⟩
    · exact RrOK.bnd h4 (by omega) q hq
theorem L_full {p : Nat → Bool} {M : Mem} (h : Tl M 34 (rr p 10080)) : ∀ (r fu d : Nat), d + r = 6 → r < fu → L_X1_isFull_4 M fu (bI (flg p d)) (iI d) = some (bI (flg p 6), iI 6) := by
  intro r
  induction r with
  | zero =>
    intro fu d hd hf
    cases fu with
    | zero => omega
    | succ fu =>
      have hd' : d = 6 := by omega
      subst hd'
      rw [L_X1_isFull_4, li_6, if_pos (by rw [iI_le] <;> omega)]
      rfl
  | succ r ih =>
    intro fu d hd hf
    cases fu with
    | zero => omega
    | succ fu =>
      rw [← ih fu (d + 1) (by omega) (by omega), L_X1_isFull_4, li_6, if_neg (by rw [iI_le] <;> omega)]
      simp only [bnd, li_1, iI_add]
      have p5 : (bI (flg p d) = 0) = (flg p d = false) := propext (bI_0 _)
      simp only [p5]
      have hm := X6_mod h (d := d) (by omega) ((rr_ok p 10080).bnd (Nat.le_refl _))
      have hc := cls_ow p (d := d) (by omega)
      have hle := ow_le p ((d + 1) * 1440)
      cases hf2 : flg p d with
      | false =>
        rw [if_pos rfl, Option.bind_some]
        have e : flg p (d + 1) = false := by rw [flg, hf2]; rfl
        rw [e]
        rfl
      | true =>
        rw [if_neg (by decide), hm, Option.bind_some, li_0]
        by_cases c : ow p (d * 1440) < ow p ((d + 1) * 1440)
        · have e : flg p (d + 1) = true := by rw [flg, hf2, decide_eq_true c]; rfl
          rw [if_neg (by rw [iI_le] <;> omega), Option.bind_some, e]
          rfl
        · have e : flg p (d + 1) = false := by rw [flg, hf2, decide_eq_false c]; rfl
          rw [if_pos (by rw [iI_le] <;> omega), Option.bind_some, e]
          rfl
theorem X1_full {p : Nat → Bool} {M : Mem} (h : Tl M 34 (rr p 10080)) : s_X1_isFull M = some (bI (flg p 6)) := by
  have K := L_full h 6 FU 0 (by omega) (by rw [FU_0]; omega)
  unfold s_X1_isFull
  rw [li_0, li_1]
  rw [show bI (flg p 0) = iI 1 from rfl, show iI ((0 : Nat) : Int) = iI 0 from rfl] at K
  rw [K, Option.bind_some]
  dsimp only
  cases flg p 6
  · rfl
  · rfl
theorem L_read {p : Nat → Bool} (hr : (rr p 10080).length ≤ 160) : ∀ (r fu d : Nat) (M : Mem), d + r = 7 → r < fu → Tl M 34 (rr p 10080) → Tq M 36 (qq p (flg p 6) (d * 1440)) → ∃ y1 y2 M', L_X1_read_36 (bI (flg p 6)) fu (iI (ow p (d * 1440))) (iI d) M = some (y1, y2, M') ∧ Tq M' 36 (qq p (flg p 6) 10080) ∧ Fr 36 M M' := by
  intro r
  induction r with
  | zero =>
    intro fu d M hd hf h h2
    cases fu with
    | zero => omega
    | succ fu =>
      have hd' : d * 1440 = 10080 := by omega
      rw [hd'] at h2 ⊢
      have hx : 7 ≤ d := by omega
      generalize (ow p 10080) = z
      generalize qq p (flg p 6) 10080 = Z at h2 ⊢
      exact ⟨iI z, iI (d : Int), M, (by rw [L_X1_read_36, li_7, if_pos (by rw [iI_le] <;> omega)]), h2, Fr.rf⟩
  | succ r ih =>
    intro fu d M hd hf h h2
    cases fu with
    | zero => omega
    | succ fu =>
      obtain ⟨M1, a1, a2, a3⟩ := X1_day (d := d) (by omega) hr h h2
      have h' : Tl M1 34 (rr p 10080) := h.fr a3 (by decide) (by decide) (by decide)
      have hm := X6_mod h' (d := d) (by omega) ((rr_ok p 10080).bnd (Nat.le_refl _))
      have hc := cls_ow p (d := d) (by omega)
      obtain ⟨y1, y2, M', b1, b2, b3⟩ := ih fu (d + 1) M1 (by omega) (by omega) h' a2
      refine ⟨y1, y2, M', ?_, b2, a3.tr b3⟩
      rw [← b1, L_X1_read_36, li_7, if_neg (by rw [iI_le] <;> omega)]
      have e : (if bI (flg p 6) = 0 then (0 : Int32) else if iI (d : Int) = 6 then 1 else 0) = bI (xd (flg p 6) (d * 1440)) := by
        have p5 : (bI (flg p 6) = 0) = (flg p 6 = false) := propext (bI_0 _)
        have p6 : (iI (d : Int) = 6) = (d = 6) := propext (by rw [li_6, iI_eq] <;> omega)
        simp only [p5, p6]
        unfold xd
        rw [show d * 1440 / 1440 = d by omega]
        cases flg p 6
        · simp [bI]
        · by_cases c : d = 6 <;> simp [c, bI]
      rw [e]
      simp only [bnd]
      rw [a1, Option.bind_some, hm, Option.bind_some, iI_add, li_1, iI_add]
      rw [show (ow p (d * 1440) : Int) + ((cls (d * 1440) ((d + 1) * 1440) (rr p 10080) : Nat) : Int) = (ow p ((d + 1) * 1440) : Int) by omega, show (d : Int) + 1 = ((d + 1 : Nat) : Int) by omega]
/-- the parts after the class has read an employee, from the list of stretches on -/
theorem X1_read_rest {w : Nat → Bool} {M : Mem} (h : Tl M 41 (rr w 10080)) (hl : (rr w 10080).length ≤ 80) : ∃ M1 M2 M', s_X1_takeOffAutomaticBreaks M 41 = some M1 ∧ s_X4_clear M1 36 = some M2 ∧ s_X1_isFull M2 = some (bI (flg (pd w) 6)) ∧ (∃ y1 y2, L_X1_read_36 (bI (flg (pd w) 6)) FU 0 0 M2 = some (y1, y2, M')) ∧ Tq M' 36 (qq (pd w) (flg (pd w) 6) 10080) ∧ ∀ k, k ≠ 34 → k ≠ 35 → k ≠ 36 → k ≠ 37 → M' k = M k := by
  obtain ⟨M1, a1, a2, a3⟩ := X1_tko h hl ((rr_ok w 10080).bnd (Nat.le_refl _))
  have hlen := tko_len (rr w 10080)
  rw [tko_rr] at a2 hlen
  obtain ⟨M2, b1, b2, b3⟩ := X4_clear M1 36 (spq [])
  have a2' : Tl M2 34 (rr (pd w) 10080) := a2.fr b3 (by decide) (by decide) (by decide)
  obtain ⟨y1, y2, M', c1, c2, c3⟩ := L_read (p := pd w) (by omega) 7 FU 0 M2 (by omega) (by rw [FU_0]; omega) a2' b2
  refine ⟨M1, M2, M', a1, b1, X1_full a2', ⟨y1, y2, c1⟩, c2, fun k k1 k2 k3 k4 => ?_⟩
  rw [c3.1 k k3 k4, b3.1 k k3 k4, a3.1 k k1 k2]

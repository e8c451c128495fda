/-! shifts -/
def pnf (tm : Nat → Nat) (inn : Nat → Bool) (i c : Nat) : Int := if c = 0 then (tm i : Int) else if inn i then 1 else 0
def lim (n : Nat) (tm : Nat → Nat) (k : Nat) : Nat := if k + 1 < n then tm (k + 1) else 10080
/-- ends the shift that the punch k begins -/
def endd (n : Nat) (inn : Nat → Bool) (k : Nat) : Bool := decide (k + 1 < n) && !inn (k + 1)
def shL (n : Nat) (tm : Nat → Nat) (inn : Nat → Bool) : Nat → List (Nat × Nat)
  | 0 => []
  | k + 1 => if inn k then (tm k, if endd n inn k then tm (k + 1) else min (tm k + 480) (lim n tm k)) :: shL n tm inn k else if k = 0 ∨ inn (k - 1) = false then (max (tm k - 480) (if k = 0 then 0 else tm (k - 1)), tm k) :: shL n tm inn k else shL n tm inn k
def shR (n : Nat) (inn : Nat → Bool) : Nat → Nat
  | 0 => 0
  | k + 1 => if inn k then (if endd n inn k then shR n inn k else shR n inn k + 1) else if k = 0 ∨ inn (k - 1) = false then shR n inn k + 1 else shR n inn k
def PnOK (n : Nat) (tm : Nat → Nat) : Prop := n ≤ 40 ∧ (∀ i, i + 1 < n → tm i < tm (i + 1)) ∧ ∀ i, i < n → tm i ≤ 10080
theorem shL_len (n : Nat) (tm : Nat → Nat) (inn : Nat → Bool) : ∀ k, (shL n tm inn k).length ≤ k
  | 0 => Nat.le_refl _
  | k + 1 => by
    have := shL_len n tm inn k
    rw [shL]
    split
    · simp only [List.length_cons]; omega
    · split
      · simp only [List.length_cons]; omega
      · omega
theorem shR_le (n : Nat) (inn : Nat → Bool) : ∀ k, shR n inn k ≤ k
  | 0 => Nat.le_refl _
  | k + 1 => by
    have := shR_le n inn k
    rw [shR]
    (repeat' split) <;> omega
theorem shL_ok {n : Nat} {tm : Nat → Nat} (h : PnOK n tm) (inn : Nat → Bool) : ∀ k, k ≤ n → ∀ q ∈ shL n tm inn k, q.1 ≤ q.2 ∧ q.2 ≤ 10080
  | 0, _ => fun q hq => by cases hq
  | k + 1, hk => by
    obtain ⟨h1, h2, h3⟩ := id h
    have ih := shL_ok h inn k (by omega)
    intro q hq
    rw [shL] at hq
    have hb := h3 k (by omega)
    split at hq
    · rcases List.mem_cons.mp hq with rfl | hq
      · dsimp only
        unfold endd lim
        by_cases c : k + 1 < n
        · have := h2 k c
          have := h3 (k + 1) c
          rw [if_pos c]
          split <;> omega
        · rw [if_neg c]
          simp [c]
          omega
      · exact ih q hq
    · split at hq
      · rcases List.mem_cons.mp hq with rfl | hq
        · dsimp only
          by_cases c : k = 0
          · rw [if_pos c]; omega
          · rw [if_neg c]
            have := h2 (k - 1) (by omega)
            rw [show k - 1 + 1 = k by omega] at this
            omega
        · exact ih q hq
      · exact ih q hq
theorem X3_isIn {M : Mem} {t n : Nat} {tm : Nat → Nat} {inn : Nat → Bool} (h : Tb M t n (pnf tm inn)) {k : Nat} (hk : k < n) : s_X3_isIn M t (iI k) = some (bI (inn k)) := by
  have hw : 1 < wd t := by rcases wd_c t with e | e | e <;> omega
  have g : s_X4_get M t (iI (k : Int)) 1 = some (iI (pnf tm inn k 1)) := X4_get h hk hw
  have e : iI (pnf tm inn k 1) = bI (inn k) := by
    unfold pnf bI
    rw [if_neg (by omega)]
    cases inn k <;> rfl
  unfold s_X3_isIn
  rw [g, Option.bind_some, e]
  cases inn k <;> rfl
theorem X3_lone {M : Mem} {t n : Nat} {tm : Nat → Nat} {inn : Nat → Bool} (h : Tb M t n (pnf tm inn)) (hp : PnOK n tm) {k : Nat} (hk : k < n) {l : List (Nat × Nat)} (hT : Tl M 44 l) (hl : l.length < 40) {R : Nat} (hR : M 43 1 = iI (R : Int)) : ∃ M1, s_X3_addFromLoneOut M t (iI k) = some M1 ∧ Tl M1 44 ((max (tm k - 480) (if k = 0 then 0 else tm (k - 1)), tm k) :: l) ∧ M1 43 1 = iI ((R + 1 : Nat) : Int) ∧ ∀ j, j ≠ 43 → j ≠ 44 → j ≠ 45 → M1 j = M j := by
  obtain ⟨hp1, hp2, hp3⟩ := hp
  have hw0 : 0 < wd t := by rcases wd_c t with e | e | e <;> omega
  have hb := hp3 k hk
  have hg : s_X4_get M t (iI (k : Int)) 0 = some (iI (tm k : Int)) := X4_get h hk hw0
  obtain ⟨M1, a1, a2, a3⟩ := Tl.add (M := mst M 43 1 (iI ((R + 1 : Nat) : Int))) (t := 44) (l := l) (hT.congr (by rw [mst_k _ _ _ _ (by omega)]) (by rw [mst_k _ _ _ _ (by omega)])) (by decide) (by show _ ≤ 80; omega) (max (tm k - 480) (if k = 0 then 0 else tm (k - 1))) (tm k)
  have hv : (if k = 0 then 0 else tm (k - 1)) ≤ 10080 := by
    by_cases c : k = 0
    · rw [if_pos c]; omega
    · rw [if_neg c]; exact hp3 (k - 1) (by omega)
  have e4 : Option.bind (α := Int32) (if iI (k : Int) = 0 then some 0 else (s_X4_get M t (iI (k : Int) - 1) 0).bind fun r3 => some r3) (fun x => some x) = some (iI ((if k = 0 then 0 else tm (k - 1) : Nat) : Int)) := by
    by_cases c : k = 0
    · subst c; rfl
    · rw [if_neg (by rw [li_0, iI_eq] <;> omega), if_neg c, li_1, iI_sub, show (k : Int) - 1 = ((k - 1 : Nat) : Int) by omega]
      have : s_X4_get M t (iI ((k - 1 : Nat) : Int)) 0 = some (iI (tm (k - 1) : Int)) := X4_get h (i := k - 1) (c := 0) (by omega) hw0
      rw [this]
      rfl
  generalize (if k = 0 then 0 else tm (k - 1)) = v at hv a1 a2 e4 ⊢
  refine ⟨M1, ?_, a2, ?_, fun j j1 j2 j3 => ?_⟩
  · unfold s_X3_addFromLoneOut
    rw [hg, Option.bind_some]
    have e4' : (if iI (k : Int) = 0 then some 0 else (s_X4_get M t (iI (k : Int) - 1) 0).bind fun r3 => some r3) = some (iI (v : Int)) := by
      revert e4
      generalize (if iI (k : Int) = 0 then some 0 else (s_X4_get M t (iI (k : Int) - 1) 0).bind fun r3 => some r3) = z
      intro e4
      cases z with
      | none => cases e4
      | some z => exact e4
    rw [e4', Option.bind_some]
    unfold bnd
    dsimp only
    rw [hR, li_1, iI_add, li_480, iI_sub, iI_mx (by omega) (by omega), show max ((tm k : Int) - 480) (v : Int) = ((max (tm k - 480) v : Nat) : Int) by omega, show ((R : Int) + 1) = ((R + 1 : Nat) : Int) by omega, a1]
    rfl
  · rw [a3.1 43 (by omega) (by omega), mst_a, if_pos rfl, if_pos rfl]
  · rw [a3.1 j j2 j3, mst_k _ _ _ _ j1]
theorem X3_in {M : Mem} {t n : Nat} {tm : Nat → Nat} {inn : Nat → Bool} (h : Tb M t n (pnf tm inn)) (hp : PnOK n tm) {k : Nat} (hk : k < n) {l : List (Nat × Nat)} (hT : Tl M 44 l) (hl : l.length < 40) {R : Nat} (hR : M 43 1 = iI (R : Int)) : ∃ M1, s_X3_addFromIn M t (iI k) = some M1 ∧ Tl M1 44 ((tm k, if endd n inn k then tm (k + 1) else min (tm k + 480) (lim n tm k)) :: l) ∧ M1 43 1 = iI ((if endd n inn k then R else R + 1 : Nat) : Int) ∧ ∀ j, j ≠ 43 → j ≠ 44 → j ≠ 45 → M1 j = M j := by
  obtain ⟨hp1, hp2, hp3⟩ := hp
  have hw0 : 0 < wd t := by rcases wd_c t with e | e | e <;> omega
  have hb := hp3 k hk
  have hg : s_X4_get M t (iI (k : Int)) 0 = some (iI (tm k : Int)) := X4_get h hk hw0
  have hrep : ∀ v : Nat, v ≤ 10080 → ∃ M1, (bnd (mst M 43 1 ((M 43 1) + 1)) fun M12 : Mem => (s_X4_addSpan M12 44 (iI (tm k : Int)) (if iI (v : Int) < iI (tm k : Int) + 480 then iI (v : Int) else iI (tm k : Int) + 480)).bind fun r13 => some r13) = some M1 ∧ Tl M1 44 ((tm k, min (tm k + 480) v) :: l) ∧ M1 43 1 = iI ((R + 1 : Nat) : Int) ∧ ∀ j, j ≠ 43 → j ≠ 44 → j ≠ 45 → M1 j = M j := by
    intro v hv
    obtain ⟨M1, a1, a2, a3⟩ := Tl.add (M := mst M 43 1 (iI ((R + 1 : Nat) : Int))) (t := 44) (l := l) (hT.congr (by rw [mst_k _ _ _ _ (by omega)]) (by rw [mst_k _ _ _ _ (by omega)])) (by decide) (by show _ ≤ 80; omega) (tm k) (min (tm k + 480) v)
    refine ⟨M1, ?_, a2, ?_, fun j j1 j2 j3 => ?_⟩
    · unfold bnd
      rw [hR, li_1, iI_add, li_480, iI_add, iI_mn (by omega) (by omega), show min (v : Int) ((tm k : Int) + 480) = ((min (tm k + 480) v : Nat) : Int) by omega, show ((R : Int) + 1) = ((R + 1 : Nat) : Int) by omega]
      dsimp only
      rw [a1]
      rfl
    · rw [a3.1 43 (by omega) (by omega), mst_a, if_pos rfl, if_pos rfl]
    · rw [a3.1 j j2 j3, mst_k _ _ _ _ j1]
  unfold s_X3_addFromIn
  rw [hg, Option.bind_some, X4_size h, Option.bind_some]
  by_cases c : k + 1 < n
  · have hg1 : s_X4_get M t (iI ((k + 1 : Nat) : Int)) 0 = some (iI (tm (k + 1) : Int)) := X4_get h c hw0
    have hi1 := X3_isIn h c
    have hb1 := hp3 (k + 1) c
    have e1 : iI (k : Int) + 1 = iI ((k + 1 : Nat) : Int) := by rw [li_1, iI_add]; rfl
    have hlt : iI ((k + 1 : Nat) : Int) < iI (n : Int) := by rw [iI_lt] <;> omega
    rw [e1, if_pos hlt]
    unfold bnd
    simp only [if_true]
    rw [hg1, Option.bind_some, Option.bind_some, hi1, Option.bind_some]
    unfold lim
    rw [if_pos c]
    cases hx : inn (k + 1) with
    | false =>
      have he : endd n inn k = true := by unfold endd; rw [hx, decide_eq_true c]; rfl
      obtain ⟨M1, a1, a2, a3⟩ := Tl.add (M := M) (t := 44) (l := l) hT (by decide) (by show _ ≤ 80; omega) (tm k) (tm (k + 1))
      refine ⟨M1, ?_, by rw [he]; exact a2, ?_, fun j j1 j2 j3 => a3.1 j j2 j3⟩
      · rw [if_pos (by rfl), a1]; rfl
      · rw [a3.1 43 (by omega) (by omega), hR, he]; rfl
    | true =>
      have he : endd n inn k = false := by unfold endd; rw [hx, decide_eq_true c]; rfl
      obtain ⟨M1, a1, a2, a3, a4⟩ := hrep (tm (k + 1)) hb1
      refine ⟨M1, ?_, by rw [he]; exact a2, by rw [he]; exact a3, a4⟩
      rw [if_neg (by decide)]
      exact a1
  · have e1 : iI (k : Int) + 1 = iI ((k + 1 : Nat) : Int) := by rw [li_1, iI_add]; rfl
    have hlt : ¬ iI ((k + 1 : Nat) : Int) < iI (n : Int) := by rw [iI_lt] <;> omega
    rw [e1, if_neg hlt]
    have he : endd n inn k = false := by unfold endd; rw [decide_eq_false c]; rfl
    obtain ⟨v, hv⟩ : ∃ v : Nat, v = 10080 := ⟨_, rfl⟩
    obtain ⟨M1, a1, a2, a3, a4⟩ := hrep v (by omega)
    have e2 : (10080 : Int32) = iI (v : Int) := by rw [hv]; rfl
    refine ⟨M1, ?_, by rw [he]; unfold lim; rw [if_neg c, ← hv]; exact a2, by rw [he]; exact a3, a4⟩
    rw [e2]
    exact a1
theorem L_X3 {t n : Nat} {tm : Nat → Nat} {inn : Nat → Bool} (hp : PnOK n tm) (ht : t ≠ 44 ∧ t + 1 ≠ 44 ∧ t ≠ 45 ∧ t ≠ 43 ∧ t + 1 ≠ 43) : ∀ (r fu k : Nat) (M : Mem), Tb M t n (pnf tm inn) → Tl M 44 (shL n tm inn k) → M 43 1 = iI (shR n inn k : Nat) → k + r = n → r < fu → ∃ (y : Int32) (M' : Mem), L_X3_read_14 t fu (iI k) M = some (y, M') ∧ Tl M' 44 (shL n tm inn n) ∧ M' 43 1 = iI (shR n inn n : Nat) ∧ ∀ k, k ≠ 43 → k ≠ 44 → k ≠ 45 → M' k = M k := by
  obtain ⟨hp1, hp2, hp3⟩ := id hp
  have hw0 : 0 < wd t := by rcases wd_c t with e | e | e <;> omega
  intro r
  induction r with
  | zero =>
    intro fu k M h hT hR hk hf
    cases fu with
    | zero => omega
    | succ fu =>
      have hk' : k = n := by omega
      subst hk'
      refine ⟨iI k, M, ?_, hT, hR, fun _ _ _ _ => rfl⟩
      rw [L_X3_read_14, X4_size h, Option.bind_some, if_pos (by rw [iI_le] <;> omega)]
  | succ r ih =>
    intro fu k M h hT hR hk hf
    cases fu with
    | zero => omega
    | succ fu =>
      have hkn : k < n := by omega
      have hb := hp3 k hkn
      have hlen := shL_len n tm inn k
      have hrl := shR_le n inn k
      have hg : ∀ j, j < n → s_X4_get M t (iI (j : Int)) 0 = some (iI (tm j : Int)) := fun j hj => X4_get h hj hw0
      -- what one punch does
      obtain ⟨M1, m1, m2, m3, m4⟩ : ∃ M1 : Mem, (Option.bind (s_X3_isIn M t (iI (k : Int))) fun r6 => Option.bind (α := Mem) (if r6 = 0 then (s_X3_isIn M t (iI (k : Int) - 1)).bind fun r8 => if r8 = 0 then (s_X3_addFromLoneOut M t (iI (k : Int))).bind fun r9 => some r9 else some M else (s_X3_addFromIn M t (iI (k : Int))).bind fun r10 => some r10) fun x => some x) = some M1 ∧ Tl M1 44 (shL n tm inn (k + 1)) ∧ M1 43 1 = iI (shR n inn (k + 1) : Nat) ∧ ∀ j, j ≠ 43 → j ≠ 44 → j ≠ 45 → M1 j = M j := by
        rw [X3_isIn h hkn, Option.bind_some]
        rw [shL, shR]
        cases hx : inn k with
        | true =>
          obtain ⟨M1, a1, a2, a3, a4⟩ := X3_in h hp hkn hT (by omega) hR
          refine ⟨M1, ?_, by simpa using a2, ?_, a4⟩
          · rw [if_neg (by decide), a1]; rfl
          · rw [a3]
            cases endd n inn k <;> rfl
        | false =>
          obtain ⟨M1, a1, a2, a3, a4⟩ := X3_lone h hp hkn hT (by omega) hR
          rw [if_pos (show bI false = 0 from rfl)]
          by_cases c : k = 0
          · have ez : s_X3_isIn M t (iI (k : Int) - 1) = some 0 := by
              unfold s_X3_isIn
              rw [X4_get_neg (by rw [li_1, li_0, iI_sub, iI_lt] <;> omega), Option.bind_some]
              rfl
            refine ⟨M1, ?_, by rw [if_neg (by decide), if_pos (Or.inl c)]; exact a2, by rw [if_neg (by decide), if_pos (Or.inl c)]; exact a3, a4⟩
            rw [ez, Option.bind_some, if_pos rfl, a1]; rfl
          · have ez : s_X3_isIn M t (iI (k : Int) - 1) = some (bI (inn (k - 1))) := by
              rw [li_1, iI_sub, show (k : Int) - 1 = ((k - 1 : Nat) : Int) by omega]
              exact X3_isIn h (by omega)
            rw [ez, Option.bind_some]
            cases hy : inn (k - 1) with
            | false =>
              refine ⟨M1, ?_, by rw [if_neg (by decide), if_pos (Or.inr rfl)]; exact a2, by rw [if_neg (by decide), if_pos (Or.inr rfl)]; exact a3, a4⟩
              rw [if_pos (by rfl), a1]; rfl
            | true =>
              have hn : ¬ (k = 0 ∨ true = false) := by
                rintro (g | g)
                · exact c g
                · cases g
              refine ⟨M, ?_, by rw [if_neg (by decide), if_neg hn]; exact hT, by rw [if_neg (by decide), if_neg hn]; exact hR, fun _ _ _ _ => rfl⟩
              rw [if_neg (by decide)]; rfl
      have h1 : Tb M1 t n (pnf tm inn) := h.congr (by rw [m4 t (by omega) (by omega) (by omega)]) (m4 (t + 1) (by omega) (by omega) (by omega))
      obtain ⟨y, M', a1, a2, a3, a4⟩ := ih fu (k + 1) M1 h1 m2 m3 (by omega) (by omega)
      refine ⟨y, M', ?_, a2, a3, fun j j1 j2 j3 => by rw [a4 j j1 j2 j3, m4 j j1 j2 j3]⟩
      rw [← a1, L_X3_read_14, X4_size h, Option.bind_some, if_neg (by rw [iI_le] <;> omega)]
      rw [X3_isIn h hkn, Option.bind_some] at m1 ⊢
      have m1' : (if bI (inn k) = 0 then (s_X3_isIn M t (iI (k : Int) - 1)).bind fun r8 => if r8 = 0 then (s_X3_addFromLoneOut M t (iI (k : Int))).bind fun r9 => some r9 else some M else (s_X3_addFromIn M t (iI (k : Int))).bind fun r10 => some r10) = some M1 := by
        revert m1
        generalize (if bI (inn k) = 0 then (s_X3_isIn M t (iI (k : Int) - 1)).bind fun r8 => if r8 = 0 then (s_X3_addFromLoneOut M t (iI (k : Int))).bind fun r9 => some r9 else some M else (s_X3_addFromIn M t (iI (k : Int))).bind fun r10 => some r10) = z
        intro m1
        cases z with
        | none => cases m1
        | some z => exact m1
      rw [m1', Option.bind_some]
      unfold bnd
      rw [li_1, iI_add]
      rfl

/-! what the model lays out for a question -/
def Laid (M : Mem) (S : List (Nat × Nat)) (R : Nat) (C B : Nat → Int) (p : Nat → Bool) (full : Bool) : Prop :=
  ShA M S R ∧ (∀ j, j < 10080 → M 20 j = iI (C j)) ∧
  M 1 31 = iI (db C 10080 : Nat) ∧ M 1 32 = iI ((rr (wk C B) 10080).length : Nat) ∧ M 1 33 = iI (lg (rr (wk C B) 10080) : Nat) ∧
  (∀ d, d < 7 → M 23 d = iI (ct (wk C B) (d * 1440) ((d + 1) * 1440) 10080 : Nat)) ∧
  (∀ j, j < 10080 → M 22 j = if p j = true then iI (cm p full j : Nat) else iI (-1)) ∧
  (∀ d c, d < 7 → c < 3 → M 25 (3 * d + c) = iI (kc p full d c 10080 : Nat)) ∧
  (∀ c d, c < 3 → d < 7 → M 26 (3 * d + c) = iI (shq (fun d => kc p full d c 10080) d : Nat)) ∧
  ∀ c, c < 3 → M 27 c = iI (wq (fun d => kc p full d c 10080) : Nat)
theorem X7_lays {e n : Nat} {tm : Nat → Nat} {inn : Nat → Bool} {E B : List (Nat × Nat)} {M : Mem} (he : e < 6) (hp : PnOK n tm) (h : PnM M e n tm inn) (hE : SpM M 8 9 10 e E) (hB : SpM M 11 12 13 e B) (hE' : SpOK E 20) (hB' : SpOK B 20) {w : Nat → Bool} (hw : w = wk (cvr (shL n tm inn n) E) (brk B)) : ∃ M', s_X7_lays M (iI e) = some M' ∧ Laid M' (shL n tm inn n) (shR n inn n) (cvr (shL n tm inn n) E) (brk B) (pd w) (flg (pd w) 6) ∧ (∀ k, k ≠ 1 → k < 18 ∨ 27 < k → M' k = M k) ∧ ∀ j, j ≠ 19 → j ≠ 20 → j ≠ 31 → j ≠ 32 → j ≠ 33 → M' 1 j = M 1 j := by
  have hS := shL_ok hp inn n (Nat.le_refl n)
  have hSl := shL_len n tm inn n
  have hn := hp.1
  obtain ⟨S, eS⟩ : ∃ S, S = shL n tm inn n := ⟨_, rfl⟩
  obtain ⟨C, eC⟩ : ∃ C, C = cvr S E := ⟨_, rfl⟩
  obtain ⟨M1, a1, a2, a3, a4⟩ := X7_finds he hp h
  rw [← eS] at hS hSl a2 hw ⊢
  rw [← eC] at hw ⊢
  obtain ⟨y2, M2, b1, b2, b3⟩ := L_lay7 10081 FU 0 M1 (by omega) (by rw [FU_0]; omega) (fun j hj => absurd hj (Nat.not_lt_zero _))
  obtain ⟨y3, M3, c1, c2, c3⟩ := L_lay36 (M0 := M2) (R := shR n inn n) hS (by omega) ⟨by rw [b3 1 (by omega) (by omega)]; exact a2.1, by rw [b3 1 (by omega) (by omega)]; exact a2.2.1, fun j hj => by rw [b3 18 (by omega) (by omega), b3 19 (by omega) (by omega)]; exact a2.2.2 j hj⟩ S.length FU 0 M2 (by omega) (by rw [FU_0]; omega) (fun _ _ => rfl) (fun j hj => by rw [(b2 j hj).1, Nat.sub_zero, List.drop_length]; rfl)
  have f3 : ∀ k, k ≠ 1 → k < 18 → M3 k = M k := fun k k1 k2 => by rw [c2 k (by omega), b3 k (by omega) (by omega), a3 k k1 (by omega) (by omega)]
  obtain ⟨y4, M4, d1, d2, d3⟩ := L_lay75 (M0 := M3) (D := fun j => mkl j S) he hE' ⟨by rw [f3 8 (by omega) (by omega)]; exact hE.1, fun k hk => by rw [f3 9 (by omega) (by omega), f3 10 (by omega) (by omega)]; exact hE.2 k hk⟩ E.length FU 0 M3 (by omega) (by have := hE'.1; rw [FU_0]; omega) (fun _ _ => rfl) (fun j hj => by rw [c3 j hj, Nat.sub_zero, List.drop_length]; exact congrArg iI (Int.add_zero _).symm)
  obtain ⟨y5, M5, e1, e2, e3⟩ := L_lay121 (M0 := M4) (D := fun _ => 0) he hB' ⟨by rw [d2 11 (by omega), f3 11 (by omega) (by omega)]; exact hB.1, fun k hk => by rw [d2 12 (by omega), d2 13 (by omega), f3 12 (by omega) (by omega), f3 13 (by omega) (by omega)]; exact hB.2 k hk⟩ B.length FU 0 M4 (by omega) (by have := hB'.1; rw [FU_0]; omega) (fun _ _ => rfl) (fun j hj => by rw [d2 21 (by omega), c2 21 (by omega), (b2 j hj).2, Nat.sub_zero, List.drop_length]; rfl)
  obtain ⟨M6, g1, g2⟩ := X7_paid (M := M5) (C := C) (B := brk B) (fun j => by
      have := cc_le j S; have := cc_le j E; have := hE'.1
      rw [eC]; unfold cvr; omega) (fun j => by
      have := cc_le j B; have := hB'.1
      unfold brk; omega) (fun m hm => by
      rw [e2 20 (by omega), d3 m (by omega), mkl_cc S (fun q hq => (hS q hq).1), mkl_cc E (fun q hq => (hE'.2 q hq).1), eC]
      unfold cvr
      by_cases c : m = 0
      · rw [if_pos c, if_pos c, if_pos c]; exact congrArg iI (by omega)
      · rw [if_neg c, if_neg c, if_neg c]; exact congrArg iI (by omega)) (fun m hm => by
      rw [e3 m (by omega), mkl_cc B (fun q hq => (hB'.2 q hq).1)]
      unfold brk
      exact congrArg iI (by omega))
  obtain ⟨q1, q2, q3, q4, q5, q6, q7, q8, q9, q10, q11, q12⟩ := g2
  rw [← hw] at q6 q7 q8 q9 q10
  obtain ⟨M7, i1, i2⟩ := X7_kinds q9 (fun m hm => q10 m hm)
  obtain ⟨r1, r2, r3, r4⟩ := i2
  obtain ⟨M8, j1, j2, j3, j4⟩ := X7_shares (q := fun c d => kc (pd w) (flg (pd w) 6) d c 10080) (fun c d => kc_le _ _ _ _ _) (M := M7) r3
  have f4 : ∀ k, k ≠ 20 → k ≠ 21 → M5 k = M1 k := fun k k1 k2 => by rw [e2 k k2, d2 k k1, c2 k k1, b3 k k1 k2]
  have f5 : ∀ k, k ≠ 22 → k ≠ 25 → k ≠ 26 → k ≠ 27 → M8 k = M6 k := fun k k1 k2 k3 k4 => by rw [j2 k k3 k4, r4 k k1 k2]
  have f6 : ∀ j, j ≠ 31 → j ≠ 32 → j ≠ 33 → M8 1 j = M1 1 j := fun j k1 k2 k3 => by rw [f5 1 (by omega) (by omega) (by omega) (by omega), q12 j k1 k2 k3, f4 1 (by omega) (by omega)]
  have f7 : ∀ k, k ≠ 1 → k < 20 ∨ 27 < k → M8 k = M1 k := fun k k1 k2 => by rw [f5 k (by omega) (by omega) (by omega) (by omega), q11 k k1 (by omega) (by omega) (by omega) (by omega) (by omega), f4 k (by omega) (by omega)]
  refine ⟨M8, ?_, ⟨⟨?_, ?_, fun j hj => ?_⟩, fun j hj => ?_, ?_, ?_, ?_, fun d hd => ?_, fun j hj => ?_, fun d c hd hc => ?_, j3, j4⟩, fun k k1 k2 => ?_, fun j k1 k2 k3 k4 k5 => ?_⟩
  · have b1' : L_X7_lays_7 FU 0 M1 = some (y2, M2) := b1
    have c1' : L_X7_lays_36 FU 0 M2 = some (y3, M3) := c1
    have eix : 20 * iI (e : Int) = iI ((20 * e + 0 : Nat) : Int) := by
      rw [li_20, iI_mul]; exact congrArg iI (by omega)
    unfold s_X7_lays bnd
    rw [a1, Option.bind_some, b1', Option.bind_some, c1', Option.bind_some]
    dsimp only
    rw [eix, d1, Option.bind_some, e1, Option.bind_some, g1, Option.bind_some, i1, Option.bind_some, j1]
    rfl
  · rw [f6 19 (by omega) (by omega) (by omega)]; exact a2.1
  · rw [f6 20 (by omega) (by omega) (by omega)]; exact a2.2.1
  · rw [f7 18 (by omega) (by omega), f7 19 (by omega) (by omega)]; exact a2.2.2 j hj
  · rw [f5 20 (by omega) (by omega) (by omega) (by omega)]; exact q1 j hj
  · rw [f5 1 (by omega) (by omega) (by omega) (by omega)]; exact q5
  · rw [f5 1 (by omega) (by omega) (by omega) (by omega), ← hw]; exact q6
  · rw [f5 1 (by omega) (by omega) (by omega) (by omega), ← hw]; exact q7
  · rw [f5 23 (by omega) (by omega) (by omega) (by omega), ← hw]; exact q8 d hd
  · rw [j2 22 (by omega) (by omega)]; exact r1 j hj
  · rw [j2 25 (by omega) (by omega)]; exact r3 d c hd hc
  · rw [f7 k k1 (by omega), a3 k k1 (by omega) (by omega)]
  · rw [f6 j k3 k4 k5, a4 j k1 k2]

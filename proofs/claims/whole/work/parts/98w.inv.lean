/-! THE INVARIANT: class and model hold the same -/
def EmpI (M : Mem) (G : Mel) (e n : Nat) (tm : Nat → Nat) (inn : Nat → Bool) (E B : List (Nat × Nat)) : Prop :=
  (PnOK n tm ∧ Tb M (46 + 7 * e + 1) n (pnf tm inn) ∧ PnM M e n tm inn) ∧ (SpOK E 20 ∧ Tl M (46 + 7 * e + 3) E ∧ SpM M 8 9 10 e E) ∧ (SpOK B 20 ∧ Tl M (46 + 7 * e + 5) B ∧ SpM M 11 12 13 e B) ∧
  M (46 + 7 * e) 0 = M 2 e ∧ M (46 + 7 * e) 1 = M 3 e ∧ G (46 + 7 * e) 2 = G 4 e
def Emp (M : Mem) (G : Mel) (e : Nat) : Prop := ∃ n tm inn E B, EmpI M G e n tm inn E B
def Prm (M : Mem) (pn : Nat) (pr : Nat → Nat → Nat) : Prop := PmOK pn pr ∧ Tb M 31 pn (pmf pr) ∧ PmM M pn pr
def Inv (hn : Nat) (M : Mem) (G : Mel) : Prop := hn ≤ 6 ∧ M 1 1 = iI (hn : Int) ∧ (∃ pn pr, Prm M pn pr) ∧ (∀ e, e < hn → Emp M G e) ∧ ∀ e, hn ≤ e → e < 6 → M 3 e = 0 ∧ M 5 e = 0 ∧ M 8 e = 0 ∧ M 11 e = 0 ∧ G 4 e = 0
/-- what a question leaves as it was -/
def Fq (M M' : Mem) : Prop := (∀ k, (2 ≤ k ∧ k ≤ 17) ∨ k = 31 ∨ k = 32 ∨ 46 ≤ k → M' k = M k) ∧ M' 1 1 = M 1 1 ∧ M' 1 14 = M 1 14
theorem Fq.rf {M : Mem} : Fq M M := ⟨fun _ _ => rfl, rfl, rfl⟩
theorem Fq.tr {M M' M'' : Mem} (h : Fq M M') (h' : Fq M' M'') : Fq M M'' := ⟨fun k hk => (h'.1 k hk).trans (h.1 k hk), h'.2.1.trans h.2.1, h'.2.2.trans h.2.2⟩
theorem Fq.thrown (M : Mem) (v : Int32) : Fq M (mst M 1 0 v) := ⟨fun k hk => mst_k _ _ _ _ (by omega), by rw [mst_a, if_pos rfl, if_neg (by omega)], by rw [mst_a, if_pos rfl, if_neg (by omega)]⟩
/-- what a change of the employee e leaves as it was -/
def Fe (e : Nat) (M M' : Mem) : Prop :=
  M' 1 1 = M 1 1 ∧ M' 1 14 = M 1 14 ∧ (∀ k, (14 ≤ k ∧ k ≤ 17) ∨ k = 31 ∨ k = 32 ∨ (46 ≤ k ∧ (k < 46 + 7 * e ∨ 46 + 7 * e + 7 ≤ k)) → M' k = M k) ∧
  (∀ k j, k = 2 ∨ k = 3 ∨ k = 5 ∨ k = 8 ∨ k = 11 → j ≠ e → M' k j = M k j) ∧ (∀ k j, k = 6 ∨ k = 7 → j < 41 * e ∨ 41 * e + 41 ≤ j → M' k j = M k j) ∧
  ∀ k j, k = 9 ∨ k = 10 ∨ k = 12 ∨ k = 13 → j < 20 * e ∨ 20 * e + 20 ≤ j → M' k j = M k j
def Ge (e : Nat) (G G' : Mel) : Prop := (∀ k, k ≠ 0 → k ≠ 4 → k ≠ 46 + 7 * e → G' k = G k) ∧ ∀ j, j ≠ e → G' 4 j = G 4 j
theorem Fe.tr {e : Nat} {M M' M'' : Mem} (h : Fe e M M') (h' : Fe e M' M'') : Fe e M M'' :=
  ⟨h'.1.trans h.1, h'.2.1.trans h.2.1, fun k hk => (h'.2.2.1 k hk).trans (h.2.2.1 k hk), fun k j hk hj => (h'.2.2.2.1 k j hk hj).trans (h.2.2.2.1 k j hk hj), fun k j hk hj => (h'.2.2.2.2.1 k j hk hj).trans (h.2.2.2.2.1 k j hk hj), fun k j hk hj => (h'.2.2.2.2.2 k j hk hj).trans (h.2.2.2.2.2 k j hk hj)⟩
theorem Fq.fe {e : Nat} {M M' : Mem} (h : Fq M M') : Fe e M M' :=
  ⟨h.2.1, h.2.2, fun k hk => h.1 k (by omega), fun k j hk _ => by rw [h.1 k (by omega)], fun k j hk _ => by rw [h.1 k (by omega)], fun k j hk _ => by rw [h.1 k (by omega)]⟩
theorem Fe.tb {e t : Nat} {M M' : Mem} (h : Fr t M M') (ht : t = 46 + 7 * e + 1 ∨ t = 46 + 7 * e + 3 ∨ t = 46 + 7 * e + 5) : Fe e M M' :=
  ⟨by rw [h.1 1 (by omega) (by omega)], by rw [h.1 1 (by omega) (by omega)], fun k hk => h.1 k (by omega) (by omega), fun k j hk _ => by rw [h.1 k (by omega) (by omega)], fun k j hk _ => by rw [h.1 k (by omega) (by omega)], fun k j hk _ => by rw [h.1 k (by omega) (by omega)]⟩
theorem EmpI.congr {M M' : Mem} {G G' : Mel} {e n : Nat} {tm : Nat → Nat} {inn : Nat → Bool} {E B : List (Nat × Nat)} (h : EmpI M G e n tm inn E B) (h1 : ∀ k, 46 + 7 * e ≤ k → k < 46 + 7 * e + 7 → M' k = M k) (h2 : ∀ k, k = 2 ∨ k = 3 ∨ k = 5 ∨ k = 8 ∨ k = 11 → M' k e = M k e) (h3 : ∀ k j, k = 6 ∨ k = 7 → j < 41 → M' k (41 * e + j) = M k (41 * e + j)) (h4 : ∀ k j, k = 9 ∨ k = 10 ∨ k = 12 ∨ k = 13 → j < 20 → M' k (20 * e + j) = M k (20 * e + j)) (g1 : G' (46 + 7 * e) 2 = G (46 + 7 * e) 2) (g2 : G' 4 e = G 4 e) : EmpI M' G' e n tm inn E B := by
  obtain ⟨⟨a1, a2, a3⟩, ⟨b1, b2, b3⟩, ⟨c1, c2, c3⟩, d1, d2, d3⟩ := h
  have hn := a1.1
  have hE := b1.1
  have hB := c1.1
  refine ⟨⟨a1, a2.congr (by rw [h1 _ (by omega) (by omega)]) (by rw [h1 _ (by omega) (by omega)]), ?_, fun k hk => ?_⟩, ⟨b1, b2.congr (by rw [h1 _ (by omega) (by omega)]) (by rw [h1 _ (by omega) (by omega)]), ?_, fun k hk => ?_⟩, ⟨c1, c2.congr (by rw [h1 _ (by omega) (by omega)]) (by rw [h1 _ (by omega) (by omega)]), ?_, fun k hk => ?_⟩, ?_, ?_, ?_⟩
  · rw [h2 5 (by omega)]; exact a3.1
  · rw [h3 6 k (by omega) (by omega), h3 7 k (by omega) (by omega)]; exact a3.2 k hk
  · rw [h2 8 (by omega)]; exact b3.1
  · rw [h4 9 k (by omega) (by omega), h4 10 k (by omega) (by omega)]; exact b3.2 k hk
  · rw [h2 11 (by omega)]; exact c3.1
  · rw [h4 12 k (by omega) (by omega), h4 13 k (by omega) (by omega)]; exact c3.2 k hk
  · rw [h1 _ (by omega) (by omega), h2 2 (by omega)]; exact d1
  · rw [h1 _ (by omega) (by omega), h2 3 (by omega)]; exact d2
  · rw [g1, g2]; exact d3
theorem EmpI.fq {M M' : Mem} {G G' : Mel} {e n : Nat} {tm : Nat → Nat} {inn : Nat → Bool} {E B : List (Nat × Nat)} (h : EmpI M G e n tm inn E B) (hF : Fq M M') (hG : ∀ k, k ≠ 0 → G' k = G k) : EmpI M' G' e n tm inn E B :=
  h.congr (fun k h1 _ => hF.1 k (by omega)) (fun k hk => by rw [hF.1 k (by omega)]) (fun k j hk _ => by rw [hF.1 k (by omega)]) (fun k j hk _ => by rw [hF.1 k (by omega)]) (by rw [hG _ (by omega)]) (by rw [hG _ (by omega)])
theorem Prm.congr {M M' : Mem} {pn : Nat} {pr : Nat → Nat → Nat} (h : Prm M pn pr) (h1 : ∀ k, (14 ≤ k ∧ k ≤ 17) ∨ k = 31 ∨ k = 32 → M' k = M k) (h2 : M' 1 14 = M 1 14) : Prm M' pn pr :=
  ⟨h.1, h.2.1.congr (by rw [h1 31 (by omega)]) (by rw [h1 (31 + 1) (by omega)]), by rw [h2]; exact h.2.2.1, fun i hi => by rw [h1 14 (by omega), h1 15 (by omega), h1 16 (by omega), h1 17 (by omega)]; exact h.2.2.2 i hi⟩
theorem Prm.fq {M M' : Mem} {pn : Nat} {pr : Nat → Nat → Nat} (h : Prm M pn pr) (hF : Fq M M') : Prm M' pn pr := h.congr (fun k hk => hF.1 k (by omega)) hF.2.2
theorem Inv.fq {hn : Nat} {M M' : Mem} {G G' : Mel} (h : Inv hn M G) (hF : Fq M M') (hG : ∀ k, k ≠ 0 → G' k = G k) : Inv hn M' G' := by
  obtain ⟨h1, h2, ⟨pn, pr, h3⟩, h4, h5⟩ := h
  refine ⟨h1, hF.2.1.trans h2, ⟨pn, pr, h3.fq hF⟩, fun e he => ?_, fun e e1 e2 => ?_⟩
  · obtain ⟨n, tm, inn, E, B, hE⟩ := h4 e he
    exact ⟨n, tm, inn, E, B, hE.fq hF hG⟩
  · rw [hF.1 3 (by omega), hF.1 5 (by omega), hF.1 8 (by omega), hF.1 11 (by omega), hG 4 (by omega)]
    exact h5 e e1 e2
theorem Inv.fe {hn e : Nat} {M M' : Mem} {G G' : Mel} (h : Inv hn M G) (he : e < hn) (hE : Emp M' G' e) (hF : Fe e M M') (hG : Ge e G G') : Inv hn M' G' := by
  obtain ⟨h1, h2, ⟨pn, pr, h3⟩, h4, h5⟩ := h
  obtain ⟨f1, f2, f3, f4, f5, f6⟩ := hF
  refine ⟨h1, f1.trans h2, ⟨pn, pr, h3.congr (fun k hk => f3 k (by omega)) f2⟩, fun e' he' => ?_, fun e' e1 e2 => ?_⟩
  · by_cases c : e' = e
    · subst c; exact hE
    · obtain ⟨n, tm, inn, E, B, hE'⟩ := h4 e' he'
      exact ⟨n, tm, inn, E, B, hE'.congr (fun k k1 k2 => f3 k (by omega)) (fun k hk => f4 k e' hk c) (fun k j hk hj => f5 k _ hk (by omega)) (fun k j hk hj => f6 k _ hk (by omega)) (by rw [hG.1 _ (by omega) (by omega) (by omega)]) (hG.2 e' c)⟩
  · rw [f4 3 e' (by omega) (by omega), f4 5 e' (by omega) (by omega), f4 8 e' (by omega) (by omega), f4 11 e' (by omega) (by omega), hG.2 e' (by omega)]
    exact h5 e' e1 e2
theorem Ge.rf0 {e : Nat} {G G' : Mel} (h : ∀ k, k ≠ 0 → G' k = G k) : Ge e G G' := ⟨fun k h0 _ _ => h k h0, fun j _ => by rw [h 4 (by omega)]⟩
/-! the employee of a number -/
theorem X6_find_ok {hn e : Nat} (hh : hn ≤ 6) (he : e < hn) : s_X6_find hn (iI e) = some (0, 46 + 7 * e) := by
  unfold s_X6_find mrs
  rw [li_0, li_6, iI_nI, iI_cl (by omega), Int.toNat_natCast, if_neg (by rw [iI_lt] <;> omega), if_neg (by rw [iI_le] <;> omega), if_pos (by rw [iI_lt] <;> omega), if_neg]
  · rfl
  · rintro ((g | g) | g)
    · rw [iI_lt] at g <;> omega
    · omega
    · omega
theorem X7_isOne_ok {hn e : Nat} {M : Mem} (h : M 1 1 = iI (hn : Int)) (hh : hn ≤ 6) (he : e < hn) : s_X7_isOne M (iI e) = some 1 := by
  unfold s_X7_isOne
  rw [h, li_1, iI_sub, li_0, X7_in (by omega) (by omega) (by omega), decide_eq_true (by omega)]
  rfl
theorem find_no {hn : Nat} (hh : hn ≤ 6) (x : Int32) : (∃ e : Nat, e < hn ∧ x = iI (e : Int)) ∨ (s_X6_find hn x = some (3, 0) ∧ ∀ M : Mem, M 1 1 = iI (hn : Int) → s_X7_isOne M x = some 0) := by
  obtain ⟨a, rfl, ha⟩ := iI_ex x
  by_cases c : 0 ≤ a ∧ a < hn
  · exact Or.inl ⟨a.toNat, by omega, congrArg iI (by omega)⟩
  · refine Or.inr ⟨?_, fun M h => ?_⟩
    · unfold s_X6_find
      rw [li_0, iI_nI]
      by_cases d : a < 0
      · rw [if_pos (by rw [iI_lt] <;> omega)]
      · rw [if_neg (by rw [iI_lt] <;> omega), if_pos (by rw [iI_le] <;> omega)]
    · unfold s_X7_isOne
      rw [h, li_1, iI_sub, li_0, X7_in (by omega) (by omega) (by omega), decide_eq_false (by omega)]
      rfl

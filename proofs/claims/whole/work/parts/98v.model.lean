/-! pay -/
def payV (w : Int32) (pn : Nat) (pr : Nat → Nat → Nat) (p : Nat → Bool) (full : Bool) : Int32 :=
  (w * (((2 * iI (wq (fun d => kc p full d 0 10080) : Nat)) + (3 * iI (wq (fun d => kc p full d 1 10080) : Nat))) + (4 * iI (wq (fun d => kc p full d 2 10080) : Nat))) + 4) / 8 + (iI (ex pn pr p 10080) + 30) / 60
theorem X7_payOf {e n : Nat} {tm : Nat → Nat} {inn : Nat → Bool} {E B : List (Nat × Nat)} {M : Mem} (he : e < 6) (hp : PnOK n tm) (h : PnM M e n tm inn) (hE : SpM M 8 9 10 e E) (hB : SpM M 11 12 13 e B) (hE' : SpOK E 20) (hB' : SpOK B 20) {w : Nat → Bool} (hw : w = wk (cvr (shL n tm inn n) E) (brk B)) {pn : Nat} {pr : Nat → Nat → Nat} (hq : PmOK pn pr) (hQ : PmM M pn pr) : ∃ M', s_X7_payOf M (iI e) = some (payV (M 2 e) pn pr (pd w) (flg (pd w) 6), M') ∧ (∀ k, k ≠ 1 → k < 18 ∨ 27 < k → M' k = M k) ∧ ∀ j, j ≠ 19 → j ≠ 20 → j ≠ 31 → j ≠ 32 → j ≠ 33 → M' 1 j = M 1 j := by
  obtain ⟨M', a1, a2, a3, a4⟩ := X7_lays he hp h hE hB hE' hB' hw
  obtain ⟨-, -, -, -, -, -, h22, -, -, h27⟩ := a2
  have hQ' : PmM M' pn pr := ⟨by rw [a4 14 (by omega) (by omega) (by omega) (by omega) (by omega)]; exact hQ.1, fun i hi => by
    rw [a3 14 (by omega) (by omega), a3 15 (by omega) (by omega), a3 16 (by omega) (by omega), a3 17 (by omega) (by omega)]; exact hQ.2 i hi⟩
  have hx := X7_extra hq hQ' h22
  refine ⟨M', ?_, a3, a4⟩
  have r2 : mrd 6 (M' 2) (iI (e : Int)) = some (M 2 e) := by rw [mrd_i (by omega) (by omega), Int.toNat_natCast, a3 2 (by omega) (by omega)]
  have r27 : ∀ c : Nat, c < 3 → mrd 3 (M' 27) (iI (c : Int)) = some (iI (wq (fun d => kc (pd w) (flg (pd w) 6) d c 10080) : Nat)) := fun c hc => by
    rw [mrd_i (by omega) (by omega), Int.toNat_natCast, h27 c hc]
  have r0 : mrd 3 (M' 27) 0 = _ := r27 0 (by omega)
  have r1 : mrd 3 (M' 27) 1 = _ := r27 1 (by omega)
  have r3 : mrd 3 (M' 27) 2 = _ := r27 2 (by omega)
  unfold s_X7_payOf bnd
  rw [a1, Option.bind_some, r2, Option.bind_some, r0, Option.bind_some, r1, Option.bind_some, r3, Option.bind_some]
  dsimp only
  rw [hx, Option.bind_some]
  rfl

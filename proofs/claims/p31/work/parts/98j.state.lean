/-! what the class holds while the law runs: the employee 0, no punches, entries E, breaks B, pn premiums -/
def St (M : Mem) (E B : List (Nat × Nat)) (pn : Nat) (pr : Nat → Nat → Nat) (x y : Int32) : Prop :=
  Tb M 47 0 (pnf (fun _ => 0) (fun _ => false)) ∧ (SpOK E 20 ∧ Tl M 49 E) ∧ (SpOK B 20 ∧ Tl M 51 B) ∧ (PmOK pn pr ∧ Tb M 31 pn (pmf pr)) ∧ M 46 0 = x ∧ M 46 1 = y
/-- what a question leaves as it was -/
def Fq (M M' : Mem) : Prop := ∀ k, (k < 34 ∨ 45 < k) → M' k = M k
theorem Fq.rf {M : Mem} : Fq M M := fun _ _ => rfl
theorem Fq.tr {M M' M'' : Mem} (h : Fq M M') (h' : Fq M' M'') : Fq M M'' := fun k hk => (h' k hk).trans (h k hk)
theorem St.congr {M M' : Mem} {E B : List (Nat × Nat)} {pn : Nat} {pr : Nat → Nat → Nat} {x y : Int32} (h : St M E B pn pr x y) (hF : ∀ k, k = 31 ∨ k = 32 ∨ 46 ≤ k → M' k = M k) : St M' E B pn pr x y :=
  ⟨h.1.congr (by rw [hF 47 (by omega)]) (hF _ (by omega)), ⟨h.2.1.1, h.2.1.2.congr (by rw [hF 49 (by omega)]) (hF _ (by omega))⟩, ⟨h.2.2.1.1, h.2.2.1.2.congr (by rw [hF 51 (by omega)]) (hF _ (by omega))⟩, ⟨h.2.2.2.1.1, h.2.2.2.1.2.congr (by rw [hF 31 (by omega)]) (hF _ (by omega))⟩, by rw [hF 46 (by omega)]; exact h.2.2.2.2.1, by rw [hF 46 (by omega)]; exact h.2.2.2.2.2⟩
theorem St.fq {M M' : Mem} {E B : List (Nat × Nat)} {pn : Nat} {pr : Nat → Nat → Nat} {x y : Int32} (h : St M E B pn pr x y) (hF : Fq M M') : St M' E B pn pr x y := h.congr (fun k hk => hF k (by omega))
/-- worked, paid, a full week -/
def WW (E B : List (Nat × Nat)) : Nat → Bool := wk (cvr [] E) (brk B)
def PP (E B : List (Nat × Nat)) : Nat → Bool := pd (WW E B)
def FF (E B : List (Nat × Nat)) : Bool := flg (PP E B) 6
/-- the minutes of a category on a day -/
def qm (E B : List (Nat × Nat)) (j : Nat) (d : Nat) : Nat := kc (PP E B) (FF E B) d j 10080
theorem qm_le (E B : List (Nat × Nat)) (j d : Nat) : qm E B j d ≤ 10080 := kc_le _ _ _ _ _
theorem pn0 : PnOK 0 (fun _ => 0) := ⟨by omega, fun i hi => by omega, fun i hi => by omega⟩
theorem find0 : s_X6_find 1 0 = some (0, 46) := by decide +kernel
theorem wthin {k a b : Int} (hk : -2147483648 ≤ k ∧ k < 2147483648) (ha : -2147483648 ≤ a ∧ a < 2147483648) (hb : -2147483648 ≤ b ∧ b < 2147483648) (h : a ≤ k ∧ k ≤ b) : s_X6_requireWithin (iI k) (iI a) (iI b) = some 0 := by
  unfold s_X6_requireWithin
  rw [if_neg (by rw [iI_lt hk ha]; omega), if_pos (by rw [iI_le hk hb]; omega)]
section
variable {M : Mem} {G : Mel} {E B : List (Nat × Nat)} {pn : Nat} {pr : Nat → Nat → Nat} {x y : Int32}
theorem St.read (h : St M E B pn pr x y) : ∃ M', s_X1_read M 46 = some M' ∧ Tq M' 36 (qq (PP E B) (FF E B) 10080) ∧ Fq M M' := X1_read (e := 46) (n := 0) (tm := fun _ => 0) (inn := fun _ => false) (by omega) pn0 h.1 h.2.1.2 h.2.2.1.2 h.2.1.1 h.2.2.1.1 (w := WW E B) rfl
theorem St.time (h : St M E B pn pr x y) : ∃ M', s_X5_read M 46 = some M' ∧ Tl M' 41 (rr (WW E B) 10080) ∧ M' 38 3 = iI (db (cvr [] E) 10080 : Nat) ∧ Fq M M' := by
  obtain ⟨M', a1, -, -, a4, a5, -, a7⟩ := X5_read (e := 46) (n := 0) (tm := fun _ => 0) (inn := fun _ => false) (by omega) pn0 h.1 h.2.1.2 h.2.2.1.2 h.2.1.1 h.2.2.1.1
  exact ⟨M', a1, a4, a5, fun k hk => a7 k (by omega)⟩
theorem St.shift (h : St M E B pn pr x y) : ∃ M', s_X3_read M 47 = some M' ∧ Tl M' 44 [] ∧ M' 43 1 = iI ((0 : Nat) : Int) ∧ Fq M M' := by
  obtain ⟨M', a1, a2, a3, a4⟩ := X3_read (t := 47) (n := 0) (tm := fun _ => 0) (inn := fun _ => false) pn0 (by decide) h.1
  exact ⟨M', a1, a2, a3, fun k hk => a4 k (by omega) (by omega) (by omega)⟩
theorem mino {M' : Mem} (c : Tq M' 36 (qq (PP E B) (FF E B) 10080)) {d j : Nat} (hd : d < 7) (hj : j ≤ 2) : s_X1_minutesOf M' (iI d) (iI j) = some (iI (qm E B j d : Nat)) := X1_minutesOf c hd hj
theorem q_minutes (h : St M E B pn pr x y) {d j : Nat} (hd : d < 7) (hj : j ≤ 2) : ∃ M', s_X6_minutes M 1 0 (iI d) (iI j) = some (0, iI (qm E B j d : Nat), M') ∧ Fq M M' := by
  obtain ⟨M', c1, c2, c3⟩ := h.read
  have k1 : s_X6_requireWithin (iI d) 0 6 = some 0 := wthin (k := d) (a := 0) (b := 6) (by omega) (by omega) (by omega) (by omega)
  have k2 : s_X6_requireWithin (iI j) 0 2 = some 0 := wthin (k := j) (a := 0) (b := 2) (by omega) (by omega) (by omega) (by omega)
  refine ⟨M', ?_, c3⟩
  unfold s_X6_minutes
  rw [find0, Option.bind_some, if_neg (not_not_intro rfl), k1, Option.bind_some, if_neg (not_not_intro rfl), k2, Option.bind_some, if_neg (not_not_intro rfl)]
  dsimp only
  rw [c1, Option.bind_some, mino c2 hd hj, Option.bind_some]
theorem q_quarters (h : St M E B pn pr x y) {d j : Nat} (hd : d < 7) (hj : j ≤ 2) : ∃ M', s_X6_quarters M 1 0 (iI d) (iI j) = some (0, iI (shq (qm E B j) d : Nat), M') ∧ Fq M M' := by
  obtain ⟨M', c1, c2, c3⟩ := h.read
  have k1 : s_X6_requireWithin (iI d) 0 6 = some 0 := wthin (k := d) (a := 0) (b := 6) (by omega) (by omega) (by omega) (by omega)
  have k2 : s_X6_requireWithin (iI j) 0 2 = some 0 := wthin (k := j) (a := 0) (b := 2) (by omega) (by omega) (by omega) (by omega)
  refine ⟨M', ?_, c3⟩
  unfold s_X6_quarters
  rw [find0, Option.bind_some, if_neg (not_not_intro rfl), k1, Option.bind_some, if_neg (not_not_intro rfl), k2, Option.bind_some, if_neg (not_not_intro rfl)]
  dsimp only
  rw [c1, Option.bind_some, X1_qof (q := qm E B j) hd (qm_le E B j) (fun d hd => mino c2 hd hj), Option.bind_some]
/-- the basic pay, the premium pay -/
def bas (x : Int32) (E B : List (Nat × Nat)) : Int32 := (x * (((2 * iI (wq (qm E B 0) : Nat)) + (3 * iI (wq (qm E B 1) : Nat))) + (4 * iI (wq (qm E B 2) : Nat))) + 4) / 8
def xtr (pn : Nat) (pr : Nat → Nat → Nat) (E B : List (Nat × Nat)) : Int32 := (iI (ex pn pr (PP E B) 10080) + 30) / 60
theorem basic {M' : Mem} (c : Tq M' 36 (qq (PP E B) (FF E B) 10080)) (x : Int32) : s_X1_basicPay M' x = some (bas x E B) := X1_basic (qm_le E B 0) (qm_le E B 1) (qm_le E B 2) (fun d hd => mino c hd (by omega)) (fun d hd => mino c hd (by omega)) (fun d hd => mino c hd (by omega)) x
theorem q_premiumPay (h : St M E B pn pr x y) : ∃ M', s_X6_premiumPay M 1 0 = some (0, xtr pn pr E B, M') ∧ Fq M M' := by
  obtain ⟨M', c1, c2, c3⟩ := h.read
  have h' := h.fq c3
  refine ⟨M', ?_, c3⟩
  unfold s_X6_premiumPay
  rw [find0, Option.bind_some, if_neg (not_not_intro rfl)]
  dsimp only
  rw [c1, Option.bind_some, X2_payFor h'.2.2.2.1.1 h'.2.2.2.1.2 c2, Option.bind_some]
  rfl
theorem q_pay (h : St M E B pn pr x y) : ∃ M', s_X6_pay M 1 0 = some (0, bas x E B + xtr pn pr E B, M') ∧ Fq M M' := by
  obtain ⟨M', c1, c2, c3⟩ := h.read
  have h' := h.fq c3
  refine ⟨M', ?_, c3⟩
  unfold s_X6_pay
  rw [find0, Option.bind_some, if_neg (not_not_intro rfl)]
  dsimp only
  rw [c1, Option.bind_some, h'.2.2.2.2.1, basic c2, Option.bind_some, X2_payFor h'.2.2.2.1.1 h'.2.2.2.1.2 c2, Option.bind_some]
  rfl
theorem rr_bnd (w : Nat → Bool) : ∀ q ∈ rr w 10080, q.1 ≤ 10080 ∧ q.2 ≤ 10080 := (rr_ok w 10080).bnd (Nat.le_refl _)
/-- the minutes worked on a day -/
def won (E B : List (Nat × Nat)) (d : Nat) : Nat := ct (WW E B) (d * 1440) ((d + 1) * 1440) 10080
theorem q_workedOn (h : St M E B pn pr x y) {d : Nat} (hd : d < 7) : ∃ M', s_X6_workedOn M 1 0 (iI d) = some (0, iI (won E B d : Nat), M') ∧ Fq M M' := by
  obtain ⟨M', c1, c2, -, c3⟩ := h.time
  have k1 : s_X6_requireWithin (iI d) 0 6 = some 0 := wthin (k := d) (a := 0) (b := 6) (by omega) (by omega) (by omega) (by omega)
  refine ⟨M', ?_, c3⟩
  unfold s_X6_workedOn
  rw [find0, Option.bind_some, if_neg (not_not_intro rfl), k1, Option.bind_some, if_neg (not_not_intro rfl)]
  dsimp only
  rw [c1, Option.bind_some, X6_mod c2 hd (rr_bnd _), Option.bind_some, rr_cls]
  rfl
theorem q_shifts (h : St M E B pn pr x y) : ∃ M', s_X6_shifts M 1 0 = some (0, 0, M') ∧ Fq M M' := by
  obtain ⟨M', c1, c2, -, c3⟩ := h.shift
  refine ⟨M', ?_, c3⟩
  unfold s_X6_shifts
  rw [find0, Option.bind_some, if_neg (not_not_intro rfl)]
  dsimp only
  rw [c1, Option.bind_some, c2.size, Option.bind_some]
  rfl
theorem q_repaired (h : St M E B pn pr x y) : ∃ M', s_X6_repairedShifts M 1 0 = some (0, 0, M') ∧ Fq M M' := by
  obtain ⟨M', c1, -, c2, c3⟩ := h.shift
  refine ⟨M', ?_, c3⟩
  unfold s_X6_repairedShifts
  rw [find0, Option.bind_some, if_neg (not_not_intro rfl)]
  dsimp only
  rw [c1, Option.bind_some, c2]
  rfl
theorem q_stretches (h : St M E B pn pr x y) : ∃ M', s_X6_stretches M 1 0 = some (0, iI ((rr (WW E B) 10080).length : Nat), M') ∧ Fq M M' := by
  obtain ⟨M', c1, c2, -, c3⟩ := h.time
  refine ⟨M', ?_, c3⟩
  unfold s_X6_stretches
  rw [find0, Option.bind_some, if_neg (not_not_intro rfl)]
  dsimp only
  rw [c1, Option.bind_some, c2.size, Option.bind_some]
theorem q_overlap (h : St M E B pn pr x y) : ∃ M', s_X6_overlap M 1 0 = some (0, iI (db (cvr [] E) 10080 : Nat), M') ∧ Fq M M' := by
  obtain ⟨M', c1, -, c2, c3⟩ := h.time
  refine ⟨M', ?_, c3⟩
  unfold s_X6_overlap
  rw [find0, Option.bind_some, if_neg (not_not_intro rfl)]
  dsimp only
  rw [c1, Option.bind_some, c2]
theorem q_longest (h : St M E B pn pr x y) : ∃ M', s_X6_longestStretch M 1 0 = some (0, iI (lg (rr (WW E B) 10080) : Nat), M') ∧ Fq M M' := by
  obtain ⟨M', c1, c2, -, c3⟩ := h.time
  refine ⟨M', ?_, c3⟩
  unfold s_X6_longestStretch
  rw [find0, Option.bind_some, if_neg (not_not_intro rfl)]
  dsimp only
  rw [c1, Option.bind_some, X6_lg c2 (rr_bnd _), Option.bind_some]
end

/-! the law's own methods over the state -/
/-- the law's arrays hold the first k numbers -/
def Ar (M : Mem) (E B : List (Nat × Nat)) (k : Nat) : Prop := ∀ i, i < k → M 26 i = iI (qm E B (i % 3) (i / 3) : Nat) ∧ M 27 i = iI (shq (qm E B (i % 3)) (i / 3) : Nat)
theorem Ar.fq {M M' : Mem} {E B : List (Nat × Nat)} {k : Nat} (h : Ar M E B k) (hF : Fq M M') : Ar M' E B k := fun i hi => by rw [hF 26 (by omega), hF 27 (by omega)]; exact h i hi
theorem i_div3 {k : Nat} (h : k ≤ 1000) : iI (k : Int) / 3 = iI ((k / 3 : Nat) : Int) := by
  rw [li_3, iI_div (by omega) (by omega)]
  exact congrArg iI (by omega)
theorem i_mod3 {k : Nat} (h : k ≤ 1000) : iI (k : Int) - iI (k : Int) / 3 * 3 = iI ((k % 3 : Nat) : Int) := by
  rw [i_div3 h, li_3, iI_mul, iI_sub]
  exact congrArg iI (by omega)
section
variable {E B : List (Nat × Nat)} {pn : Nat} {pr : Nat → Nat → Nat} {x y : Int32}
theorem L_reads : ∀ (r fu k : Nat) (M : Mem), k + r = 21 → r < fu → St M E B pn pr x y → Ar M E B k → ∃ z M', L_L_reads_2 1 fu (iI (k : Int)) M = some (z, M') ∧ St M' E B pn pr x y ∧ Ar M' E B 21 := by
  intro r
  induction r with
  | zero =>
    intro fu k M hk hf h hA
    have e : k = 21 := by omega
    subst e
    obtain ⟨f, rfl⟩ : ∃ f, fu = f + 1 := ⟨fu - 1, by omega⟩
    refine ⟨iI ((21 : Nat) : Int), M, ?_, h, hA⟩
    rw [L_L_reads_2, if_pos (by rw [li_21, iI_le] <;> omega)]
  | succ r ih =>
    intro fu k M hk hf h hA
    obtain ⟨f, rfl⟩ : ∃ f, fu = f + 1 := ⟨fu - 1, by omega⟩
    obtain ⟨M3, a1, f1⟩ := q_minutes h (d := k / 3) (j := k % 3) (by omega) (by omega)
    obtain ⟨M4, e4⟩ : ∃ M4, M4 = mst M3 26 k (iI (qm E B (k % 3) (k / 3) : Nat)) := ⟨_, rfl⟩
    have h4 : St M4 E B pn pr x y := (h.fq f1).congr (fun q hq => by rw [e4, mst_k _ _ _ _ (by omega)])
    obtain ⟨M5, a2, f2⟩ := q_quarters h4 (d := k / 3) (j := k % 3) (by omega) (by omega)
    obtain ⟨M6, e6⟩ : ∃ M6, M6 = mst M5 27 k (iI (shq (qm E B (k % 3)) (k / 3) : Nat)) := ⟨_, rfl⟩
    have h6 : St M6 E B pn pr x y := (h4.fq f2).congr (fun q hq => by rw [e6, mst_k _ _ _ _ (by omega)])
    have hA6 : Ar M6 E B (k + 1) := by
      intro i hi
      have u1 : M6 26 i = if i = k then iI (qm E B (k % 3) (k / 3) : Nat) else M 26 i := by
        rw [e6, mst_k _ _ _ _ (by omega), f2 26 (by omega), e4, mst_a, if_pos rfl, f1 26 (by omega)]
      have u2 : M6 27 i = if i = k then iI (shq (qm E B (k % 3)) (k / 3) : Nat) else M 27 i := by
        rw [e6, mst_a, if_pos rfl, f2 27 (by omega), e4, mst_k _ _ _ _ (by omega), f1 27 (by omega)]
      by_cases c : i = k
      · rw [u1, u2, if_pos c, if_pos c, c]
        exact ⟨rfl, rfl⟩
      · rw [u1, u2, if_neg c, if_neg c]
        exact hA i (by omega)
    obtain ⟨z, M', b1, b2, b3⟩ := ih f (k + 1) M6 (by omega) (by omega) h6 hA6
    refine ⟨z, M', ?_, b2, b3⟩
    rw [L_L_reads_2, if_neg (by rw [li_21, iI_le] <;> omega), i_mod3 (by omega), i_div3 (by omega), a1, Option.bind_some, if_neg (not_not_intro rfl)]
    dsimp only
    rw [mwr_i (by omega) (by omega), Int.toNat_natCast, ← e4, Option.bind_some, a2, Option.bind_some, if_neg (not_not_intro rfl)]
    dsimp only
    rw [mwr_i (by omega) (by omega), Int.toNat_natCast, ← e6, Option.bind_some]
    unfold bnd
    dsimp only
    rw [li_1, iI_add]
    exact b1
theorem X_reads {M : Mem} (h : St M E B pn pr x y) : ∃ M', s_L_reads M 1 = some M' ∧ St M' E B pn pr x y ∧ Ar M' E B 21 := by
  obtain ⟨z, M', b1, b2, b3⟩ := L_reads 21 FU 0 M (by omega) (by rw [FU_0]; omega) h (fun i hi => absurd hi (Nat.not_lt_zero _))
  refine ⟨M', ?_, b2, b3⟩
  have b1' : L_L_reads_2 1 FU 0 M = some (z, M') := b1
  unfold s_L_reads
  rw [b1']
  rfl
theorem Ar.at {M : Mem} (hA : Ar M E B 21) {j d : Nat} (hj : j ≤ 2) (hd : d < 7) : mrd 21 (M 26) (iI ((3 * d + j : Nat) : Int)) = some (iI (qm E B j d : Nat)) ∧ mrd 21 (M 27) (iI ((3 * d + j : Nat) : Int)) = some (iI (shq (qm E B j) d : Nat)) := by
  obtain ⟨h1, h2⟩ := hA (3 * d + j) (by omega)
  have e1 : (3 * d + j) % 3 = j := by omega
  have e2 : (3 * d + j) / 3 = d := by omega
  rw [e1, e2] at h1 h2
  rw [mrd_i (by omega) (by omega), mrd_i (by omega) (by omega), Int.toNat_natCast, h1, h2]
  exact ⟨rfl, rfl⟩
theorem i_more {q : Nat → Nat} (hq : ∀ d, q d ≤ 10080) (d : Nat) : iI (shq q d : Nat) - iI (q d : Nat) / 15 = iI (mr q d : Nat) := by
  rw [iI_div15 (hq d), iI_sub, shq_mr]
  exact congrArg iI (by omega)
/-- the days before against the day d -/
theorem L_pairs {M : Mem} (hA : Ar M E B 21) {j d : Nat} (hj : j ≤ 2) (hd : d < 7) : ∀ (r fu i : Nat), i + r = d → r < fu → ∃ z, L_L_weekOf_84 M (iI ((3 * d + j : Nat) : Int)) (iI (mr (qm E B j) d : Nat)) fu 1 (iI ((3 * i + j : Nat) : Int)) = some (1, z) := by
  have hq := qm_le E B j
  obtain ⟨ad, sd'⟩ := hA.at hj hd
  intro r
  induction r with
  | zero =>
    intro fu i hi hf
    obtain ⟨f, rfl⟩ : ∃ f, fu = f + 1 := ⟨fu - 1, by omega⟩
    refine ⟨iI ((3 * i + j : Nat) : Int), ?_⟩
    rw [L_L_weekOf_84, if_pos (by rw [iI_le] <;> omega)]
  | succ r ih =>
    intro fu i hi hf
    obtain ⟨f, rfl⟩ : ∃ f, fu = f + 1 := ⟨fu - 1, by omega⟩
    obtain ⟨z, hz⟩ := ih f (i + 1) (by omega) (by omega)
    refine ⟨z, ?_⟩
    obtain ⟨ai, si⟩ := hA.at (d := i) hj (by omega)
    have hmi := mr_le (qm E B j) i
    have hmd := mr_le (qm E B j) d
    have hqi := hq i
    have hqd := hq d
    rw [L_L_weekOf_84, if_neg (by rw [iI_le] <;> omega), si, Option.bind_some, ai, Option.bind_some]
    unfold bnd
    dsimp only
    rw [i_more hq i, if_neg (show ¬ (1 : Int32) = 0 by decide)]
    have body : (if iI ((mr (qm E B j) d : Nat) : Int) ≤ iI ((mr (qm E B j) i : Nat) : Int) then
        if iI ((mr (qm E B j) i : Nat) : Int) ≤ iI ((mr (qm E B j) d : Nat) : Int) then some (1 : Int32)
        else (mrd 21 (M 26) (iI ((3 * d + j : Nat) : Int))).bind fun v21 => (some (iI ((qm E B j i : Nat) : Int))).bind fun v22 => if (v22 - v22 / 15 * 15) < (v21 - v21 / 15 * 15) then some 0 else some 1
      else (mrd 21 (M 26) (iI ((3 * d + j : Nat) : Int))).bind fun v23 => (some (iI ((qm E B j i : Nat) : Int))).bind fun v24 => if (v23 - v23 / 15 * 15) ≤ (v24 - v24 / 15 * 15) then some 0 else if iI ((mr (qm E B j) i : Nat) : Int) ≤ iI ((mr (qm E B j) d : Nat) : Int) then some 1
        else (mrd 21 (M 26) (iI ((3 * d + j : Nat) : Int))).bind fun v25 => (some (iI ((qm E B j i : Nat) : Int))).bind fun v26 => if (v26 - v26 / 15 * 15) < (v25 - v25 / 15 * 15) then some 0 else some 1) = some 1 := by
      by_cases c : mr (qm E B j) d ≤ mr (qm E B j) i
      · rw [if_pos (by rw [iI_le] <;> omega)]
        by_cases c2 : mr (qm E B j) i ≤ mr (qm E B j) d
        · rw [if_pos (by rw [iI_le] <;> omega)]
        · have k := mr_lt (q := qm E B j) (x := d) (y := i) hd (by omega) (by omega)
          rw [if_neg (by rw [iI_le] <;> omega), ad, Option.bind_some, Option.bind_some, iI_mod15 hqd, iI_mod15 hqi, if_neg (by rw [iI_lt] <;> omega)]
      · have k := mr_lt (q := qm E B j) (x := i) (y := d) (by omega) hd (by omega)
        rw [if_neg (by rw [iI_le] <;> omega), ad, Option.bind_some, Option.bind_some, iI_mod15 hqd, iI_mod15 hqi, if_neg (by rw [iI_le] <;> omega), if_pos (by rw [iI_le] <;> omega)]
    rw [body, Option.bind_some, li_3, iI_add]
    have e3 : ((3 * i + j : Nat) : Int) + 3 = ((3 * (i + 1) + j : Nat) : Int) := by omega
    rw [e3]
    exact hz
/-- over the days -/
theorem L_week {M : Mem} (hA : Ar M E B 21) {j : Nat} (hj : j ≤ 2) : ∀ (r fu d : Nat), d + r = 7 → r < fu → ∃ z, L_L_weekOf_11 M (iI (j : Int)) fu (iI (sd (qm E B j) d : Nat)) (iI (sd (shq (qm E B j)) d : Nat)) 1 (iI ((3 * d + j : Nat) : Int)) = some (iI (sd (qm E B j) 7 : Nat), iI (sd (shq (qm E B j)) 7 : Nat), 1, z) := by
  have hq := qm_le E B j
  intro r
  induction r with
  | zero =>
    intro fu d hd hf
    have e : d = 7 := by omega
    subst e
    obtain ⟨f, rfl⟩ : ∃ f, fu = f + 1 := ⟨fu - 1, by omega⟩
    refine ⟨iI ((3 * 7 + j : Nat) : Int), ?_⟩
    rw [L_L_weekOf_11, if_pos (by rw [li_21, iI_le] <;> omega)]
  | succ r ih =>
    intro fu d hd hf
    obtain ⟨f, rfl⟩ : ∃ f, fu = f + 1 := ⟨fu - 1, by omega⟩
    obtain ⟨z, hz⟩ := ih f (d + 1) (by omega) (by omega)
    refine ⟨z, ?_⟩
    obtain ⟨ad, sd'⟩ := hA.at (d := d) hj (by omega)
    obtain ⟨w, hw⟩ := L_pairs hA (d := d) hj (by omega) d FU 0 (by omega) (by rw [FU_0]; omega)
    have hm := mr_le (qm E B j) d
    have hqd := hq d
    rw [L_L_weekOf_11, if_neg (by rw [li_21, iI_le] <;> omega), sd', Option.bind_some, ad, Option.bind_some]
    unfold bnd
    dsimp only
    rw [i_more hq d, if_neg (show ¬ (1 : Int32) = 0 by decide)]
    have body : (if iI ((mr (qm E B j) d : Nat) : Int) = 0 then some (1 : Int32) else if iI ((mr (qm E B j) d : Nat) : Int) = 1 then (some (iI ((qm E B j d : Nat) : Int))).bind fun v9 => if (v9 - v9 / 15 * 15) ≤ 0 then some 0 else some 1 else some 0) = some 1 := by
      by_cases c : mr (qm E B j) d = 0
      · rw [if_pos (by rw [c]; rfl)]
      · have c1 : mr (qm E B j) d = 1 := by omega
        have k := mr_1 c1
        rw [c1, if_neg (by decide +kernel), if_pos (by decide +kernel), Option.bind_some, iI_mod15 hqd, if_neg (by rw [li_0, iI_le] <;> omega)]
    have hw' : L_L_weekOf_84 M (iI ((3 * d + j : Nat) : Int)) (iI (mr (qm E B j) d : Nat)) FU 1 (iI (j : Int)) = some (1, w) := by
      rw [show 3 * 0 + j = j by omega] at hw
      exact hw
    rw [body, Option.bind_some, Option.bind_some, Option.bind_some, hw', Option.bind_some, iI_add, iI_add, li_3, iI_add]
    have e1 : ((sd (qm E B j) d : Nat) : Int) + ((qm E B j d : Nat) : Int) = ((sd (qm E B j) (d + 1) : Nat) : Int) := by rw [sd]; omega
    have e2 : ((sd (shq (qm E B j)) d : Nat) : Int) + ((shq (qm E B j) d : Nat) : Int) = ((sd (shq (qm E B j)) (d + 1) : Nat) : Int) := by rw [sd]; omega
    have e3 : ((3 * d + j : Nat) : Int) + 3 = ((3 * (d + 1) + j : Nat) : Int) := by omega
    rw [e1, e2, e3]
    exact hz
theorem X_week {M : Mem} (hA : Ar M E B 21) {j : Nat} (hj : j ≤ 2) : s_L_weekOf M (iI (j : Int)) = some (iI (wq (qm E B j) : Nat)) := by
  obtain ⟨z, hz⟩ := L_week hA hj 7 FU 0 (by omega) (by rw [FU_0]; omega)
  rw [show 3 * 0 + j = j by omega] at hz
  have hz' : L_L_weekOf_11 M (iI (j : Int)) FU 0 0 1 (iI (j : Int)) = some (iI (sd (qm E B j) 7 : Nat), iI (sd (shq (qm E B j)) 7 : Nat), 1, z) := hz
  have hs := sd_le (qm_le E B j) 7
  have hn := wq_near (qm E B j)
  have hw : wq (qm E B j) ≤ 4705 := by omega
  unfold s_L_weekOf
  rw [hz', Option.bind_some]
  unfold bnd
  dsimp only
  rw [sd_wq, li_15, iI_mul, iI_sub, if_neg (show ¬ (1 : Int32) = 0 by decide), li_7, if_neg (by rw [iI_lt] <;> omega), iI_neg, if_neg (by rw [iI_lt] <;> omega)]
theorem day_facts (d : Nat) (hd : d < 7) : qm E B 0 d + qm E B 1 d + qm E B 2 d ≤ won E B d ∧ won E B d ≤ 1440 ∧ qm E B 0 d ≤ 480 ∧ qm E B 0 d + qm E B 1 d ≤ 720 := by
  obtain ⟨h1, h2, h3⟩ := kc_day (PP E B) (FF E B) d 10080
  have h4 := ct_mono (p := PP E B) (w := WW E B) (fun m h => pd_w m h) (d * 1440) ((d + 1) * 1440) 10080
  have h5 := ct_b (WW E B) (d * 1440) ((d + 1) * 1440) 10080
  refine ⟨?_, ?_, h2, h3⟩
  · show kc _ _ _ _ _ + kc _ _ _ _ _ + kc _ _ _ _ _ ≤ ct _ _ _ _
    omega
  · show ct _ _ _ _ ≤ 1440
    omega
theorem L_paid : ∀ (r fu d : Nat) (M : Mem), d + r = 7 → r < fu → St M E B pn pr x y → Ar M E B 21 → ∃ z M', L_L_isPaid_108 1 fu 1 (iI (d : Int)) M = some (1, z, M') ∧ St M' E B pn pr x y := by
  intro r
  induction r with
  | zero =>
    intro fu d M hd hf h hA
    have e : d = 7 := by omega
    subst e
    obtain ⟨f, rfl⟩ : ∃ f, fu = f + 1 := ⟨fu - 1, by omega⟩
    refine ⟨iI ((7 : Nat) : Int), M, ?_, h⟩
    rw [L_L_isPaid_108, if_pos (by rw [li_7, iI_le] <;> omega)]
  | succ r ih =>
    intro fu d M hd hf h hA
    obtain ⟨f, rfl⟩ : ∃ f, fu = f + 1 := ⟨fu - 1, by omega⟩
    obtain ⟨M1, a1, f1⟩ := q_workedOn h (d := d) (by omega)
    have hA1 := hA.fq f1
    obtain ⟨z, M', b1, b2⟩ := ih f (d + 1) M1 (by omega) (by omega) (h.fq f1) hA1
    refine ⟨z, M', ?_, b2⟩
    obtain ⟨k1, k2, k3, k4⟩ := day_facts (E := E) (B := B) d (by omega)
    obtain ⟨m0, -⟩ := hA1.at (j := 0) (d := d) (by omega) (by omega)
    obtain ⟨m1, -⟩ := hA1.at (j := 1) (d := d) (by omega) (by omega)
    obtain ⟨m2, -⟩ := hA1.at (j := 2) (d := d) (by omega) (by omega)
    have i0 : (3 : Int32) * iI (d : Int) = iI ((3 * d + 0 : Nat) : Int) := by rw [li_3, iI_mul]; exact congrArg iI (by omega)
    have i1 : iI ((3 * d + 0 : Nat) : Int) + 1 = iI ((3 * d + 1 : Nat) : Int) := by rw [li_1, iI_add]; exact congrArg iI (by omega)
    have i2 : iI ((3 * d + 0 : Nat) : Int) + 2 = iI ((3 * d + 2 : Nat) : Int) := by rw [li_2, iI_add]; exact congrArg iI (by omega)
    rw [L_L_isPaid_108, if_neg (by rw [li_7, iI_le] <;> omega), a1, Option.bind_some, if_neg (not_not_intro rfl)]
    dsimp only
    rw [i0, i1, i2, m0, Option.bind_some, m1, Option.bind_some, iI_add]
    unfold bnd
    dsimp only
    rw [if_neg (show ¬ (1 : Int32) = 0 by decide), m2, Option.bind_some, iI_add, if_neg (by rw [iI_lt] <;> omega), li_1440, if_neg (by rw [iI_lt] <;> omega), Option.bind_some, li_480, if_neg (by rw [iI_lt] <;> omega), li_720, if_neg (by rw [iI_lt] <;> omega), Option.bind_some, li_1, iI_add]
    exact b1
theorem X_isPaid {M : Mem} (h : St M E B pn pr x y) {x4 : Int32} (hx : x4 = 0 → pn = 0) : ∃ M', s_L_isPaid M 1 x x4 = some (1, M') ∧ St M' E B pn pr x y := by
  obtain ⟨M1, a1, h1, hA1⟩ := X_reads h
  obtain ⟨M2, a2, f2⟩ := q_premiumPay h1
  have h2 := h1.fq f2
  obtain ⟨M3, a3, f3⟩ := q_pay h2
  have h3 := h2.fq f3
  obtain ⟨z, M', b1, b2⟩ := L_paid 7 FU 0 M3 (by omega) (by rw [FU_0]; omega) h3 ((hA1.fq f2).fq f3)
  have b1' : L_L_isPaid_108 1 FU 1 0 M3 = some (1, z, M') := b1
  refine ⟨M', ?_, b2⟩
  have w0 : s_L_weekOf M1 0 = some (iI (wq (qm E B 0) : Nat)) := X_week hA1 (j := 0) (by omega)
  have w1 : s_L_weekOf M1 1 = some (iI (wq (qm E B 1) : Nat)) := X_week hA1 (j := 1) (by omega)
  have w2 : s_L_weekOf M1 2 = some (iI (wq (qm E B 2) : Nat)) := X_week hA1 (j := 2) (by omega)
  have n : ∀ j, ¬ iI ((wq (qm E B j) : Nat) : Int) < 0 := fun j => by
    have hs := sd_le (qm_le E B j) 7
    have hn := wq_near (qm E B j)
    rw [li_0, iI_lt] <;> omega
  unfold s_L_isPaid
  rw [a1, Option.bind_some, w0, Option.bind_some, w1, Option.bind_some, w2, Option.bind_some]
  unfold bnd
  dsimp only
  rw [a2, Option.bind_some, if_neg (not_not_intro rfl), if_neg (n 0), if_neg (n 1), if_neg (n 2)]
  dsimp only
  rw [a3, Option.bind_some, if_neg (not_not_intro rfl)]
  dsimp only
  rw [if_pos (show bas x E B + xtr pn pr E B = (x * (2 * iI (wq (qm E B 0) : Nat) + 3 * iI (wq (qm E B 1) : Nat) + 4 * iI (wq (qm E B 2) : Nat)) + 4) / 8 + xtr pn pr E B from rfl)]
  have hlast : (if x4 = 0 then if xtr pn pr E B = 0 then some ((1 : Int32), M3) else some (0, M3) else some (1, M3)) = some (1, M3) := by
    by_cases c : x4 = 0
    · have e := hx c
      subst e
      rw [if_pos c, if_pos (xtr_free pr E B)]
    · rw [if_neg c]
  rw [hlast, Option.bind_some]
  dsimp only
  rw [b1', Option.bind_some]
  rfl
end

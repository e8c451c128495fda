/-! punches: where a time belongs -/
theorem pn_lt {n : Nat} {tm : Nat → Nat} (h : PnOK n tm) {i : Nat} : ∀ j, i < j → j < n → tm i < tm j
  | 0, h1, _ => by omega
  | j + 1, h1, h2 => by
    have h3 := h.2.1 j h2
    by_cases c : i = j
    · rw [c]; exact h3
    · have := pn_lt h (i := i) j (by omega) (by omega)
      omega
def Pl (n : Nat) (tm : Nat → Nat) (x : Int) (P : Nat) : Prop := P ≤ n ∧ (∀ i, i < P → (tm i : Int) < x) ∧ ∀ i, P ≤ i → i < n → x ≤ (tm i : Int)
theorem Pl.uq {n : Nat} {tm : Nat → Nat} {x : Int} {P Q : Nat} (h : Pl n tm x P) (h' : Pl n tm x Q) : P = Q := by
  obtain ⟨a1, a2, a3⟩ := h
  obtain ⟨b1, b2, b3⟩ := h'
  rcases Nat.lt_trichotomy P Q with c | c | c
  · have := b2 P c
    have := a3 P (Nat.le_refl P) (by omega)
    omega
  · exact c
  · have := a2 Q c
    have := b3 Q (Nat.le_refl Q) (by omega)
    omega
theorem L_plc {M : Mem} {t n : Nat} {tm : Nat → Nat} {inn : Nat → Bool} (h : Tb M t n (pnf tm inn)) (hp : PnOK n tm) {x : Int} (hx : -2147483648 ≤ x ∧ x < 2147483648) : ∀ (r fu k a : Nat), k + r = n → r < fu → a ≤ k → (∀ i, i < a → (tm i : Int) < x) → (∀ i, a ≤ i → i < k → x ≤ (tm i : Int)) → ∃ (P : Nat) (y : Int32), L_X6_placeOfPunch_4 M t (iI x) fu (iI a) (iI k) = some (iI (P : Int), y) ∧ Pl n tm x P := by
  have hn := hp.1
  intro r
  induction r with
  | zero =>
    intro fu k a hk hf ha h1 h2
    cases fu with
    | zero => omega
    | succ fu =>
      refine ⟨a, iI (k : Int), ?_, by omega, h1, fun i i1 i2 => h2 i i1 (by omega)⟩
      rw [L_X6_placeOfPunch_4, X4_sz h, Option.bind_some, if_pos (by rw [iI_le] <;> omega)]
  | succ r ih =>
    intro fu k a hk hf ha h1 h2
    cases fu with
    | zero => omega
    | succ fu =>
      have hb := hp.2.2 k (by omega)
      have r4 : s_X4_get M t (iI k) 0 = some (iI (tm k : Nat)) := X4_get h (i := k) (by omega) (c := 0) (by rcases wd_c t with e | e | e <;> omega)
      have e1 : iI (k : Int) + 1 = iI ((k + 1 : Nat) : Int) := by rw [li_1, iI_add]; rfl
      have st : L_X6_placeOfPunch_4 M t (iI x) (fu + 1) (iI a) (iI k) = L_X6_placeOfPunch_4 M t (iI x) fu (if iI x ≤ iI (tm k : Nat) then iI a else iI ((k + 1 : Nat) : Int)) (iI ((k + 1 : Nat) : Int)) := by
        rw [L_X6_placeOfPunch_4, X4_sz h, Option.bind_some, if_neg (by rw [iI_le] <;> omega), r4, Option.bind_some]
        unfold bnd
        rw [e1]
      rw [st]
      by_cases c : x ≤ (tm k : Int)
      · rw [if_pos (by rw [iI_le] <;> omega)]
        exact ih fu (k + 1) a (by omega) (by omega) (by omega) h1 (fun i i1 i2 => by
          by_cases d : i = k
          · rw [d]; exact c
          · exact h2 i i1 (by omega))
      · rw [if_neg (by rw [iI_le] <;> omega)]
        exact ih fu (k + 1) (k + 1) (by omega) (by omega) (by omega) (fun i i1 => by
          by_cases d : i = k
          · rw [d]; omega
          · have := pn_lt hp (i := i) k (by omega) (by omega)
            omega) (fun i i1 i2 => by omega)
theorem X6_place {M : Mem} {t n : Nat} {tm : Nat → Nat} {inn : Nat → Bool} (h : Tb M t n (pnf tm inn)) (hp : PnOK n tm) {x : Int} (hx : -2147483648 ≤ x ∧ x < 2147483648) : ∃ P : Nat, s_X6_placeOfPunch M t (iI x) = some (iI (P : Int)) ∧ Pl n tm x P := by
  obtain ⟨P, y, a1, a2⟩ := L_plc h hp hx n FU 0 0 (by omega) (by have := hp.1; rw [FU_0]; omega) (by omega) (fun i hi => by omega) (fun i _ hi => by omega)
  refine ⟨P, ?_, a2⟩
  have a1' : L_X6_placeOfPunch_4 M t (iI x) FU 0 0 = some (iI (P : Int), y) := a1
  unfold s_X6_placeOfPunch
  rw [a1']
  rfl
theorem L_plm {M : Mem} {e n : Nat} {tm : Nat → Nat} {inn : Nat → Bool} (he : e < 6) (hp : PnOK n tm) (h : PnM M e n tm inn) {x : Int} (hx : -2147483648 ≤ x ∧ x < 2147483648) : ∀ (r fu k : Nat), k + r = n → r < fu → (∀ i, i < k → (tm i : Int) < x) → ∃ P : Nat, L_X7_placeOf_2 M (iI e) (iI x) fu (iI k) = some (iI (P : Int)) ∧ Pl n tm x P := by
  have hn := hp.1
  intro r
  induction r with
  | zero =>
    intro fu k hk hf h1
    cases fu with
    | zero => omega
    | succ fu =>
      refine ⟨k, ?_, by omega, h1, fun i i1 i2 => by omega⟩
      rw [L_X7_placeOf_2, mrd_i (by omega) (by omega), Int.toNat_natCast, h.1, Option.bind_some, if_pos (by rw [iI_le] <;> omega)]
  | succ r ih =>
    intro fu k hk hf h1
    cases fu with
    | zero => omega
    | succ fu =>
      have hb := hp.2.2 k (by omega)
      have e1 : iI (k : Int) + 1 = iI ((k + 1 : Nat) : Int) := by rw [li_1, iI_add]; rfl
      have eix : 41 * iI (e : Int) + iI (k : Int) = iI ((41 * e + k : Nat) : Int) := by
        rw [li_41, iI_mul, iI_add]; exact congrArg iI (by omega)
      have st : L_X7_placeOf_2 M (iI e) (iI x) (fu + 1) (iI k) = if iI x ≤ iI (tm k : Nat) then some (iI (k : Int)) else L_X7_placeOf_2 M (iI e) (iI x) fu (iI ((k + 1 : Nat) : Int)) := by
        rw [L_X7_placeOf_2, mrd_i (by omega) (by omega), Int.toNat_natCast, h.1, Option.bind_some, if_neg (by rw [iI_le] <;> omega), eix, mrd_i (by omega) (by omega), Int.toNat_natCast, (h.2 k (by omega)).1, Option.bind_some]
        unfold bnd
        rw [e1]
      rw [st]
      by_cases c : x ≤ (tm k : Int)
      · rw [if_pos (by rw [iI_le] <;> omega)]
        refine ⟨k, rfl, by omega, h1, fun i i1 i2 => ?_⟩
        by_cases d : i = k
        · rw [d]; exact c
        · have := pn_lt hp (i := k) i (by omega) (by omega)
          omega
      · rw [if_neg (by rw [iI_le] <;> omega)]
        exact ih fu (k + 1) (by omega) (by omega) (fun i i1 => by
          by_cases d : i = k
          · rw [d]; omega
          · exact h1 i (by omega))
theorem X7_place {M : Mem} {e n : Nat} {tm : Nat → Nat} {inn : Nat → Bool} (he : e < 6) (hp : PnOK n tm) (h : PnM M e n tm inn) {x : Int} (hx : -2147483648 ≤ x ∧ x < 2147483648) {P : Nat} (hP : Pl n tm x P) : s_X7_placeOf M (iI e) (iI x) = some (iI (P : Int)) := by
  obtain ⟨Q, a1, a2⟩ := L_plm he hp h hx n FU 0 (by omega) (by have := hp.1; rw [FU_0]; omega) (fun i hi => by omega)
  have a1' : L_X7_placeOf_2 M (iI e) (iI x) FU 0 = some (iI (Q : Int)) := a1
  unfold s_X7_placeOf
  rw [a1', a2.uq hP]
  rfl
theorem X6_isAt {M : Mem} {t n : Nat} {tm : Nat → Nat} {inn : Nat → Bool} (h : Tb M t n (pnf tm inn)) (hp : PnOK n tm) {x : Int} (hx : -2147483648 ≤ x ∧ x < 2147483648) {P : Nat} (hP : P ≤ n) : s_X6_isPunchAt M t (iI P) (iI x) = some (bI (decide (P < n ∧ (tm P : Int) = x))) := by
  have hn := hp.1
  unfold s_X6_isPunchAt
  rw [X4_sz h, Option.bind_some]
  by_cases c : P < n
  · have hb := hp.2.2 P c
    have r4 : s_X4_get M t (iI P) 0 = some (iI (tm P : Nat)) := X4_get h c (c := 0) (by rcases wd_c t with e | e | e <;> omega)
    rw [if_neg (by rw [iI_le] <;> omega), r4, Option.bind_some]
    by_cases d : (tm P : Int) = x
    · rw [if_pos (by rw [iI_eq] <;> omega), decide_eq_true ⟨c, d⟩]; rfl
    · rw [if_neg (by rw [iI_eq] <;> omega), decide_eq_false (fun z => d z.2)]; rfl
  · rw [if_pos (by rw [iI_le] <;> omega), decide_eq_false (fun z => c z.1)]; rfl
theorem X7_hasP {M : Mem} {e n : Nat} {tm : Nat → Nat} {inn : Nat → Bool} (he : e < 6) (hp : PnOK n tm) (h : PnM M e n tm inn) {x : Int} (hx : -2147483648 ≤ x ∧ x < 2147483648) {P : Nat} (hP : Pl n tm x P) : s_X7_hasPunch M (iI e) (iI x) = some (bI (decide (P < n ∧ (tm P : Int) = x))) := by
  have hn := hp.1
  have hPn := hP.1
  have eix : 41 * iI (e : Int) + iI (P : Int) = iI ((41 * e + P : Nat) : Int) := by
    rw [li_41, iI_mul, iI_add]; exact congrArg iI (by omega)
  unfold s_X7_hasPunch
  rw [X7_place he hp h hx hP, Option.bind_some, mrd_i (by omega) (by omega), Int.toNat_natCast, h.1, Option.bind_some]
  by_cases c : P < n
  · have hb := hp.2.2 P c
    rw [if_neg (by rw [iI_le] <;> omega), eix, mrd_i (by omega) (by omega), Int.toNat_natCast, (h.2 P c).1, Option.bind_some]
    by_cases d : (tm P : Int) = x
    · rw [if_pos (by rw [iI_eq] <;> omega), decide_eq_true ⟨c, d⟩]; rfl
    · rw [if_neg (by rw [iI_eq] <;> omega), decide_eq_false (fun z => d z.2)]; rfl
  · rw [if_pos (by rw [iI_le] <;> omega), decide_eq_false (fun z => c z.1)]; rfl
theorem nar_b (b : Bool) : vp_nar .boolean (bI b) = bI b := by cases b <;> rfl
theorem bI_iI (b : Bool) : bI b = iI (if b = true then 1 else 0) := by cases b <;> rfl
/-! a punch put in -/
def iT (P t : Nat) (tm : Nat → Nat) (i : Nat) : Nat := if i < P then tm i else if i = P then t else tm (i - 1)
def iB (P : Nat) (b : Bool) (inn : Nat → Bool) (i : Nat) : Bool := if i < P then inn i else if i = P then b else inn (i - 1)
theorem PnOK.ins {n : Nat} {tm : Nat → Nat} (h : PnOK n tm) {t P : Nat} (ht : t ≤ 10080) (hn : n < 40) (hP : Pl n tm (t : Int) P) (hno : ¬ (P < n ∧ (tm P : Int) = (t : Int))) : PnOK (n + 1) (iT P t tm) := by
  obtain ⟨p1, p2, p3⟩ := hP
  refine ⟨by omega, fun i hi => ?_, fun i hi => ?_⟩
  · unfold iT
    by_cases c1 : i + 1 < P
    · rw [if_pos (by omega), if_pos c1]; exact h.2.1 i (by omega)
    · by_cases c2 : i + 1 = P
      · rw [if_pos (by omega), if_neg c1, if_pos c2]
        have := p2 i (by omega)
        omega
      · by_cases c3 : i = P
        · rw [if_neg (by omega), if_pos c3, if_neg c1, if_neg c2, show i + 1 - 1 = P by omega]
          have := p3 P (Nat.le_refl P) (by omega)
          omega
        · rw [if_neg (by omega), if_neg c3, if_neg c1, if_neg c2, show i + 1 - 1 = (i - 1) + 1 by omega]
          exact h.2.1 (i - 1) (by omega)
  · unfold iT
    by_cases c1 : i < P
    · rw [if_pos c1]; exact h.2.2 i (by omega)
    · by_cases c2 : i = P
      · rw [if_neg c1, if_pos c2]; exact ht
      · rw [if_neg c1, if_neg c2]; exact h.2.2 (i - 1) (by omega)
theorem X6_ins {M : Mem} {e n : Nat} {tm : Nat → Nat} {inn : Nat → Bool} (h : Tb M (46 + 7 * e + 1) n (pnf tm inn)) (hn : n < 40) {P : Nat} (hP : P ≤ n) (t : Nat) (b : Bool) : ∃ M1 M2 M3, s_X4_insert M (46 + 7 * e + 1) (iI P) = some M1 ∧ s_X4_set M1 (46 + 7 * e + 1) (iI P) 0 (iI t) = some M2 ∧ s_X4_set M2 (46 + 7 * e + 1) (iI P) 1 (bI b) = some M3 ∧ Tb M3 (46 + 7 * e + 1) (n + 1) (pnf (iT P t tm) (iB P b inn)) ∧ Fr (46 + 7 * e + 1) M M3 := by
  have hw : wd (46 + 7 * e + 1) = 2 := wd_big (by omega)
  have hl := tl_1 e
  obtain ⟨M1, g1, a1, a2, a3, a4⟩ := X4_insert h hP (by rw [hw, hl]; omega)
  obtain ⟨M2, b1, b2, b3⟩ := X4_set a2 (i := P) (c := 0) (by omega) (by rw [hw]; omega) (t : Int)
  obtain ⟨M3, c1, c2, c3⟩ := X4_set b2 (i := P) (c := 1) (by omega) (by rw [hw]; omega) (if b = true then 1 else 0)
  refine ⟨M1, M2, M3, a1, b1, by rw [bI_iI]; exact c1, c2.ext (fun i c hi hc => ?_), (a4.tr b3).tr c3⟩
  rw [hw] at hc
  by_cases d : i = P
  · have qT : iT P t tm i = t := (if_neg (show ¬ i < P by omega)).trans (if_pos d)
    have qB : iB P b inn i = b := (if_neg (show ¬ i < P by omega)).trans (if_pos d)
    unfold pnf
    rw [qT, qB]
    by_cases d0 : c = 0
    · rw [if_neg (show ¬ (i = P ∧ c = 1) by omega), if_pos (show i = P ∧ c = 0 from ⟨d, d0⟩), if_pos d0]
    · rw [if_pos (show i = P ∧ c = 1 by omega), if_neg d0]
  · rw [if_neg (show ¬ (i = P ∧ c = 1) from fun z => d z.1), if_neg (show ¬ (i = P ∧ c = 0) from fun z => d z.1), a3 i c hi d (by rw [hw]; exact hc)]
    by_cases d1 : i < P
    · have qT : iT P t tm i = tm i := if_pos d1
      have qB : iB P b inn i = inn i := if_pos d1
      unfold pnf
      rw [qT, qB, if_pos d1]
    · have qT : iT P t tm i = tm (i - 1) := (if_neg d1).trans (if_neg d)
      have qB : iB P b inn i = inn (i - 1) := (if_neg d1).trans (if_neg d)
      unfold pnf
      rw [qT, qB, if_neg d1]
theorem L_pin {e P : Nat} (he : e < 6) : ∀ (r fu y : Nat) (M : Mem), y = P + r → y ≤ 40 → r < fu → (∀ j, P ≤ j → j < y → vp_nar .boolean (M 7 (41 * e + j)) = M 7 (41 * e + j)) → ∃ z M', L_X7_punch_81 (iI e) (iI P) fu (iI y) M = some (z, M') ∧ (∀ k, k ≠ 6 → k ≠ 7 → M' k = M k) ∧ (∀ j, M' 6 j = if 41 * e + P + 1 ≤ j ∧ j ≤ 41 * e + y then M 6 (j - 1) else M 6 j) ∧ ∀ j, M' 7 j = if 41 * e + P + 1 ≤ j ∧ j ≤ 41 * e + y then M 7 (j - 1) else M 7 j := by
  intro r
  induction r with
  | zero =>
    intro fu y M hy h40 hf hB
    cases fu with
    | zero => omega
    | succ fu =>
      refine ⟨iI (y : Int), M, ?_, fun _ _ _ => rfl, fun j => by rw [if_neg (by omega)], fun j => by rw [if_neg (by omega)]⟩
      rw [L_X7_punch_81, if_pos (by rw [iI_le] <;> omega)]
  | succ r ih =>
    intro fu y M hy h40 hf hB
    cases fu with
    | zero => omega
    | succ fu =>
      obtain ⟨M1, g1⟩ : ∃ M1, M1 = mst M 6 (41 * e + y) (M 6 (41 * e + y - 1)) := ⟨_, rfl⟩
      obtain ⟨M2, g2⟩ : ∃ M2, M2 = mst M1 7 (41 * e + y) (M 7 (41 * e + y - 1)) := ⟨_, rfl⟩
      have v6 : ∀ j, M2 6 j = if j = 41 * e + y then M 6 (41 * e + y - 1) else M 6 j := fun j => by rw [g2, mst_k _ _ _ _ (by omega), g1, mst_a, if_pos rfl]
      have v7 : ∀ j, M2 7 j = if j = 41 * e + y then M 7 (41 * e + y - 1) else M 7 j := fun j => by rw [g2, mst_a, if_pos rfl, g1, mst_k _ _ _ _ (by omega)]
      obtain ⟨z, M', i1, i2, i3, i4⟩ := ih fu (y - 1) M2 (by omega) (by omega) (by omega) (fun j j1 j2 => by rw [v7, if_neg (by omega)]; exact hB j j1 (by omega))
      refine ⟨z, M', ?_, fun k k1 k2 => by rw [i2 k k1 k2, g2, mst_k _ _ _ _ k2, g1, mst_k _ _ _ _ k1], fun j => ?_, fun j => ?_⟩
      · have eix : 41 * iI (e : Int) + iI (y : Int) = iI ((41 * e + y : Nat) : Int) := by
          rw [li_41, iI_mul, iI_add]; exact congrArg iI (by omega)
        have ei1 : iI ((41 * e + y : Nat) : Int) - 1 = iI ((41 * e + y - 1 : Nat) : Int) := by
          rw [li_1, iI_sub]; exact congrArg iI (by omega)
        have ey : iI (y : Int) + (-1) = iI ((y - 1 : Nat) : Int) := by
          rw [li_m, iI_add]; exact congrArg iI (by omega)
        have m7 : M1 7 (41 * e + y - 1) = M 7 (41 * e + y - 1) := by rw [g1, mst_k _ _ _ _ (by omega)]
        have hb := hB (y - 1) (by omega) (by omega)
        rw [show 41 * e + (y - 1) = 41 * e + y - 1 by omega] at hb
        rw [← i1, L_X7_punch_81, if_neg (by rw [iI_le] <;> omega), eix, ei1, mrd_i (by omega) (by omega), Int.toNat_natCast, Option.bind_some, mwr_i (by omega) (by omega), Int.toNat_natCast, ← g1, Option.bind_some, mrd_i (by omega) (by omega), Int.toNat_natCast, m7, Option.bind_some, hb, mwr_i (by omega) (by omega), Int.toNat_natCast, ← g2, Option.bind_some]
        unfold bnd
        rw [ey]
      · rw [i3]
        by_cases d : 41 * e + P + 1 ≤ j ∧ j ≤ 41 * e + (y - 1)
        · rw [if_pos d, if_pos (by omega), v6, if_neg (by omega)]
        · rw [if_neg d, v6]
          by_cases d2 : j = 41 * e + y
          · rw [if_pos d2, if_pos (by omega), d2]
          · rw [if_neg d2, if_neg (by omega)]
      · rw [i4]
        by_cases d : 41 * e + P + 1 ≤ j ∧ j ≤ 41 * e + (y - 1)
        · rw [if_pos d, if_pos (by omega), v7, if_neg (by omega)]
        · rw [if_neg d, v7]
          by_cases d2 : j = 41 * e + y
          · rw [if_pos d2, if_pos (by omega), d2]
          · rw [if_neg d2, if_neg (by omega)]
/-- only the punches of the employee e in the model's arrays have changed -/
def Fu (e : Nat) (M M' : Mem) : Prop := (∀ k, k ≠ 1 → k ≠ 5 → k ≠ 6 → k ≠ 7 → M' k = M k) ∧ (∀ j, j ≠ 0 → M' 1 j = M 1 j) ∧ (∀ j, j ≠ e → M' 5 j = M 5 j) ∧ ∀ k j, k = 6 ∨ k = 7 → j < 41 * e ∨ 41 * e + 41 ≤ j → M' k j = M k j
theorem Fu.fe {e : Nat} {M M' : Mem} (h : Fu e M M') : Fe e M M' := by
  obtain ⟨h1, h2, h3, h4⟩ := h
  refine ⟨h2 1 (by omega), h2 14 (by omega), fun k hk => h1 k (by omega) (by omega) (by omega) (by omega), fun k j hk hj => ?_, h4, fun k j hk hj => by rw [h1 k (by omega) (by omega) (by omega) (by omega)]⟩
  by_cases c1 : k = 5
  · rw [c1, h3 j hj]
  · rw [h1 k (by omega) c1 (by omega) (by omega)]
theorem X7_punch_ok {M : Mem} {e n : Nat} {tm : Nat → Nat} {inn : Nat → Bool} (he : e < 6) (hp : PnOK n tm) (h : PnM M e n tm inn) (h1 : s_X7_isOne M (iI e) = some 1) (hn : n < 40) {t P : Nat} (ht : t ≤ 10080) (hP : Pl n tm (t : Int) P) (hno : ¬ (P < n ∧ (tm P : Int) = (t : Int))) (hin : s_X7_in (iI (t : Int)) 0 10080 = some 1) (b : Bool) : ∃ M', s_X7_punch M (iI e) (iI t) (bI b) = some (iI ((n + 1 : Nat) : Int), M') ∧ PnM M' e (n + 1) (iT P t tm) (iB P b inn) ∧ M' 1 0 = 0 ∧ Fu e M M' := by
  have hPn := hP.1
  obtain ⟨M7, g7⟩ : ∃ M7, M7 = mst M 1 0 0 := ⟨_, rfl⟩
  have f7 : ∀ k, k ≠ 1 → M7 k = M k := fun k hk => by rw [g7, mst_k _ _ _ _ hk]
  have h7 : PnM M7 e n tm inn := ⟨by rw [f7 5 (by omega)]; exact h.1, fun k hk => by rw [f7 6 (by omega), f7 7 (by omega)]; exact h.2 k hk⟩
  obtain ⟨z, Ml, i1, i2, i3, i4⟩ := L_pin (P := P) he (n - P) FU n M7 (by omega) (by omega) (by rw [FU_0]; omega) (fun j _ hj => by rw [(h7.2 j hj).2, nar_b])
  obtain ⟨M18, g18⟩ : ∃ M18, M18 = mst Ml 6 (41 * e + P) (iI (t : Int)) := ⟨_, rfl⟩
  obtain ⟨M19, g19⟩ : ∃ M19, M19 = mst M18 7 (41 * e + P) (bI b) := ⟨_, rfl⟩
  obtain ⟨M21, g21⟩ : ∃ M21, M21 = mst M19 5 e (iI ((n + 1 : Nat) : Int)) := ⟨_, rfl⟩
  have w5 : ∀ j, M21 5 j = if j = e then iI ((n + 1 : Nat) : Int) else M 5 j := fun j => by
    rw [g21, mst_a, if_pos rfl, g19, mst_k _ _ _ _ (by omega), g18, mst_k _ _ _ _ (by omega), i2 5 (by omega) (by omega), f7 5 (by omega)]
  have w6 : ∀ j, M21 6 j = if j = 41 * e + P then iI (t : Int) else if 41 * e + P + 1 ≤ j ∧ j ≤ 41 * e + n then M 6 (j - 1) else M 6 j := fun j => by
    rw [g21, mst_k _ _ _ _ (by omega), g19, mst_k _ _ _ _ (by omega), g18, mst_a, if_pos rfl, i3, f7 6 (by omega)]
  have w7 : ∀ j, M21 7 j = if j = 41 * e + P then bI b else if 41 * e + P + 1 ≤ j ∧ j ≤ 41 * e + n then M 7 (j - 1) else M 7 j := fun j => by
    rw [g21, mst_k _ _ _ _ (by omega), g19, mst_a, if_pos rfl, g18, mst_k _ _ _ _ (by omega), i4, f7 7 (by omega)]
  have w1 : M21 1 = M7 1 := by rw [g21, mst_k _ _ _ _ (by omega), g19, mst_k _ _ _ _ (by omega), g18, mst_k _ _ _ _ (by omega), i2 1 (by omega) (by omega)]
  refine ⟨M21, ?_, ⟨by rw [w5, if_pos rfl], fun k hk => ?_⟩, by rw [w1, g7, thr], fun k k1 k2 k3 k4 => ?_, fun j hj => by rw [w1, g7, mst_a, if_pos rfl, if_neg hj], fun j hj => by rw [w5, if_neg hj], fun k j hk hj => ?_⟩
  · have eix : 41 * iI (e : Int) + iI (P : Int) = iI ((41 * e + P : Nat) : Int) := by
      rw [li_41, iI_mul, iI_add]; exact congrArg iI (by omega)
    have c19 : M19 5 e = iI (n : Int) := by rw [g19, mst_k _ _ _ _ (by omega), g18, mst_k _ _ _ _ (by omega), i2 5 (by omega) (by omega)]; exact h7.1
    have e21 : mst M19 5 e (iI (n : Int) + 1) = M21 := by rw [g21, li_1, iI_add]; rfl
    unfold s_X7_punch bnd
    rw [h1, Option.bind_some, if_neg (show ¬ (1 : Int32) = 0 by decide), hin, Option.bind_some, if_neg (show ¬ (1 : Int32) = 0 by decide), X7_hasP he hp h (by omega) hP, Option.bind_some, decide_eq_false hno, if_pos (show bI false = 0 from rfl), mrd_i (by omega) (by omega), Int.toNat_natCast, h.1, Option.bind_some, if_neg (by rw [li_40, iI_eq] <;> omega), Option.bind_some]
    dsimp only
    rw [thr, if_pos (by decide), ← g7, X7_place he hp h7 (by omega) hP, Option.bind_some, mrd_i (by omega) (by omega), Int.toNat_natCast, h7.1, Option.bind_some, i1, Option.bind_some]
    dsimp only
    rw [eix, mwr_i (by omega) (by omega), Int.toNat_natCast, ← g18, Option.bind_some, nar_b, mwr_i (by omega) (by omega), Int.toNat_natCast, ← g19, Option.bind_some, mrd_i (by omega) (by omega), Int.toNat_natCast, c19, Option.bind_some, mwr_i (by omega) (by omega), Int.toNat_natCast, e21, Option.bind_some, mrd_i (by omega) (by omega), Int.toNat_natCast, w5, if_pos rfl, Option.bind_some]
  · by_cases c1 : k < P
    · have qT : iT P t tm k = tm k := if_pos c1
      have qB : iB P b inn k = inn k := if_pos c1
      have q6 : M21 6 (41 * e + k) = M 6 (41 * e + k) := by rw [w6, if_neg (by omega), if_neg (by omega)]
      have q7 : M21 7 (41 * e + k) = M 7 (41 * e + k) := by rw [w7, if_neg (by omega), if_neg (by omega)]
      rw [qT, qB, q6, q7]
      exact h.2 k (by omega)
    · by_cases c2 : k = P
      · have qT : iT P t tm k = t := (if_neg c1).trans (if_pos c2)
        have qB : iB P b inn k = b := (if_neg c1).trans (if_pos c2)
        rw [qT, qB, w6, w7, c2]
        exact ⟨if_pos rfl, if_pos rfl⟩
      · have qT : iT P t tm k = tm (k - 1) := (if_neg c1).trans (if_neg c2)
        have qB : iB P b inn k = inn (k - 1) := (if_neg c1).trans (if_neg c2)
        have q6 : M21 6 (41 * e + k) = M 6 (41 * e + (k - 1)) := by rw [w6, if_neg (by omega), if_pos (by omega), show 41 * e + k - 1 = 41 * e + (k - 1) by omega]
        have q7 : M21 7 (41 * e + k) = M 7 (41 * e + (k - 1)) := by rw [w7, if_neg (by omega), if_pos (by omega), show 41 * e + k - 1 = 41 * e + (k - 1) by omega]
        rw [qT, qB, q6, q7]
        exact h.2 (k - 1) (by omega)
  · rw [g21, mst_k _ _ _ _ k2, g19, mst_k _ _ _ _ k4, g18, mst_k _ _ _ _ k3, i2 k k3 k4, f7 k k1]
  · rcases hk with rfl | rfl
    · rw [w6, if_neg (by omega), if_neg (by omega)]
    · rw [w7, if_neg (by omega), if_neg (by omega)]

/-! events -/
def sm (F : Nat → Int) : Nat → Int
  | 0 => 0
  | n + 1 => sm F n + F n
theorem sm_congr {F G : Nat → Int} : ∀ n, (∀ i, i < n → F i = G i) → sm F n = sm G n
  | 0, _ => rfl
  | n + 1, h => by rw [sm, sm, sm_congr n (fun i hi => h i (by omega)), h n (by omega)]
theorem sm_ins {F G : Nat → Int} {a : Nat} {X : Int} (h1 : ∀ i, i < a → G i = F i) (h2 : G a = X) : ∀ n, a ≤ n → (∀ i, a < i → i < n + 1 → G i = F (i - 1)) → sm G (n + 1) = sm F n + X
  | 0, ha, _ => by
    have : a = 0 := by omega
    subst this
    simp [sm, h2]
  | n + 1, ha, h3 => by
    by_cases c : a = n + 1
    · rw [sm, sm_congr (n + 1) (fun i hi => h1 i (by omega)), ← c, h2]
    · rw [sm, sm_ins h1 h2 n (by omega) (fun i g1 g2 => h3 i g1 (by omega)), h3 (n + 1) (by omega) (by omega), Nat.add_sub_cancel, sm]
      omega
def tle (t : Int) (m : Nat) (c : Int) : Int := if t ≤ (m : Int) then c else 0
def opn (c b : Int) : Int := if 0 < c ∨ b < 0 then 1 else 0
/-- n events in order of time; what their numbers come to at each minute, and how many begin something -/
def Ev (M : Mem) (n : Nat) (f : Nat → Nat → Int) (C B : Nat → Int) (P : Int) : Prop :=
  Tb M 39 n f ∧ (∀ i j, i ≤ j → j < n → f i 0 ≤ f j 0) ∧ (∀ i, i < n → 0 ≤ f i 0 ∧ f i 0 ≤ 10080 ∧ -1 ≤ f i 1 ∧ f i 1 ≤ 1 ∧ -1 ≤ f i 2 ∧ f i 2 ≤ 1) ∧
  (∀ m, sm (fun i => tle (f i 0) m (f i 1)) n = C m) ∧ (∀ m, sm (fun i => tle (f i 0) m (f i 2)) n = B m) ∧ sm (fun i => opn (f i 1) (f i 2)) n = P
theorem L_addEvent {M : Mem} {n : Nat} {f : Nat → Nat → Int} (h : Tb M 39 n f) (hb : ∀ i, i < n → 0 ≤ f i 0 ∧ f i 0 ≤ 10080) {t : Int} (ht : 0 ≤ t ∧ t ≤ 10080) : ∀ (r fu a : Nat), a = r → a ≤ n → (∀ i, a ≤ i → i < n → t < f i 0) → r < fu → ∃ (a' : Nat) (y4 : Int32), L_X5_addEvent_15 M (iI t) fu (iI a) (iI ((a : Int) - 1)) = some (iI a', y4) ∧ a' ≤ n ∧ (∀ i, a' ≤ i → i < n → t < f i 0) ∧ (0 < a' → f (a' - 1) 0 ≤ t) := by
  have hn := h.n_b
  intro r
  induction r with
  | zero =>
    intro fu a ha han hg hf
    cases fu with
    | zero => omega
    | succ fu =>
      subst ha
      refine ⟨0, iI (((0 : Nat) : Int) - 1), ?_, han, hg, fun h => by omega⟩
      rw [L_X5_addEvent_15, li_0, if_pos (by rw [iI_lt] <;> omega)]
  | succ r ih =>
    intro fu a ha han hg hf
    cases fu with
    | zero => omega
    | succ fu =>
      have e0 : (a : Int) - 1 = ((a - 1 : Nat) : Int) := by omega
      have hg0 : s_X4_get M 39 (iI ((a - 1 : Nat) : Int)) 0 = some (iI (f (a - 1) 0)) := X4_get h (i := a - 1) (c := 0) (by omega) (by decide)
      have hb1 := hb (a - 1) (by omega)
      by_cases c : f (a - 1) 0 ≤ t
      · refine ⟨a, iI ((a : Int) - 1), ?_, han, hg, fun _ => c⟩
        rw [L_X5_addEvent_15, e0, hg0, Option.bind_some, li_0, if_neg (by rw [iI_lt] <;> omega), if_pos (by rw [iI_le] <;> omega)]
      · obtain ⟨a', y4, h1, h2, h3, h4⟩ := ih fu (a - 1) (by omega) (by omega) (fun i g1 g2 => by
          by_cases g3 : i = a - 1
          · rw [g3]; omega
          · exact hg i (by omega) g2) (by omega)
        refine ⟨a', y4, ?_, h2, h3, h4⟩
        rw [L_X5_addEvent_15, e0, hg0, Option.bind_some, li_0, if_neg (by rw [iI_lt] <;> omega), if_neg (by rw [iI_le] <;> omega)]
        simp only [bnd, li_m, iI_add]
        exact h1
theorem X5_addEvent {M : Mem} {n : Nat} {f : Nat → Nat → Int} {C B : Nat → Int} {P : Int} (h : Ev M n f C B P) (hn : n + 1 ≤ 160) {t c b : Int} (ht : 0 ≤ t ∧ t ≤ 10080) (hc : -1 ≤ c ∧ c ≤ 1) (hb : -1 ≤ b ∧ b ≤ 1) : ∃ M' g, s_X5_addEvent M (iI t) (iI c) (iI b) = some M' ∧ Ev M' (n + 1) g (fun m => C m + tle t m c) (fun m => B m + tle t m b) (P + opn c b) ∧ Fr 39 M M' := by
  obtain ⟨h1, h2, h3, h4, h5, h6⟩ := h
  obtain ⟨a, y4, a1, a2, a3, a4⟩ := L_addEvent h1 (fun i hi => ⟨(h3 i hi).1, (h3 i hi).2.1⟩) ht n FU n rfl (Nat.le_refl _) (fun i g1 g2 => by omega) (by rw [FU_0]; omega)
  obtain ⟨M1, g1, b1, b2, b3, b4⟩ := X4_insert h1 a2 (by show (n + 1) * 3 ≤ 480; omega)
  obtain ⟨M2, c1, c2, c3⟩ := X4_set b2 (i := a) (c := 0) (by omega) (by decide) t
  obtain ⟨M3, d1, d2, d3⟩ := X4_set c2 (i := a) (c := 1) (by omega) (by decide) c
  obtain ⟨M4, e1, e2, e3⟩ := X4_set d2 (i := a) (c := 2) (by omega) (by decide) b
  have w3 : wd 39 = 3 := by decide
  obtain ⟨X, hX0, hX1, hX2⟩ : ∃ X : Nat → Int, X 0 = t ∧ X 1 = c ∧ X 2 = b := ⟨fun k => if k = 0 then t else if k = 1 then c else b, rfl, rfl, rfl⟩
  refine ⟨M4, _, ?_, ⟨e2.ext (g := fun i k => if i = a then X k else if i < a then f i k else f (i - 1) k) (fun i k hi hk => ?_), fun i j g1 g2 => ?_, fun i hi => ?_, fun m => ?_, fun m => ?_, ?_⟩, ((b4.tr c3).tr d3).tr e3⟩
  · unfold s_X5_addEvent
    rw [X4_size h1, Option.bind_some]
    simp only [bnd, li_1, iI_sub]
    rw [a1, Option.bind_some]
    dsimp only
    rw [b1, Option.bind_some, li_0, show iI 0 = iI ((0 : Nat) : Int) from rfl, c1, Option.bind_some, show iI 1 = iI ((1 : Nat) : Int) from rfl, d1, Option.bind_some, li_2, show iI 2 = iI ((2 : Nat) : Int) from rfl, e1]
    rfl
  · by_cases g : i = a
    · rw [if_pos g]
      have hk3 : k = 0 ∨ k = 1 ∨ k = 2 := by omega
      rcases hk3 with rfl | rfl | rfl
      · rw [if_neg (by omega), if_neg (by omega), if_pos ⟨g, rfl⟩, hX0]
      · rw [if_neg (by omega), if_pos ⟨g, rfl⟩, hX1]
      · rw [if_pos ⟨g, rfl⟩, hX2]
    · rw [if_neg (by omega), if_neg (by omega), if_neg (by omega), if_neg g]
      exact b3 i k hi g hk
  · have lo : ∀ i, i < a → f i 0 ≤ t := fun i hi => Int.le_trans (h2 i (a - 1) (by omega) (by omega)) (a4 (by omega))
    by_cases g : i = a
    · by_cases g' : j = a
      · rw [if_pos g, if_pos g']; exact Int.le_refl _
      · rw [if_pos g, if_neg g', if_neg (by omega), hX0]
        have := a3 (j - 1) (by omega) (by omega)
        omega
    · by_cases g' : j = a
      · rw [if_neg g, if_pos g', if_pos (by omega), hX0]
        exact lo i (by omega)
      · rw [if_neg g, if_neg g']
        by_cases k1 : i < a
        · rw [if_pos k1]
          by_cases k2 : j < a
          · rw [if_pos k2]; exact h2 i j g1 (by omega)
          · rw [if_neg k2]; exact h2 i (j - 1) (by omega) (by omega)
        · rw [if_neg k1, if_neg (by omega)]; exact h2 (i - 1) (j - 1) (by omega) (by omega)
  · by_cases g : i = a
    · simp only [if_pos g, hX0, hX1, hX2]
      omega
    · simp only [if_neg g]
      by_cases k1 : i < a
      · simp only [if_pos k1]; exact h3 i (by omega)
      · simp only [if_neg k1]; exact h3 (i - 1) (by omega)
  · show _ = C m + tle t m c
    rw [← h4 m]
    refine sm_ins (a := a) (fun i hi => ?_) ?_ n a2 (fun i k1 k2 => ?_)
    · simp only [if_neg (show ¬ i = a by omega), if_pos hi]
    · simp only [if_true, hX0, hX1]
    · simp only [if_neg (show ¬ i = a by omega), if_neg (show ¬ i < a by omega)]
  · show _ = B m + tle t m b
    rw [← h5 m]
    refine sm_ins (a := a) (fun i hi => ?_) ?_ n a2 (fun i k1 k2 => ?_)
    · simp only [if_neg (show ¬ i = a by omega), if_pos hi]
    · simp only [if_true, hX0, hX2]
    · simp only [if_neg (show ¬ i = a by omega), if_neg (show ¬ i < a by omega)]
  · rw [← h6]
    refine sm_ins (a := a) (fun i hi => ?_) ?_ n a2 (fun i k1 k2 => ?_)
    · simp only [if_neg (show ¬ i = a by omega), if_pos hi]
    · simp only [if_true, hX1, hX2]
    · simp only [if_neg (show ¬ i = a by omega), if_neg (show ¬ i < a by omega)]
/-- the events of the spans of a list -/
theorem L_addEvents {t : Nat} {l : List (Nat × Nat)} (ht : t ≠ 39 ∧ t + 1 ≠ 39 ∧ t ≠ 40) (hb : ∀ q ∈ l, q.1 ≤ q.2 ∧ q.2 ≤ 10080) {c b : Int} (hcb : (c = 1 ∧ b = 0) ∨ (c = 0 ∧ b = 1)) : ∀ (r fu k n : Nat) (f : Nat → Nat → Int) (C B : Nat → Int) (P : Int) (M : Mem), Tl M t l → Ev M n f C B P → n + 2 * r ≤ 160 → k + r = l.length → r < fu → ∃ M' g C' B', L_X5_addEvents_3 t (iI c) (iI b) fu (iI k) M = some (iI (l.length : Int), M') ∧ Ev M' (n + 2 * r) g C' B' (P + r) ∧ (∀ m, C' m = C m + c * ((cc m l : Int) - (cc m (l.drop (l.length - k)) : Int))) ∧ (∀ m, B' m = B m + b * ((cc m l : Int) - (cc m (l.drop (l.length - k)) : Int))) ∧ Fr 39 M M' := by
  intro r
  induction r with
  | zero =>
    intro fu k n f C B P M h hE hn hk hf
    have hlb := h.n_b
    cases fu with
    | zero => omega
    | succ fu =>
      have hk' : k = l.length := by omega
      subst hk'
      refine ⟨M, f, C, B, ?_, ?_, fun m => ?_, fun m => ?_, Fr.rf⟩
      · rw [L_X5_addEvents_3, h.size, Option.bind_some, if_pos (by rw [iI_le] <;> omega)]
      · simpa using hE
      · rw [Nat.sub_self, List.drop_zero]; simp
      · rw [Nat.sub_self, List.drop_zero]; simp
  | succ r ih =>
    intro fu k n f C B P M h hE hn hk hf
    have hlb := h.n_b
    cases fu with
    | zero => omega
    | succ fu =>
      have hkl : k < l.length := by omega
      have hq := hb _ (gx_mem (0, 0) hkl)
      have hd' := drop_gx (0, 0) hkl
      have hg0 := h.get0 hkl
      obtain ⟨M1, g1, a1, a2, a3⟩ := X5_addEvent hE (by omega) (t := ((gx l (0, 0) k).1 : Int)) (c := c) (b := b) (by omega) (by omega) (by omega)
      have h1 : Tl M1 t l := h.fr a3 ht.1 ht.2.1 ht.2.2
      have hg1 := h1.get1 hkl
      obtain ⟨M2, g2, b1, b2, b3⟩ := X5_addEvent a2 (by omega) (t := ((gx l (0, 0) k).2 : Int)) (c := -c) (b := -b) (by omega) (by omega) (by omega)
      have h2 : Tl M2 t l := h1.fr b3 ht.1 ht.2.1 ht.2.2
      generalize gx l (0, 0) k = q at hq hd' hg0 hg1 a1 a2 b1 b2
      obtain ⟨M', g, C', B', c1, c2, c3, c4, c5⟩ := ih fu (k + 1) (n + 1 + 1) g2 _ _ _ M2 h2 b2 (by omega) (by omega) (by omega)
      refine ⟨M', g, C', B', ?_, ?_, fun m => ?_, fun m => ?_, (a3.tr b3).tr c5⟩
      · rw [← c1, L_X5_addEvents_3, h.size, Option.bind_some, if_neg (by rw [iI_le] <;> omega), hg0, Option.bind_some, a1, Option.bind_some, hg1, Option.bind_some, iI_neg, iI_neg, b1, Option.bind_some]
        simp only [bnd, li_1, iI_add]
        rfl
      · rw [show n + 2 * (r + 1) = n + 1 + 1 + 2 * r by omega]
        have e : P + opn c b + opn (-c) (-b) + (r : Int) = P + ((r + 1 : Nat) : Int) := by
          rcases hcb with ⟨rfl, rfl⟩ | ⟨rfl, rfl⟩
          · simp [opn]; omega
          · simp [opn]; omega
        rw [← e]
        exact c2
      · rw [c3 m, hd', cc]
        unfold tle
        rcases hcb with ⟨rfl, rfl⟩ | ⟨rfl, rfl⟩
        · (repeat' split) <;> omega
        · (repeat' split) <;> omega
      · rw [c4 m, hd', cc]
        unfold tle
        rcases hcb with ⟨rfl, rfl⟩ | ⟨rfl, rfl⟩
        · (repeat' split) <;> omega
        · (repeat' split) <;> omega
theorem X5_addEvents {t : Nat} {l : List (Nat × Nat)} (ht : t ≠ 39 ∧ t + 1 ≠ 39 ∧ t ≠ 40) (hb : ∀ q ∈ l, q.1 ≤ q.2 ∧ q.2 ≤ 10080) {c b : Int} (hcb : (c = 1 ∧ b = 0) ∨ (c = 0 ∧ b = 1)) {n : Nat} {f : Nat → Nat → Int} {C B : Nat → Int} {P : Int} {M : Mem} (h : Tl M t l) (hE : Ev M n f C B P) (hn : n + 2 * l.length ≤ 160) : ∃ M' g C' B', s_X5_addEvents M t (iI c) (iI b) = some M' ∧ Ev M' (n + 2 * l.length) g C' B' (P + l.length) ∧ (∀ m, C' m = C m + c * (cc m l : Int)) ∧ (∀ m, B' m = B m + b * (cc m l : Int)) ∧ Fr 39 M M' := by
  have hlb := h.n_b
  obtain ⟨M', g, C', B', a1, a2, a3, a4, a5⟩ := L_addEvents ht hb hcb l.length FU 0 n f C B P M h hE hn (by omega) (by rw [FU_0]; omega)
  refine ⟨M', g, C', B', ?_, a2, fun m => ?_, fun m => ?_, a5⟩
  · unfold s_X5_addEvents
    rw [li_0, show iI 0 = iI ((0 : Nat) : Int) from rfl, a1]
    rfl
  · rw [a3 m, show l.length - 0 = l.length by omega, List.drop_length]
    simp [cc]
  · rw [a4 m, show l.length - 0 = l.length by omega, List.drop_length]
    simp [cc]

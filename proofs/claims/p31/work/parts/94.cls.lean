/-! tables as lists (the last row first) -/
def gx {α : Type} (l : List α) (d : α) (k : Nat) : α := l.getD (l.length - 1 - k) d
theorem drop_gx {α : Type} {l : List α} (d : α) {k : Nat} (h : k < l.length) : l.drop (l.length - (k + 1)) = gx l d k :: l.drop (l.length - k) := by
  unfold gx
  rw [List.drop_eq_getElem_cons (by omega)]
  congr 1
  · rw [List.getD_eq_getElem?_getD, List.getElem?_eq_getElem (by omega)]
    simp only [Option.getD_some]
    congr 1
    omega
  · congr 1
    omega
theorem gx_lt {α : Type} {l : List α} {q d : α} {k : Nat} (h : k < l.length) : gx (q :: l) d k = gx l d k := by
  unfold gx
  rw [List.length_cons, show l.length + 1 - 1 - k = (l.length - 1 - k) + 1 by omega, List.getD_cons_succ]
theorem gx_eq {α : Type} {l : List α} {q d : α} : gx (q :: l) d l.length = q := by
  unfold gx
  rw [List.length_cons, show l.length + 1 - 1 - l.length = 0 by omega, List.getD_cons_zero]
theorem gx_mem {α : Type} {l : List α} (d : α) {k : Nat} (h : k < l.length) : gx l d k ∈ l := by
  unfold gx
  rw [List.getD_eq_getElem?_getD, List.getElem?_eq_getElem (by omega)]
  exact List.getElem_mem _
def spf (l : List (Nat × Nat)) (i c : Nat) : Int := if c = 0 then ((gx l (0, 0) i).1 : Int) else ((gx l (0, 0) i).2 : Int)
def Tl (M : Mem) (t : Nat) (l : List (Nat × Nat)) : Prop := Tb M t l.length (spf l)
theorem Tl.get0 {M : Mem} {t : Nat} {l : List (Nat × Nat)} (h : Tl M t l) {k : Nat} (hk : k < l.length) : s_X4_get M t (iI k) 0 = some (iI ((gx l (0, 0) k).1 : Int)) := X4_get h hk (c := 0) (by rcases wd_c t with e | e | e <;> omega)
theorem Tl.get1 {M : Mem} {t : Nat} {l : List (Nat × Nat)} (h : Tl M t l) {k : Nat} (hk : k < l.length) : s_X4_get M t (iI k) 1 = some (iI ((gx l (0, 0) k).2 : Int)) := X4_get h hk (c := 1) (by rcases wd_c t with e | e | e <;> omega)
theorem Tl.size {M : Mem} {t : Nat} {l : List (Nat × Nat)} (h : Tl M t l) : s_X4_size M t = some (iI (l.length : Int)) := X4_size h
theorem Tl.n_b {M : Mem} {t : Nat} {l : List (Nat × Nat)} (h : Tl M t l) : l.length ≤ 282 := Tb.n_b h
theorem Tl.add {M : Mem} {t : Nat} {l : List (Nat × Nat)} (h : Tl M t l) (hw : wd t = 2) (hr : (l.length + 1) * 2 ≤ tl t) (x y : Nat) : ∃ M', s_X4_addSpan M t (iI x) (iI y) = some M' ∧ Tl M' t ((x, y) :: l) ∧ Fr t M M' := by
  obtain ⟨M', g, h1, h2, h3, h4, h5, h6⟩ := X4_addSpan h (by rw [hw]; exact hr) (x : Int) (y : Int)
  refine ⟨M', h1, h2.ext (fun i c hi hc => ?_), h6⟩
  unfold spf
  by_cases e : i < l.length
  · rw [gx_lt e, h3 i c e hc]
    rfl
  · have e2 : i = l.length := by omega
    rw [e2, gx_eq]
    have hc2 : c = 0 ∨ c = 1 := by omega
    rcases hc2 with rfl | rfl
    · rw [if_pos rfl, h4]
    · rw [if_neg (by omega), h5]
theorem Tl.setEnd {M : Mem} {t b e : Nat} {l : List (Nat × Nat)} (h : Tl M t ((b, e) :: l)) (hw : wd t = 2) (y : Nat) : ∃ M', s_X4_set M t (iI (l.length : Int)) 1 (iI y) = some M' ∧ Tl M' t ((b, y) :: l) ∧ Fr t M M' := by
  obtain ⟨M', h1, h2, h3⟩ := X4_set h (i := l.length) (c := 1) (by simp) (by omega) (y : Int)
  refine ⟨M', h1, h2.ext (fun i c hi hc => ?_), h3⟩
  rw [List.length_cons] at hi
  have hc2 : c = 0 ∨ c = 1 := by omega
  unfold spf
  by_cases e : i < l.length
  · rw [gx_lt e, gx_lt e, if_neg (by omega)]
  · have e2 : i = l.length := by omega
    rw [e2, gx_eq, gx_eq]
    rcases hc2 with rfl | rfl
    · rw [if_neg (by omega), if_pos rfl, if_pos rfl]
    · rw [if_pos ⟨rfl, rfl⟩, if_neg (by omega)]
theorem iI_mx {a b : Int} (ha : -2147483648 ≤ a ∧ a < 2147483648) (hb : -2147483648 ≤ b ∧ b < 2147483648) : (if iI a < iI b then iI b else iI a) = iI (max a b) := by
  by_cases c : a < b
  · rw [if_pos ((iI_lt ha hb).mpr c), Int.max_eq_right (by omega)]
  · rw [if_neg (fun h => c ((iI_lt ha hb).mp h)), Int.max_eq_left (by omega)]
theorem iI_mn {a b : Int} (ha : -2147483648 ≤ a ∧ a < 2147483648) (hb : -2147483648 ≤ b ∧ b < 2147483648) : (if iI a < iI b then iI a else iI b) = iI (min a b) := by
  by_cases c : a < b
  · rw [if_pos ((iI_lt ha hb).mpr c), Int.min_eq_left (by omega)]
  · rw [if_neg (fun h => c ((iI_lt ha hb).mp h)), Int.min_eq_right (by omega)]
theorem L_mod {M : Mem} {t : Nat} {l : List (Nat × Nat)} (h : Tl M t l) {d : Nat} (hd : d < 7) (hb : ∀ q ∈ l, q.1 ≤ 10080 ∧ q.2 ≤ 10080) : ∀ (r fu k : Nat) (acc : Nat), k + r = l.length → r < fu → acc = cls (d * 1440) ((d + 1) * 1440) (l.drop (l.length - k)) → acc ≤ k * 1440 → L_X6_minutesOnDay_4 M t (iI d) fu (iI acc) (iI k) = some (iI ((cls (d * 1440) ((d + 1) * 1440) l : Nat) : Int), iI (l.length : Int)) := by
  have hn := h.n_b
  intro r
  induction r with
  | zero =>
    intro fu k acc hk hf ha ha2
    cases fu with
    | zero => omega
    | succ fu =>
      have hk' : k = l.length := by omega
      subst hk'
      unfold L_X6_minutesOnDay_4
      rw [h.size, Option.bind_some, if_pos (by rw [iI_le] <;> omega)]
      rw [Nat.sub_self, List.drop_zero] at ha
      rw [ha]
  | succ r ih =>
    intro fu k acc hk hf ha ha2
    cases fu with
    | zero => omega
    | succ fu =>
      have hkl : k < l.length := by omega
      have hq := hb _ (gx_mem (0, 0) hkl)
      have hd' := drop_gx (0, 0) hkl
      have hg0 := h.get0 hkl
      have hg1 := h.get1 hkl
      generalize gx l (0, 0) k = q at hq hd' hg0 hg1
      have hcl : clp (d * 1440) ((d + 1) * 1440) q ≤ 1440 := by unfold clp; omega
      rw [← ih fu (k + 1) (acc + clp (d * 1440) ((d + 1) * 1440) q) (by omega) (by omega) (by rw [hd', cls, ← ha]) (by omega)]
      rw [L_X6_minutesOnDay_4]
      rw [h.size, Option.bind_some, if_neg (by rw [iI_le] <;> omega), hg0, Option.bind_some, hg1]
      simp only [bnd, Option.bind_some, li_1440, li_1, iI_add, iI_mul, li_0]
      rw [iI_mx (by omega) (by omega), iI_mn (by omega) (by omega), iI_sub, iI_mx (by omega) (by omega), iI_add]
      congr 2
      unfold clp
      omega
theorem X6_mod {M : Mem} {t : Nat} {l : List (Nat × Nat)} (h : Tl M t l) {d : Nat} (hd : d < 7) (hb : ∀ q ∈ l, q.1 ≤ 10080 ∧ q.2 ≤ 10080) : s_X6_minutesOnDay M t (iI d) = some (iI ((cls (d * 1440) ((d + 1) * 1440) l : Nat) : Int)) := by
  have hn := h.n_b
  have K := L_mod h hd hb l.length FU 0 0 (by omega) (by rw [FU_0]; omega) (by simp [cls]) (by omega)
  unfold s_X6_minutesOnDay
  rw [li_0]
  rw [show iI ((0 : Nat) : Int) = iI 0 from rfl] at K
  rw [K]
  rfl
theorem L_lg {M : Mem} {t : Nat} {l : List (Nat × Nat)} (h : Tl M t l) (hb : ∀ q ∈ l, q.1 ≤ 10080 ∧ q.2 ≤ 10080) : ∀ (r fu k : Nat) (acc : Nat), k + r = l.length → r < fu → acc = lg (l.drop (l.length - k)) → acc ≤ 10080 → L_X6_longest_4 M t fu (iI acc) (iI k) = some (iI ((lg l : Nat) : Int), iI (l.length : Int)) := by
  have hn := h.n_b
  intro r
  induction r with
  | zero =>
    intro fu k acc hk hf ha ha2
    cases fu with
    | zero => omega
    | succ fu =>
      have hk' : k = l.length := by omega
      subst hk'
      unfold L_X6_longest_4
      rw [h.size, Option.bind_some, if_pos (by rw [iI_le] <;> omega)]
      rw [Nat.sub_self, List.drop_zero] at ha
      rw [ha]
  | succ r ih =>
    intro fu k acc hk hf ha ha2
    cases fu with
    | zero => omega
    | succ fu =>
      have hkl : k < l.length := by omega
      have hq := hb _ (gx_mem (0, 0) hkl)
      have hd' := drop_gx (0, 0) hkl
      have hg0 := h.get0 hkl
      have hg1 := h.get1 hkl
      generalize gx l (0, 0) k = q at hq hd' hg0 hg1
      rw [← ih fu (k + 1) (max acc (q.2 - q.1)) (by omega) (by omega) (by rw [hd', lg, ← ha]) (by omega)]
      rw [L_X6_longest_4]
      rw [h.size, Option.bind_some, if_neg (by rw [iI_le] <;> omega), hg1, Option.bind_some, hg0]
      simp only [bnd, Option.bind_some, li_1, iI_add, iI_sub]
      rw [iI_mx (by omega) (by omega)]
      congr 2
      omega
theorem X6_lg {M : Mem} {t : Nat} {l : List (Nat × Nat)} (h : Tl M t l) (hb : ∀ q ∈ l, q.1 ≤ 10080 ∧ q.2 ≤ 10080) : s_X6_longest M t = some (iI ((lg l : Nat) : Int)) := by
  have hn := h.n_b
  have K := L_lg h hb l.length FU 0 0 (by omega) (by rw [FU_0]; omega) (by simp [lg]) (by omega)
  unfold s_X6_longest
  rw [li_0]
  rw [show iI ((0 : Nat) : Int) = iI 0 from rfl] at K
  rw [K]
  rfl
/-- how many spans hold a minute -/
def cc (m : Nat) : List (Nat × Nat) → Nat
  | [] => 0
  | q :: r => cc m r + (if q.1 ≤ m ∧ m < q.2 then 1 else 0)
theorem cc_le (m : Nat) : ∀ l : List (Nat × Nat), cc m l ≤ l.length
  | [] => Nat.le_refl _
  | q :: r => by
    have := cc_le m r
    rw [cc, List.length_cons]
    split <;> omega
theorem tko_len : ∀ l : List (Nat × Nat), (tko l).length ≤ 2 * l.length
  | [] => Nat.le_refl _
  | (b, e) :: r => by
    have := tko_len r
    rw [tko]
    split <;> simp only [List.length_append, List.length_cons, List.length_nil] <;> omega
theorem L_tko {l : List (Nat × Nat)} (hl : l.length ≤ 80) (hb : ∀ q ∈ l, q.1 ≤ 10080 ∧ q.2 ≤ 10080) : ∀ (r fu k : Nat) (M : Mem), Tl M 41 l → Tl M 34 (tko (l.drop (l.length - k))) → k + r = l.length → r < fu → ∃ M', L_X1_takeOffAutomaticBreaks_9 41 fu (iI k) M = some (iI (l.length : Int), M') ∧ Tl M' 34 (tko l) ∧ Fr 34 M M' := by
  intro r
  induction r with
  | zero =>
    intro fu k M h h2 hk hf
    cases fu with
    | zero => omega
    | succ fu =>
      have hk' : k = l.length := by omega
      subst hk'
      rw [Nat.sub_self, List.drop_zero] at h2
      refine ⟨M, ?_, h2, Fr.rf⟩
      unfold L_X1_takeOffAutomaticBreaks_9
      rw [h.size, Option.bind_some, if_pos (by rw [iI_le] <;> omega)]
  | succ r ih =>
    intro fu k M h h2 hk hf
    cases fu with
    | zero => omega
    | succ fu =>
      have hkl : k < l.length := by omega
      have hq := hb _ (gx_mem (0, 0) hkl)
      have hd' := drop_gx (0, 0) hkl
      have hg0 := h.get0 hkl
      have hg1 := h.get1 hkl
      generalize gx l (0, 0) k = q at hq hd' hg0 hg1
      obtain ⟨b, e⟩ := q
      dsimp only at hq hg0 hg1
      have hlen : (tko (l.drop (l.length - k))).length ≤ 2 * k := by
        have := tko_len (l.drop (l.length - k))
        rw [List.length_drop] at this
        omega
      obtain ⟨M1, a1, a2, a3⟩ := h2.add (by decide) (by show _ ≤ 320; omega) b (min e (b + 360))
      have em : iI (min ((b : Int) + 360) (e : Int)) = iI ((min e (b + 360) : Nat) : Int) := by congr 1; omega
      have hT1 : Tl M1 41 l := h.fr a3 (by decide) (by decide) (by decide)
      have step : L_X1_takeOffAutomaticBreaks_9 41 (fu + 1) (iI k) M = (if b + 390 < e then s_X4_addSpan M1 34 (iI ((b + 390 : Nat) : Int)) (iI e) else some M1).bind fun M2 => L_X1_takeOffAutomaticBreaks_9 41 fu (iI ((k + 1 : Nat) : Int)) M2 := by
        rw [L_X1_takeOffAutomaticBreaks_9]
        rw [h.size, Option.bind_some, if_neg (by rw [iI_le] <;> omega), hg0, Option.bind_some, hg1]
        simp only [bnd, Option.bind_some, li_1, li_360, li_390, iI_add]
        rw [iI_mn (by omega) (by omega), em, a1]
        simp only [Option.bind_some]
        by_cases c : b + 390 < e
        · rw [if_neg (by rw [iI_le] <;> omega), if_pos c]
          simp
        · rw [if_pos (by rw [iI_le] <;> omega), if_neg c]
          simp
      by_cases c : b + 390 < e
      · obtain ⟨M2, b1, b2, b3⟩ := a2.add (by decide) (by rw [List.length_cons]; show _ ≤ 320; omega) (b + 390) e
        obtain ⟨M3, d1, d2, d3⟩ := ih fu (k + 1) M2 (hT1.fr b3 (by decide) (by decide) (by decide)) (by rw [hd', tko, if_pos c]; exact b2) (by omega) (by omega)
        refine ⟨M3, ?_, d2, (a3.tr b3).tr d3⟩
        rw [step, if_pos c, b1, Option.bind_some, d1]
      · obtain ⟨M3, d1, d2, d3⟩ := ih fu (k + 1) M1 hT1 (by rw [hd', tko, if_neg c]; exact a2) (by omega) (by omega)
        refine ⟨M3, ?_, d2, a3.tr d3⟩
        rw [step, if_neg c, Option.bind_some, d1]
theorem X1_tko {M : Mem} {l : List (Nat × Nat)} (h : Tl M 41 l) (hl : l.length ≤ 80) (hb : ∀ q ∈ l, q.1 ≤ 10080 ∧ q.2 ≤ 10080) : ∃ M', s_X1_takeOffAutomaticBreaks M 41 = some M' ∧ Tl M' 34 (tko l) ∧ Fr 34 M M' := by
  obtain ⟨M1, a1, a2, a3⟩ := X4_clear M 34 (spf [])
  obtain ⟨M2, b1, b2, b3⟩ := L_tko hl hb l.length FU 0 M1 (h.fr a3 (by decide) (by decide) (by decide)) (by simpa [tko, Tl] using a2) (by omega) (by rw [FU_0]; omega)
  refine ⟨M2, ?_, b2, a3.tr b3⟩
  unfold s_X1_takeOffAutomaticBreaks
  rw [a1, Option.bind_some, li_0, show iI 0 = iI ((0 : Nat) : Int) from rfl, b1]
  rfl

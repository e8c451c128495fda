/-! tables -/
def wd (t : Nat) : Nat := if t = 31 then 4 else if t = 36 then 3 else if t = 39 then 3 else 2
theorem tw_wd (t : Nat) : tw t = iI (wd t) := by
  unfold tw wd
  split
  · rfl
  · split
    · rfl
    · split <;> rfl
theorem wd_c (t : Nat) : wd t = 2 ∨ wd t = 3 ∨ wd t = 4 := by
  unfold wd
  split
  · simp
  · split
    · simp
    · split <;> simp
theorem tl_b (t : Nat) : tl t ≤ 564 := by
  unfold tl
  repeat' split
  all_goals omega
/-- the table t has n rows, and the numbers of f in them -/
def Tb (M : Mem) (t n : Nat) (f : Nat → Nat → Int) : Prop := M t 2 = iI n ∧ n * wd t ≤ tl t ∧ ∀ i c, i < n → c < wd t → M (t + 1) (i * wd t + c) = iI (f i c)
/-- nothing but the table t has changed -/
def Fr (t : Nat) (M M' : Mem) : Prop := (∀ k, k ≠ t → k ≠ t + 1 → M' k = M k) ∧ ∀ j, j ≠ 2 → M' t j = M t j
theorem Fr.rf {t : Nat} {M : Mem} : Fr t M M := ⟨fun _ _ _ => rfl, fun _ _ => rfl⟩
theorem Fr.tr {t : Nat} {M M' M'' : Mem} (h : Fr t M M') (h' : Fr t M' M'') : Fr t M M'' := ⟨fun k h1 h2 => (h'.1 k h1 h2).trans (h.1 k h1 h2), fun j hj => (h'.2 j hj).trans (h.2 j hj)⟩
theorem Tb.congr {M M' : Mem} {t n : Nat} {f : Nat → Nat → Int} (h : Tb M t n f) (h1 : M' t 2 = M t 2) (h2 : M' (t + 1) = M (t + 1)) : Tb M' t n f := ⟨h1.trans h.1, h.2.1, fun i c hi hc => by rw [h2]; exact h.2.2 i c hi hc⟩
theorem Tb.fr {M M' : Mem} {t u n : Nat} {f : Nat → Nat → Int} (h : Tb M t n f) (hF : Fr u M M') (h1 : t ≠ u) (h2 : t + 1 ≠ u) (h3 : t ≠ u + 1) : Tb M' t n f := h.congr (by rw [hF.1 t h1 h3]) (hF.1 (t + 1) h2 (by omega))
theorem Tb.ext {M : Mem} {t n : Nat} {f g : Nat → Nat → Int} (h : Tb M t n f) (e : ∀ i c, i < n → c < wd t → f i c = g i c) : Tb M t n g := ⟨h.1, h.2.1, fun i c hi hc => by rw [← e i c hi hc]; exact h.2.2 i c hi hc⟩
theorem Tb.n_b {M : Mem} {t n : Nat} {f : Nat → Nat → Int} (h : Tb M t n f) : n ≤ 282 := by
  have h1 := h.2.1
  have h2 := tl_b t
  rcases wd_c t with e | e | e <;> rw [e] at h1 <;> omega
theorem X4_size {M : Mem} {t n : Nat} {f : Nat → Nat → Int} (h : Tb M t n f) : s_X4_size M t = some (iI n) := by rw [s_X4_size, h.1]
theorem X4_get {M : Mem} {t n : Nat} {f : Nat → Nat → Int} (h : Tb M t n f) {i c : Nat} (hi : i < n) (hc : c < wd t) : s_X4_get M t (iI i) (iI c) = some (iI (f i c)) := by
  have hn := h.n_b
  have hl := tl_b t
  have h2 := h.2.1
  have hp : i * wd t + c < tl t := by
    rcases wd_c t with e | e | e <;> rw [e] at h2 hc ⊢ <;> omega
  have h3 := h.2.2 i c hi hc
  have hw4 : wd t ≤ 4 := by rcases wd_c t with e | e | e <;> omega
  have ep : iI ↑i * iI ↑(wd t) + iI ↑c = iI ((i * wd t + c : Nat) : Int) := by rw [iI_mul, iI_add]; push_cast; rfl
  unfold s_X4_get bnd
  rw [h.1, tw_wd, li_0, iI_nI, ep]
  rw [if_neg (by rw [iI_lt] <;> omega), if_neg (by rw [iI_le] <;> omega), if_neg (by rw [iI_lt] <;> omega), if_pos (by rw [iI_lt] <;> omega)]
  dsimp only
  rw [if_neg (by rw [iI_lt] <;> omega), if_neg (by rw [iI_le] <;> omega), mrd_i (by omega) (by omega), Int.toNat_natCast, h3]
  rfl
theorem X4_get_neg {M : Mem} {t : Nat} {x c : Int32} (h : x < 0) : s_X4_get M t x c = some 0 := by rw [s_X4_get, if_pos h]
theorem X4_set {M : Mem} {t n : Nat} {f : Nat → Nat → Int} (h : Tb M t n f) {i c : Nat} (hi : i < n) (hc : c < wd t) (z : Int) : ∃ M', s_X4_set M t (iI i) (iI c) (iI z) = some M' ∧ Tb M' t n (fun i' c' => if i' = i ∧ c' = c then z else f i' c') ∧ Fr t M M' := by
  have hn := h.n_b
  have hl := tl_b t
  have h2 := h.2.1
  have hp : i * wd t + c < tl t := by
    rcases wd_c t with e | e | e <;> rw [e] at h2 hc ⊢ <;> omega
  have hw4 : wd t ≤ 4 := by rcases wd_c t with e | e | e <;> omega
  have ep : iI ↑i * iI ↑(wd t) + iI ↑c = iI ((i * wd t + c : Nat) : Int) := by rw [iI_mul, iI_add]; push_cast; rfl
  refine ⟨mst M (t + 1) (i * wd t + c) (iI z), ?_, ⟨?_, h2, ?_⟩, ?_, ?_⟩
  · unfold s_X4_set bnd
    rw [h.1, tw_wd, li_0, iI_nI, ep]
    rw [if_neg (by rw [iI_lt] <;> omega), if_neg (by rw [iI_le] <;> omega), if_neg (by rw [iI_lt] <;> omega), if_pos (by rw [iI_lt] <;> omega)]
    dsimp only
    rw [if_neg (by rw [iI_lt] <;> omega), if_neg (by rw [iI_le] <;> omega), mwr_i (by omega) (by omega), Int.toNat_natCast]
    rfl
  · rw [mst_k _ _ _ _ (by omega)]; exact h.1
  · intro i' c' hi' hc'
    rw [mst_a, if_pos rfl]
    have h3 := h.2.2 i' c' hi' hc'
    by_cases e : i' = i ∧ c' = c
    · obtain ⟨rfl, rfl⟩ := e
      simp
    · dsimp only
      rw [if_neg, h3, if_neg e]
      intro e2
      apply e
      rcases wd_c t with e' | e' | e' <;> rw [e'] at e2 hc hc' <;> omega
  · intro k hk1 hk2
    exact mst_k _ _ _ _ hk2
  · intro j hj
    rw [mst_k _ _ _ _ (by omega)]
theorem X4_clear (M : Mem) (t : Nat) (f : Nat → Nat → Int) : ∃ M', s_X4_clear M t = some M' ∧ Tb M' t 0 f ∧ Fr t M M' := by
  refine ⟨mst M t 2 0, rfl, ⟨by rw [mst_a]; simp [li_0], by omega, fun i c hi => by omega⟩, fun k h1 h2 => mst_k _ _ _ _ h1, fun j hj => by rw [mst_a]; simp [hj]⟩
theorem L_insert {t at' : Nat} {w : Nat} (hw : tw t = iI w) (hwc : w = 2 ∨ w = 3 ∨ w = 4) (ha : at' ≤ 300) : ∀ (r fu : Nat) (y : Int) (M : Mem), y = (at' + 1) * w - 1 + r → r < fu → y < tl t → ∃ M', L_X4_insert_46 t (iI at') fu (iI y) M = some (iI ((at' + 1) * w - 1), M') ∧ (∀ k, k ≠ t + 1 → M' k = M k) ∧ ∀ j : Nat, M' (t + 1) j = if (at' + 1) * w ≤ j ∧ (j : Int) ≤ y then M (t + 1) (j - w) else M (t + 1) j := by
  have hl := tl_b t
  intro r
  induction r with
  | zero =>
    intro fu y M hy hf hyl
    cases fu with
    | zero => omega
    | succ fu =>
      refine ⟨M, ?_, fun k _ => rfl, fun j => ?_⟩
      · unfold L_X4_insert_46
        rw [if_pos]
        · subst hy; simp
        · rw [hw, li_1, iI_add, iI_mul]
          rcases hwc with rfl | rfl | rfl <;> rw [iI_lt] <;> omega
      · rw [if_neg]
        rcases hwc with rfl | rfl | rfl <;> omega
  | succ r ih =>
    intro fu y M hy hf hyl
    cases fu with
    | zero => omega
    | succ fu =>
      have hy0 : 0 ≤ y - w ∧ (at' + 1) * w ≤ y := by rcases hwc with rfl | rfl | rfl <;> omega
      obtain ⟨M', h1, h2, h3⟩ := ih fu (y - 1) (mst M (t + 1) y.toNat (M (t + 1) (y - w).toNat)) (by omega) (by omega) (by omega)
      refine ⟨M', ?_, fun k hk => ?_, fun j => ?_⟩
      · unfold L_X4_insert_46
        rw [if_neg]
        · rw [hw, iI_sub, mrd_i (by omega) (by omega)]
          rw [Option.bind_some, mwr_i (by omega) (by omega), li_m, Option.bind_some, iI_add]
          exact h1
        · rw [hw, li_1, iI_add, iI_mul]
          rcases hwc with rfl | rfl | rfl <;> rw [iI_lt] <;> omega
      · rw [h2 k hk, mst_k _ _ _ _ hk]
      · rw [h3 j]
        simp only [mst_a, if_true]
        obtain ⟨A, hA⟩ : ∃ A, A = (at' + 1) * w := ⟨_, rfl⟩
        have hA1 : w ≤ A ∧ (A : Int) ≤ y ∧ 2 ≤ w := by rcases hwc with rfl | rfl | rfl <;> omega
        rw [← hA]
        by_cases c1 : A ≤ j ∧ (j : Int) ≤ y - 1
        · rw [if_pos c1, if_neg (by omega), if_pos (by omega)]
        · rw [if_neg c1]
          by_cases c2 : j = y.toNat
          · rw [if_pos c2, if_pos (by omega)]
            congr 1
            omega
          · rw [if_neg c2, if_neg (by omega)]
theorem X4_insert {M : Mem} {t n : Nat} {f : Nat → Nat → Int} (h : Tb M t n f) {at' : Nat} (ha : at' ≤ n) (hr : (n + 1) * wd t ≤ tl t) : ∃ M' g, s_X4_insert M t (iI at') = some M' ∧ Tb M' t (n + 1) g ∧ (∀ i c, i < n + 1 → i ≠ at' → c < wd t → g i c = if i < at' then f i c else f (i - 1) c) ∧ Fr t M M' := by
  have hn := h.n_b
  have hl := tl_b t
  have hw := tw_wd t
  have hwc := wd_c t
  obtain ⟨w, ew⟩ : ∃ w, w = wd t := ⟨_, rfl⟩
  have hT := h.2.2
  rw [← ew] at hw hwc hr hT
  obtain ⟨M1, h1, h2, h3⟩ := L_insert hw hwc (at' := at') (by omega) ((n - at') * w) FU ((n + 1) * w - 1) M (by
    have hq : n - at' + at' = n := by omega
    rcases hwc with rfl | rfl | rfl <;> omega) (by rw [FU_0]; rcases hwc with rfl | rfl | rfl <;> omega) (by rcases hwc with rfl | rfl | rfl <;> omega)
  refine ⟨mst M1 t 2 (iI (n + 1 : Nat)), fun i c => if i = at' then (M1 (t + 1) (i * w + c)).toInt else if i < at' then f i c else f (i - 1) c, ?_, ⟨?_, by rw [← ew]; exact hr, ?_⟩, ?_, ?_, ?_⟩
  · unfold s_X4_insert
    rw [h.1, hw, li_0, li_1, iI_nI, iI_add, iI_mul, iI_sub]
    rw [if_neg (by rw [iI_lt] <;> omega), if_neg (by rw [iI_lt] <;> omega), if_pos (by rcases hwc with rfl | rfl | rfl <;> rw [iI_le] <;> omega)]
    show (L_X4_insert_46 t (iI ↑at') FU (iI ((↑n + 1) * ↑w - 1)) M).bind _ = _
    rw [h1]
    show some (mst M1 t 2 (M1 t 2 + iI 1)) = _
    rw [h2 t (by omega), h.1, iI_add]
    rfl
  · rw [mst_a]; simp
  · intro i c hi hc
    rw [mst_k _ _ _ _ (by omega), ← ew]
    rw [← ew] at hc
    dsimp only
    by_cases e : i = at'
    · rw [if_pos e]; exact (Int32.ofInt_toInt _).symm
    · rw [if_neg e, h3]
      by_cases e2 : i < at'
      · rw [if_pos e2, if_neg (by rcases hwc with rfl | rfl | rfl <;> omega)]
        exact hT i c (by omega) hc
      · rw [if_neg e2, if_pos (by rcases hwc with rfl | rfl | rfl <;> omega), ← hT (i - 1) c (by omega) hc]
        congr 1
        rcases hwc with rfl | rfl | rfl <;> omega
  · intro i c hi hia hc
    dsimp only
    rw [if_neg hia]
  · intro k hk1 hk2
    rw [mst_k _ _ _ _ hk1, h2 k hk2]
  · intro j hj
    rw [mst_a, if_pos rfl, if_neg hj, h2 t (by omega)]
/-- a row of two numbers put behind the others -/
theorem X4_addSpan {M : Mem} {t n : Nat} {f : Nat → Nat → Int} (h : Tb M t n f) (hr : (n + 1) * wd t ≤ tl t) (x y : Int) : ∃ M' g, s_X4_addSpan M t (iI x) (iI y) = some M' ∧ Tb M' t (n + 1) g ∧ (∀ i c, i < n → c < wd t → g i c = f i c) ∧ g n 0 = x ∧ g n 1 = y ∧ Fr t M M' := by
  have hwc := wd_c t
  obtain ⟨M1, g1, a1, a2, a3, a4⟩ := X4_insert h (Nat.le_refl n) hr
  obtain ⟨M2, b1, b2, b3⟩ := X4_set a2 (i := n) (c := 0) (by omega) (by omega) x
  obtain ⟨M3, c1, c2, c3⟩ := X4_set b2 (i := n) (c := 1) (by omega) (by omega) y
  refine ⟨M3, _, ?_, c2, ?_, ?_, ?_, (a4.tr b3).tr c3⟩
  · unfold s_X4_addSpan bnd
    rw [h.1]
    dsimp only
    rw [a1, Option.bind_some, li_0, li_1]
    rw [show (0 : Int) = ((0 : Nat) : Int) from rfl, b1, Option.bind_some, show (1 : Int) = ((1 : Nat) : Int) from rfl, c1]
    rfl
  · intro i c hi hc
    rw [if_neg (by omega), if_neg (by omega), a3 i c (by omega) (by omega) hc, if_pos hi]
  · simp
  · simp

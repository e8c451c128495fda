theorem X1_read {e n : Nat} {tm : Nat → Nat} {inn : Nat → Bool} {E B : List (Nat × Nat)} {M : Mem} (he : 46 ≤ e) (hp : PnOK n tm) (h : Tb M (e + 1) n (pnf tm inn)) (hE : Tl M (e + 3) E) (hB : Tl M (e + 5) B) (hE' : SpOK E 20) (hB' : SpOK B 20) {w : Nat → Bool} (hw : w = wk (cvr (shL n tm inn n) E) (brk B)) : ∃ M', s_X1_read M e = some M' ∧ Tq M' 36 (qq (pd w) (flg (pd w) 6) 10080) ∧ ∀ k, (k < 34 ∨ 45 < k) → M' k = M k := by
  subst hw
  obtain ⟨M1, a1, a2, a3, a4, a5, a6, a7⟩ := X5_read he hp h hE hB hE' hB'
  obtain ⟨M2, M3, M', b1, b2, b3, ⟨y1, y2, b4⟩, b5, b6⟩ := X1_read_rest a4 a6
  refine ⟨M', ?_, b5, fun k hk => ?_⟩
  · unfold s_X1_read
    rw [a1, Option.bind_some, b1, Option.bind_some, b2, Option.bind_some, b3, Option.bind_some, b4]
    rfl
  · rw [b6 k (by omega) (by omega) (by omega) (by omega), a7 k (by omega)]
/-- the category of the last part that holds a minute -/
def lc (m : Nat) : List (Nat × Nat × Nat) → Int
  | [] => -1
  | (b, e, c) :: r => if b ≤ m ∧ m < e then (c : Int) else lc m r
theorem qq_lc (p : Nat → Bool) (full : Bool) (m : Nat) : ∀ T, lc m (qq p full T) = if m < T ∧ p m = true then (cm p full m : Int) else -1
  | 0 => by simp [qq, lc]
  | T + 1 => by
    have ih := qq_lc p full m T
    have ho := qq_ok p full T
    have ho1 := qq_ok p full (T + 1)
    rw [qq] at ho1 ⊢
    by_cases c : p T
    · rw [if_pos c] at ho1 ⊢
      cases hq : qq p full T with
      | nil =>
        rw [hq] at ih
        dsimp only
        rw [lc, ih]
        by_cases c2 : m = T
        · subst c2; rw [if_pos (by omega), if_pos ⟨by omega, c⟩]
        · rw [if_neg (by omega)]
          by_cases c3 : m < T ∧ p m = true
          · rw [if_pos c3, if_pos ⟨by omega, c3.2⟩]
          · rw [if_neg c3, if_neg (fun h => c3 ⟨by omega, h.2⟩)]
      | cons q r =>
        obtain ⟨b, e, k⟩ := q
        rw [hq] at ih ho ho1
        dsimp only at ho1 ⊢
        have hb := ho.2.2.2 _ List.mem_cons_self
        dsimp only at hb
        by_cases c2 : e = T ∧ cut p T = false
        · rw [if_pos c2] at ho1 ⊢
          have hk : k = cm p full T := by have := ho1.2.2.1 rfl; rwa [Nat.add_sub_cancel] at this
          rw [lc] at ih ⊢
          by_cases c3 : m = T
          · subst c3
            rw [if_pos (by omega), if_pos ⟨by omega, c⟩, hk]
          · by_cases c4 : b ≤ m ∧ m < e
            · rw [if_pos (by omega)]
              rw [if_pos c4] at ih
              rw [ih]
              by_cases c5 : p m = true
              · rw [if_pos ⟨by omega, c5⟩, if_pos ⟨by omega, c5⟩]
              · rw [if_neg (fun h => c5 h.2), if_neg (fun h => c5 h.2)]
            · rw [if_neg (by omega)]
              rw [if_neg c4] at ih
              rw [ih]
              by_cases c5 : m < T ∧ p m = true
              · rw [if_pos c5, if_pos ⟨by omega, c5.2⟩]
              · rw [if_neg c5, if_neg (fun h => c5 ⟨by omega, h.2⟩)]
        · rw [if_neg c2, lc, ih]
          by_cases c3 : m = T
          · subst c3; rw [if_pos (by omega), if_pos ⟨by omega, c⟩]
          · rw [if_neg (by omega)]
            by_cases c5 : m < T ∧ p m = true
            · rw [if_pos c5, if_pos ⟨by omega, c5.2⟩]
            · rw [if_neg c5, if_neg (fun h => c5 ⟨by omega, h.2⟩)]
    · rw [if_neg c, ih]
      by_cases c5 : m < T ∧ p m = true
      · rw [if_pos c5, if_pos ⟨by omega, c5.2⟩]
      · rw [if_neg c5, if_neg (fun h => c5 ⟨by
          have : m ≠ T := fun g => c (by rw [← g]; exact h.2)
          omega, h.2⟩)]
theorem qq_bnd (p : Nat → Bool) (full : Bool) : ∀ q ∈ qq p full 10080, q.1 < q.2.1 ∧ (q.2.1 - 1) / 1440 = q.1 / 1440 ∧ q.2.1 ≤ 10080 ∧ q.2.2 ≤ 2 := by
  have h := qq_ok p full 10080
  cases hq : qq p full 10080 with
  | nil => intro q h; cases h
  | cons q r =>
    rw [hq] at h
    exact h.2.2.2
/-- the minutes of a day and a category -/
def mo (d k : Nat) : List (Nat × Nat × Nat) → Nat
  | [] => 0
  | (b, e, c) :: r => mo d k r + (if c = k ∧ b / 1440 = d then e - b else 0)
def kc (p : Nat → Bool) (full : Bool) (d k : Nat) : Nat → Nat
  | 0 => 0
  | T + 1 => kc p full d k T + (if p T = true ∧ cm p full T = k ∧ T / 1440 = d then 1 else 0)
theorem kc_le (p : Nat → Bool) (full : Bool) (d k : Nat) : ∀ T, kc p full d k T ≤ T
  | 0 => Nat.le_refl _
  | T + 1 => by
    have := kc_le p full d k T
    rw [kc]
    split <;> omega
theorem qq_mo (p : Nat → Bool) (full : Bool) (d j : Nat) : ∀ T, mo d j (qq p full T) = kc p full d j T
  | 0 => rfl
  | T + 1 => by
    have ih := qq_mo p full d j T
    have ho := qq_ok p full T
    have ho1 := qq_ok p full (T + 1)
    rw [qq] at ho1 ⊢
    rw [kc, ← ih]
    by_cases c : p T
    · rw [if_pos c] at ho1 ⊢
      cases hq : qq p full T with
      | nil =>
        rw [hq] at ih
        dsimp only
        simp only [mo]
        by_cases c2 : cm p full T = j ∧ T / 1440 = d
        · rw [if_pos c2, if_pos ⟨c, c2⟩]; omega
        · rw [if_neg c2, if_neg (fun h => c2 h.2)]
      | cons q r =>
        obtain ⟨b, e, k⟩ := q
        rw [hq] at ih ho ho1
        dsimp only at ho1 ⊢
        have hb := ho.2.2.2 _ List.mem_cons_self
        dsimp only at hb
        by_cases c2 : e = T ∧ cut p T = false
        · rw [if_pos c2] at ho1 ⊢
          have hk : k = cm p full T := by have := ho1.2.2.1 rfl; rwa [Nat.add_sub_cancel] at this
          have hday := (ho1.2.2.2 _ List.mem_cons_self).2.1
          dsimp only at hday
          rw [Nat.add_sub_cancel] at hday
          rw [mo, mo, ← hk, ← hday]
          by_cases c3 : k = j ∧ T / 1440 = d
          · rw [if_pos c3, if_pos c3, if_pos ⟨c, c3⟩]; omega
          · rw [if_neg c3, if_neg c3, if_neg (fun h => c3 h.2)]
        · rw [if_neg c2, mo]
          by_cases c3 : cm p full T = j ∧ T / 1440 = d
          · rw [if_pos c3, if_pos ⟨c, c3⟩]; omega
          · rw [if_neg c3, if_neg (fun h => c3 h.2)]
    · rw [if_neg c, if_neg (fun h => c h.1)]
      rfl
theorem mo_le {d k : Nat} : ∀ l : List (Nat × Nat × Nat), ∀ j, mo d k (l.drop j) ≤ mo d k l
  | [], j => by simp
  | (b, e, c) :: r, 0 => Nat.le_refl _
  | (b, e, c) :: r, j + 1 => by
    have := mo_le r j (d := d) (k := k)
    rw [List.drop_succ_cons, mo]
    omega
theorem L_mo {M : Mem} {l : List (Nat × Nat × Nat)} (h : Tq M 36 l) {d j : Nat} (hd : d < 7) (hj : j ≤ 2) (hmx : mo d j l ≤ 10080) (hb : ∀ q ∈ l, q.1 < q.2.1 ∧ (q.2.1 - 1) / 1440 = q.1 / 1440 ∧ q.2.1 ≤ 10080 ∧ q.2.2 ≤ 2) : ∀ (r fu k : Nat) (acc : Nat), k + r = l.length → r < fu → acc = mo d j (l.drop (l.length - k)) → L_X1_minutesOf_5 M (iI d) (iI j) fu (iI acc) (iI k) = some (iI ((mo d j l : Nat) : Int), iI (l.length : Int)) := by
  have hn := h.n_b
  intro r
  induction r with
  | zero =>
    intro fu k acc hk hf ha
    cases fu with
    | zero => omega
    | succ fu =>
      have hk' : k = l.length := by omega
      subst hk'
      rw [L_X1_minutesOf_5, h.size, Option.bind_some, if_pos (by rw [iI_le] <;> omega)]
      rw [Nat.sub_self, List.drop_zero] at ha
      rw [ha]
  | succ r ih =>
    intro fu k acc hk hf ha
    cases fu with
    | zero => omega
    | succ fu =>
      have hkl : k < l.length := by omega
      have hq := hb _ (gx_mem (0, 0, 0) hkl)
      have hd' := drop_gx (0, 0, 0) hkl
      have hg0 := h.get0 hkl
      have hg1 := h.get1 hkl
      have hg2 := h.get2 hkl
      generalize gx l (0, 0, 0) k = q at hq hd' hg0 hg1 hg2
      obtain ⟨b, e, c⟩ := q
      dsimp only at hq hg0 hg1 hg2
      rw [← ih fu (k + 1) (acc + (if c = j ∧ b / 1440 = d then e - b else 0)) (by omega) (by omega) (by rw [hd', mo, ← ha])]
      rw [L_X1_minutesOf_5, h.size, Option.bind_some, if_neg (by rw [iI_le] <;> omega), hg2, Option.bind_some, hg0, hg1]
      have edv : iI (b : Int) / 1440 = iI ((b / 1440 : Nat) : Int) := by
        rw [li_1440, iI_div (by omega) (by omega)]
        congr 1
      have p1 : (iI (c : Int) = iI (j : Int)) = (c = j) := propext (by rw [iI_eq] <;> omega)
      have p2 : (iI ((b / 1440 : Nat) : Int) = iI (d : Int)) = (b / 1440 = d) := propext (by rw [iI_eq] <;> omega)
      simp only [bnd, Option.bind_some, edv, p1, p2]
      by_cases c1 : c = j
      · rw [if_pos c1]
        by_cases c2 : b / 1440 = d
        · rw [if_pos c2, if_pos ⟨c1, c2⟩, Option.bind_some, li_1, iI_sub, iI_add, iI_add]
          rw [show (acc : Int) + ((e : Int) - (b : Int)) = ((acc + (e - b) : Nat) : Int) by omega, show (k : Int) + 1 = ((k + 1 : Nat) : Int) by omega]
        · rw [if_neg c2, if_neg (fun h => c2 h.2), Option.bind_some, li_1, iI_add]
          rfl
      · rw [if_neg c1, if_neg (fun h => c1 h.1), Option.bind_some, li_1, iI_add]
        rfl
theorem X1_minutesOf {p : Nat → Bool} {full : Bool} {M : Mem} (h : Tq M 36 (qq p full 10080)) {d j : Nat} (hd : d < 7) (hj : j ≤ 2) : s_X1_minutesOf M (iI d) (iI j) = some (iI (kc p full d j 10080 : Nat)) := by
  have hn := h.n_b
  have hmo := qq_mo p full d j 10080
  have hle := kc_le p full d j 10080
  have K := L_mo h hd hj (by omega) (qq_bnd p full) (qq p full 10080).length FU 0 0 (by omega) (by rw [FU_0]; omega) (by simp [mo])
  rw [hmo] at K
  unfold s_X1_minutesOf
  have K' : L_X1_minutesOf_5 M (iI d) (iI j) FU 0 0 = some (iI (kc p full d j 10080 : Nat), iI ((qq p full 10080).length : Int)) := K
  rw [K']
  rfl

theorem isum_add (g : Nat → Int) (b i : Nat) : ∀ j, isum g b (i + j) = isum g b i + isum g (b + i) j
  | 0 => by simp [isum]
  | j + 1 => by
    rw [← Nat.add_assoc, isum, isum, isum_add g b i j, Nat.add_assoc b i j]
    omega
theorem isum_const {g : Nat → Int} {a : Nat} {c : Int} : ∀ n, (∀ m, a ≤ m → m < a + n → g m = c) → isum g a n = c * n
  | 0, _ => by simp [isum]
  | n + 1, h => by
    rw [isum, isum_const n (fun m h1 h2 => h m h1 (by omega)), h (a + n) (by omega) (by omega)]
    rw [show ((n + 1 : Nat) : Int) = (n : Int) + 1 by omega, Int.mul_add, Int.mul_one]
theorem isum_b {g : Nat → Int} {a : Nat} (h : ∀ m, 0 ≤ g m ∧ g m ≤ 10000) : ∀ n, 0 ≤ isum g a n ∧ isum g a n ≤ 10000 * n
  | 0 => by simp [isum]
  | n + 1 => by
    have := isum_b h n (a := a)
    have := h (a + n)
    rw [isum]
    omega
/-- the rate of a minute -/
def rt (n : Nat) (pr : Nat → Nat → Nat) (m : Nat) : Int := (gr pr (m / 1440) (m % 1440) n : Nat)
theorem rt_b {n : Nat} {pr : Nat → Nat → Nat} (hp : PmOK n pr) (m : Nat) : 0 ≤ rt n pr m ∧ rt n pr m ≤ 10000 := by
  have := gr_le hp n (Nat.le_refl _) (d := m / 1440) (u := m % 1440)
  unfold rt
  omega
theorem L_so {M : Mem} {n : Nat} {pr : Nat → Nat → Nat} (hp : PmOK n pr) (h : Tb M 31 n (pmf pr)) {b e : Nat} (he : e ≤ 10080) (hday : (e - 1) / 1440 = b / 1440) : ∀ (R fu a i : Nat), e - a ≤ R → b ≤ a → a ≤ e → i ≤ a - b → R < fu → ∃ y1 y2, L_X2_sumOver_8 M (iI e) fu (iI (isum (rt n pr) b (a - b))) (iI a) (iI i) = some (iI (isum (rt n pr) b (e - b)), y1, y2) := by
  have hn := hp.1
  intro R
  induction R with
  | zero =>
    intro fu a i hR h1 h2 h3 hf
    cases fu with
    | zero => omega
    | succ fu =>
      have ha : a = e := by omega
      subst ha
      refine ⟨iI a, iI i, ?_⟩
      rw [L_X2_sumOver_8, li_1440]
      by_cases c1 : 1440 ≤ i
      · rw [if_pos (by rw [iI_le] <;> omega)]
      · rw [if_neg (by rw [iI_le] <;> omega), if_pos (by rw [iI_le] <;> omega)]
  | succ R ih =>
    intro fu a i hR h1 h2 h3 hf
    cases fu with
    | zero => omega
    | succ fu =>
      by_cases ha : a = e
      · subst ha
        refine ⟨iI a, iI i, ?_⟩
        rw [L_X2_sumOver_8, li_1440]
        by_cases c1 : 1440 ≤ i
        · rw [if_pos (by rw [iI_le] <;> omega)]
        · rw [if_neg (by rw [iI_le] <;> omega), if_pos (by rw [iI_le] <;> omega)]
      · have hnc := nc_b (pr := pr) (u := a % 1440) (by omega) n
        obtain ⟨s, hs⟩ : ∃ s, s = min e (a / 1440 * 1440 + nc pr (a % 1440) n) := ⟨_, rfl⟩
        obtain ⟨l, hl⟩ : ∃ l, s = a + l := ⟨s - a, by omega⟩
        have hc : isum (rt n pr) a l = ((gr pr (a / 1440) (a % 1440) n : Nat) : Int) * l := isum_const l (fun m g1 g2 => by
          have e1 : m / 1440 = a / 1440 := by omega
          unfold rt
          rw [e1, gr_same (u := a % 1440) (v := m % 1440) (by omega) n (by omega)])
        have hsum : isum (rt n pr) b (s - b) = isum (rt n pr) b (a - b) + ((gr pr (a / 1440) (a % 1440) n : Nat) : Int) * l := by
          rw [← hc, show s - b = (a - b) + l by omega, isum_add, show b + (a - b) = a by omega]
        obtain ⟨y1, y2, g⟩ := ih fu s (i + 1) (by omega) (by omega) (by omega) (by omega) (by omega)
        refine ⟨y1, y2, ?_⟩
        have ed : iI (a : Int) / iI 1440 = iI ((a / 1440 : Nat) : Int) := by
          rw [iI_div (by omega) (by omega)]
          congr 1
        have em : iI (a : Int) - iI ((a / 1440 : Nat) : Int) * iI 1440 = iI ((a % 1440 : Nat) : Int) := by
          rw [iI_mul, iI_sub]
          congr 1
          omega
        rw [← g, L_X2_sumOver_8, li_1440, if_neg (by rw [iI_le] <;> omega), if_neg (by rw [iI_le] <;> omega), ed]
        unfold bnd
        dsimp only
        rw [em, X2_nc hp h (by omega), Option.bind_some, X2_gr hp h (by omega) (by omega)]
        rw [Option.bind_some, iI_mul, iI_add, iI_mn (by omega) (by omega)]
        rw [show min (((a / 1440 : Nat) : Int) * 1440 + ((nc pr (a % 1440) n : Nat) : Int)) (e : Int) = (s : Int) by omega, iI_sub, iI_mul, iI_add, li_1, iI_add, hsum]
        rw [show (s : Int) - (a : Int) = (l : Int) by omega]
        rfl
theorem X2_so {M : Mem} {n : Nat} {pr : Nat → Nat → Nat} (hp : PmOK n pr) (h : Tb M 31 n (pmf pr)) {b e : Nat} (hbe : b < e) (he : e ≤ 10080) (hday : (e - 1) / 1440 = b / 1440) : s_X2_sumOver M (iI b) (iI e) = some (iI (isum (rt n pr) b (e - b))) := by
  obtain ⟨y1, y2, g⟩ := L_so hp h he hday (e - b) FU b 0 (Nat.le_refl _) (Nat.le_refl _) (by omega) (by omega) (by rw [FU_0]; omega)
  rw [Nat.sub_self] at g
  have g' : L_X2_sumOver_8 M (iI e) FU 0 (iI b) 0 = some (iI (isum (rt n pr) b (e - b)), y1, y2) := g
  unfold s_X2_sumOver
  rw [g']
  rfl
theorem psum_nn {g : Nat → Nat → Int} (h : ∀ m c, 0 ≤ g m c) : ∀ l : List (Nat × Nat × Nat), 0 ≤ psum g l
  | [] => Int.le_refl _
  | (b, e, c) :: r => by
    have h1 := psum_nn h r
    have h2 : ∀ n, 0 ≤ isum (fun m => g m c) b n := by
      intro n
      induction n with
      | zero => exact Int.le_refl _
      | succ n ih => have := h (b + n) c; rw [isum]; omega
    have := h2 (e - b)
    rw [psum]
    omega
theorem psum_drop {g : Nat → Nat → Int} (h : ∀ m c, 0 ≤ g m c) : ∀ (l : List (Nat × Nat × Nat)) (j : Nat), psum g (l.drop j) ≤ psum g l
  | [], j => by simp
  | (b, e, c) :: r, 0 => Int.le_refl _
  | (b, e, c) :: r, j + 1 => by
    have h1 := psum_drop h r j
    have h2 := psum_nn h [(b, e, c)]
    simp only [psum] at h2
    rw [List.drop_succ_cons, psum]
    omega
theorem L_pf {M : Mem} {n : Nat} {pr : Nat → Nat → Nat} (hp : PmOK n pr) (h : Tb M 31 n (pmf pr)) {l : List (Nat × Nat × Nat)} (hl : Tq M 36 l) (hb : ∀ q ∈ l, q.1 < q.2.1 ∧ (q.2.1 - 1) / 1440 = q.1 / 1440 ∧ q.2.1 ≤ 10080 ∧ q.2.2 ≤ 2) : ∀ (r fu k : Nat) (acc : Int), k + r = l.length → r < fu → acc = psum (fun m _ => rt n pr m) (l.drop (l.length - k)) → L_X2_payFor_4 M 36 fu (iI acc) (iI k) = some (iI (psum (fun m _ => rt n pr m) l), iI (l.length : Int)) := by
  have hn := hl.n_b
  intro r
  induction r with
  | zero =>
    intro fu k acc hk hf ha
    cases fu with
    | zero => omega
    | succ fu =>
      have hk' : k = l.length := by omega
      subst hk'
      rw [L_X2_payFor_4, hl.size, Option.bind_some, if_pos (by rw [iI_le] <;> omega)]
      rw [Nat.sub_self, List.drop_zero] at ha
      rw [ha]
  | succ r ih =>
    intro fu k acc hk hf ha
    cases fu with
    | zero => omega
    | succ fu =>
      have hkl : k < l.length := by omega
      have hq := hb _ (gx_mem (0, 0, 0) hkl)
      have hd' := drop_gx (0, 0, 0) hkl
      have hg0 := hl.get0 hkl
      have hg1 := hl.get1 hkl
      generalize gx l (0, 0, 0) k = q at hq hd' hg0 hg1
      obtain ⟨b, e, c⟩ := q
      dsimp only at hq hg0 hg1
      rw [← ih fu (k + 1) (acc + isum (rt n pr) b (e - b)) (by omega) (by omega) (by rw [hd', psum, ← ha])]
      rw [L_X2_payFor_4, hl.size, Option.bind_some, if_neg (by rw [iI_le] <;> omega), hg0, Option.bind_some, hg1, Option.bind_some, X2_so hp h hq.1 hq.2.2.1 hq.2.1, Option.bind_some]
      unfold bnd
      dsimp only
      rw [li_1, iI_add, iI_add]
      rfl
/-- what the premiums come to, by the minute -/
def ex (n : Nat) (pr : Nat → Nat → Nat) (p : Nat → Bool) : Nat → Int
  | 0 => 0
  | T + 1 => ex n pr p T + (if p T then rt n pr T else 0)
theorem ex_b {n : Nat} {pr : Nat → Nat → Nat} (hp : PmOK n pr) (p : Nat → Bool) : ∀ T, 0 ≤ ex n pr p T ∧ ex n pr p T ≤ 10000 * T
  | 0 => by simp [ex]
  | T + 1 => by
    have := ex_b hp p T
    have := rt_b hp T
    rw [ex]
    split <;> omega
theorem ex_msum (n : Nat) (pr : Nat → Nat → Nat) (p : Nat → Bool) (full : Bool) : ∀ T, msum p full (fun m _ => rt n pr m) T = ex n pr p T
  | 0 => rfl
  | T + 1 => by rw [msum, ex, ex_msum n pr p full T]
theorem X2_payFor {M : Mem} {n : Nat} {pr : Nat → Nat → Nat} (hp : PmOK n pr) (h : Tb M 31 n (pmf pr)) {p : Nat → Bool} {full : Bool} (hl : Tq M 36 (qq p full 10080)) : s_X2_payFor M 36 = some ((iI (ex n pr p 10080) + 30) / 60) := by
  have hn := hl.n_b
  have K := L_pf hp h hl (qq_bnd p full) (qq p full 10080).length FU 0 0 (by omega) (by rw [FU_0]; omega) (by simp [psum])
  rw [qq_psum, ex_msum] at K
  have K' : L_X2_payFor_4 M 36 FU 0 0 = some (iI (ex n pr p 10080), iI ((qq p full 10080).length : Int)) := K
  unfold s_X2_payFor
  rw [K']
  rfl

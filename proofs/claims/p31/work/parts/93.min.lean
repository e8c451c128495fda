/-! runs of minutes -/
def push (b e : Nat) : List (Nat × Nat) → List (Nat × Nat)
  | [] => [(b, e)]
  | (b', e') :: r => if e' = b then (b', e) :: r else (b, e) :: (b', e') :: r
/-- the runs of w below T, the last one first -/
def rr (w : Nat → Bool) : Nat → List (Nat × Nat)
  | 0 => []
  | T + 1 => if w T then push T (T + 1) (rr w T) else rr w T
def hdE : List (Nat × Nat) → Nat
  | [] => 0
  | q :: _ => q.2
/-- runs: each before the next, not touching, all below T -/
def RrOK : List (Nat × Nat) → Nat → Prop
  | [], _ => True
  | (b, e) :: r, T => b < e ∧ e ≤ T ∧ (r = [] ∨ hdE r < b) ∧ RrOK r b
theorem RrOK.mono : ∀ {l : List (Nat × Nat)} {T T' : Nat}, RrOK l T → T ≤ T' → RrOK l T'
  | [], _, _, _, _ => trivial
  | (_, _) :: _, _, _, h, hT => ⟨h.1, Nat.le_trans h.2.1 hT, h.2.2.1, h.2.2.2⟩
theorem RrOK.hd {l : List (Nat × Nat)} {T : Nat} (h : RrOK l T) : hdE l ≤ T := by
  cases l with
  | nil => exact Nat.zero_le _
  | cons q r => exact h.2.1
theorem push_ok {l : List (Nat × Nat)} {b e : Nat} (h : RrOK l b) (hbe : b < e) : RrOK (push b e l) e := by
  cases l with
  | nil => exact ⟨hbe, Nat.le_refl _, Or.inl rfl, trivial⟩
  | cons q r =>
    obtain ⟨b', e'⟩ := q
    obtain ⟨h1, h2, h3, h4⟩ := h
    rw [push]
    by_cases c : e' = b
    · rw [if_pos c]; exact ⟨by omega, Nat.le_refl _, h3, h4⟩
    · rw [if_neg c]; exact ⟨hbe, Nat.le_refl _, Or.inr (show e' < b by omega), h1, h2, h3, h4⟩
theorem rr_ok (w : Nat → Bool) : ∀ T, RrOK (rr w T) T
  | 0 => trivial
  | T + 1 => by
    unfold rr
    by_cases c : w T
    · rw [if_pos c]; exact push_ok (rr_ok w T) (by omega)
    · rw [if_neg c]; exact (rr_ok w T).mono (by omega)
theorem push_push {l : List (Nat × Nat)} {a b c : Nat} (h : RrOK l a) (hab : a < b) (hbc : b < c) : push b c (push a b l) = push a c l := by
  cases l with
  | nil => simp [push]
  | cons q r =>
    obtain ⟨b', e'⟩ := q
    by_cases c : e' = a
    · simp [push, c]
    · simp [push, c]
theorem rr_iv (w : Nat → Bool) {a : Nat} : ∀ T, a < T → (∀ m, a ≤ m → m < T → w m = true) → rr w T = push a T (rr w a)
  | 0, h, _ => by omega
  | T + 1, h, hw => by
    rw [rr, if_pos (hw T (by omega) (by omega))]
    by_cases c : a = T
    · subst c; rfl
    · rw [rr_iv w T (by omega) (fun m h1 h2 => hw m h1 (by omega))]
      exact push_push (rr_ok w a) (by omega) (by omega)
theorem rr_no (w : Nat → Bool) {a : Nat} : ∀ T, a ≤ T → (∀ m, a ≤ m → m < T → w m = false) → rr w T = rr w a
  | 0, h, _ => by rw [show a = 0 by omega]
  | T + 1, h, hw => by
    by_cases c : a = T + 1
    · rw [c]
    · rw [rr, if_neg (by rw [hw T (by omega) (by omega)]; decide)]
      exact rr_no w T (by omega) (fun m h1 h2 => hw m h1 (by omega))
/-- the length of the run that ends at T -/
def ln (w : Nat → Bool) : Nat → Nat
  | 0 => 0
  | T + 1 => if w T then ln w T + 1 else 0
theorem rr_ln (w : Nat → Bool) : ∀ T, (0 < ln w T → ∃ b r, rr w T = (b, T) :: r ∧ b + ln w T = T) ∧ (ln w T = 0 → T = 0 ∨ rr w T = [] ∨ hdE (rr w T) < T)
  | 0 => ⟨fun h => absurd h (by simp [ln]), fun _ => Or.inl rfl⟩
  | T + 1 => by
    obtain ⟨h1, h2⟩ := rr_ln w T
    have ho := rr_ok w T
    unfold rr ln
    by_cases c : w T
    · rw [if_pos c, if_pos c]
      refine ⟨fun _ => ?_, fun h => by omega⟩
      by_cases c2 : 0 < ln w T
      · obtain ⟨b, r, e1, e2⟩ := h1 c2
        refine ⟨b, r, ?_, by omega⟩
        rw [e1]; simp [push]
      · have c3 : ln w T = 0 := by omega
        refine ⟨T, rr w T, ?_, by omega⟩
        cases hr : rr w T with
        | nil => rfl
        | cons q r =>
          obtain ⟨b', e'⟩ := q
          rw [hr] at h2 ho
          rcases h2 c3 with h | h | h
          · have := ho.1; have := ho.2.1; omega
          · cases h
          · have hne : ¬ e' = T := by have : e' < T := h; omega
            rw [push, if_neg hne]
    · rw [if_neg c, if_neg c]
      refine ⟨fun h => by omega, fun _ => ?_⟩
      have := ho.hd
      exact Or.inr (Or.inr (by omega))
/-- how many runs, by the minute -/
theorem rr_length (w : Nat → Bool) (T : Nat) : (rr w (T + 1)).length = (rr w T).length + (if ln w (T + 1) = 1 then 1 else 0) := by
  obtain ⟨h1, h2⟩ := rr_ln w T
  have ho := rr_ok w T
  rw [rr, ln]
  by_cases c : w T
  · rw [if_pos c, if_pos c]
    by_cases c2 : 0 < ln w T
    · obtain ⟨b, r, e1, e2⟩ := h1 c2
      rw [e1, if_neg (by omega)]; simp [push]
    · have c3 : ln w T = 0 := by omega
      rw [if_pos (by omega)]
      cases hr : rr w T with
      | nil => rfl
      | cons q r =>
        obtain ⟨b', e'⟩ := q
        rw [hr] at h2 ho
        rcases h2 c3 with h | h | h
        · have := ho.1; have := ho.2.1; omega
        · cases h
        · have hne : ¬ e' = T := by have : e' < T := h; omega
          rw [push, if_neg hne]; rfl
  · rw [if_neg c, if_neg c]; simp
/-- the longest of the runs -/
def lg : List (Nat × Nat) → Nat
  | [] => 0
  | (b, e) :: r => max (lg r) (e - b)
theorem rr_lg (w : Nat → Bool) (T : Nat) : lg (rr w (T + 1)) = max (lg (rr w T)) (ln w (T + 1)) := by
  obtain ⟨h1, h2⟩ := rr_ln w T
  have ho := rr_ok w T
  rw [rr, ln]
  by_cases c : w T
  · rw [if_pos c, if_pos c]
    by_cases c2 : 0 < ln w T
    · obtain ⟨b, r, e1, e2⟩ := h1 c2
      rw [e1]
      simp only [push, if_true, lg]
      omega
    · have c3 : ln w T = 0 := by omega
      cases hr : rr w T with
      | nil => simp [push, lg, c3]
      | cons q r =>
        obtain ⟨b', e'⟩ := q
        rw [hr] at h2 ho
        rcases h2 c3 with h | h | h
        · have := ho.1; have := ho.2.1; omega
        · cases h
        · have hne : ¬ e' = T := by have : e' < T := h; omega
          rw [push, if_neg hne, lg, c3]
          congr 1
          omega
  · rw [if_neg c, if_neg c]; simp
/-- how many minutes of w lie in [lo, hi) below T -/
def ct (w : Nat → Bool) (lo hi : Nat) : Nat → Nat
  | 0 => 0
  | T + 1 => ct w lo hi T + (if w T ∧ lo ≤ T ∧ T < hi then 1 else 0)
def clp (lo hi : Nat) (q : Nat × Nat) : Nat := min q.2 hi - max q.1 lo
def cls (lo hi : Nat) : List (Nat × Nat) → Nat
  | [] => 0
  | q :: r => cls lo hi r + clp lo hi q
theorem cls_push {lo hi T : Nat} {l : List (Nat × Nat)} (h : RrOK l T) : cls lo hi (push T (T + 1) l) = cls lo hi l + (if lo ≤ T ∧ T < hi then 1 else 0) := by
  cases l with
  | nil =>
    simp only [push, cls, clp]
    split <;> omega
  | cons q r =>
    obtain ⟨b', e'⟩ := q
    have h1 := h.1
    rw [push]
    by_cases c : e' = T
    · rw [if_pos c]
      simp only [cls, clp]
      split <;> omega
    · rw [if_neg c]
      simp only [cls, clp]
      split <;> omega
theorem rr_cls (w : Nat → Bool) (lo hi : Nat) : ∀ T, cls lo hi (rr w T) = ct w lo hi T
  | 0 => rfl
  | T + 1 => by
    have ih := rr_cls w lo hi T
    rw [rr, ct]
    by_cases c : w T
    · rw [if_pos c, cls_push (rr_ok w T), ih]
      simp [c]
    · rw [if_neg c, ih]
      simp [c]
/-- the paid spans of a list of stretches -/
def tko : List (Nat × Nat) → List (Nat × Nat)
  | [] => []
  | (b, e) :: r => (if b + 390 < e then [(b + 390, e)] else []) ++ (b, min e (b + 360)) :: tko r
def pd (w : Nat → Bool) (m : Nat) : Bool := w m && !(decide (361 ≤ ln w (m + 1)) && decide (ln w (m + 1) ≤ 390))
theorem tko_hd : ∀ {l : List (Nat × Nat)} {T : Nat}, RrOK l T → l ≠ [] → tko l ≠ [] ∧ hdE (tko l) ≤ hdE l
  | [], _, _, h => absurd rfl h
  | (b, e) :: r, T, h, _ => by
    unfold tko
    by_cases c : b + 390 < e
    · rw [if_pos c]; exact ⟨by simp, Nat.le_refl _⟩
    · rw [if_neg c]; exact ⟨by simp, by show min e (b + 360) ≤ e; omega⟩
theorem push_new {l : List (Nat × Nat)} {b e : Nat} (h : l = [] ∨ hdE l ≠ b) : push b e l = (b, e) :: l := by
  cases l with
  | nil => rfl
  | cons q r =>
    obtain ⟨b', e'⟩ := q
    rcases h with h | h
    · cases h
    · have h' : ¬ e' = b := h
      rw [push, if_neg h']
theorem tko_rr (w : Nat → Bool) : ∀ T, tko (rr w T) = rr (pd w) T
  | 0 => rfl
  | T + 1 => by
    have ih := tko_rr w T
    obtain ⟨h1, h2⟩ := rr_ln w T
    have ho := rr_ok w T
    rw [rr, rr]
    by_cases c : w T
    · rw [if_pos c]
      have el : ln w (T + 1) = ln w T + 1 := by rw [ln, if_pos c]
      have ep : pd w T = !(decide (361 ≤ ln w T + 1) && decide (ln w T + 1 ≤ 390)) := by rw [pd, el, c, Bool.true_and]
      by_cases c2 : 0 < ln w T
      · obtain ⟨b, r, e1, e2⟩ := h1 c2
        rw [e1] at ih ho ⊢
        rw [← ih, ep]
        simp only [push, if_true, tko]
        by_cases k1 : ln w T + 1 ≤ 360
        · rw [if_neg (by omega), if_pos (by simp; omega), if_neg (by omega)]
          rw [show min (T + 1) (b + 360) = T + 1 by omega, show min T (b + 360) = T by omega]
          simp [push]
        · by_cases k2 : ln w T + 1 ≤ 390
          · rw [if_neg (by omega), if_neg (by simp; omega), if_neg (by omega)]
            rw [show min (T + 1) (b + 360) = b + 360 by omega, show min T (b + 360) = b + 360 by omega]
          · by_cases k3 : ln w T + 1 = 391
            · rw [if_pos (by omega), if_pos (by simp; omega), if_neg (by omega)]
              rw [show min (T + 1) (b + 360) = b + 360 by omega, show min T (b + 360) = b + 360 by omega, show b + 390 = T by omega]
              simp only [List.nil_append, List.cons_append]
              rw [if_neg (by omega)]
            · rw [if_pos (by omega), if_pos (by simp; omega), if_pos (by omega)]
              rw [show min (T + 1) (b + 360) = b + 360 by omega, show min T (b + 360) = b + 360 by omega]
              simp [push]
      · have c3 : ln w T = 0 := by omega
        rw [ep, if_pos (by simp; omega)]
        have hn : rr w T = [] ∨ hdE (rr w T) < T := by
          rcases h2 c3 with h | h | h
          · subst h; exact Or.inl rfl
          · exact Or.inl h
          · exact Or.inr h
        rw [push_new (hn.imp id (fun h => by omega)), tko, if_neg (by omega), show min (T + 1) (T + 360) = T + 1 by omega, ih, push_new]
        · rfl
        · rcases hn with h | h
          · left; rw [← ih, h]; rfl
          · by_cases h0 : rr w T = []
            · left; rw [← ih, h0]; rfl
            · right; rw [← ih]; have := (tko_hd ho h0).2; omega
    · rw [if_neg c, if_neg (by simp [pd, c]), ih]
/-- the count of the day and of the week before a minute -/
def od (p : Nat → Bool) : Nat → Nat
  | 0 => 0
  | T + 1 => if (T + 1) % 1440 = 0 then 0 else od p T + (if p T then 1 else 0)
def ow (p : Nat → Bool) : Nat → Nat
  | 0 => 0
  | T + 1 => ow p T + (if p T then 1 else 0)
def cat (d w : Nat) (x : Bool) : Nat := if 720 ≤ d ∨ (x = true ∧ 480 ≤ d) then 2 else if 480 ≤ d ∨ 2400 ≤ w ∨ x = true then 1 else 0
def xd (full : Bool) (m : Nat) : Bool := decide (m / 1440 = 6) && full
def cm (p : Nat → Bool) (full : Bool) (m : Nat) : Nat := cat (od p m) (ow p m) (xd full m)
/-- a minute at which a new part begins, though the minute before is paid -/
def cut (p : Nat → Bool) (T : Nat) : Bool := decide (T % 1440 = 0) || decide (od p T = 480) || decide (od p T = 720) || decide (ow p T = 2400)
/-- the parts below T, the last one first -/
def qq (p : Nat → Bool) (full : Bool) : Nat → List (Nat × Nat × Nat)
  | 0 => []
  | T + 1 => if p T then (match qq p full T with
    | [] => [(T, T + 1, cm p full T)]
    | (b, e, c) :: r => if e = T ∧ cut p T = false then (b, T + 1, c) :: r else (T, T + 1, cm p full T) :: (b, e, c) :: r) else qq p full T
def QOK (p : Nat → Bool) (full : Bool) (T : Nat) : List (Nat × Nat × Nat) → Prop
  | [] => ∀ m, m + 1 = T → p m = false
  | (b, e, c) :: r => (∀ m, m + 1 = T → (p m = true ↔ e = T)) ∧ e ≤ T ∧ (e = T → c = cm p full (T - 1)) ∧ ∀ q ∈ (b, e, c) :: r, q.1 < q.2.1 ∧ (q.2.1 - 1) / 1440 = q.1 / 1440 ∧ q.2.1 ≤ T ∧ q.2.2 ≤ 2
theorem cat_le (d w : Nat) (x : Bool) : cat d w x ≤ 2 := by
  unfold cat
  split
  · omega
  · split <;> omega
theorem cm_step (p : Nat → Bool) (full : Bool) (T : Nat) (hp : p T = true) (hc : cut p (T + 1) = false) : cm p full (T + 1) = cm p full T := by
  simp only [cut, Bool.or_eq_false_iff, decide_eq_false_iff_not] at hc
  obtain ⟨⟨⟨h1, h2⟩, h3⟩, h4⟩ := hc
  have e1 : od p (T + 1) = od p T + 1 := by rw [od, if_neg h1, if_pos hp]
  have e2 : ow p (T + 1) = ow p T + 1 := by rw [ow, if_pos hp]
  have e3 : xd full (T + 1) = xd full T := by
    unfold xd
    rw [show (T + 1) / 1440 = T / 1440 by omega]
  unfold cm
  rw [e1] at h2 h3 ⊢
  rw [e2] at h4 ⊢
  rw [e3]
  generalize xd full T = x
  unfold cat
  cases x <;> simp <;> (repeat' split) <;> omega
theorem qq_ok (p : Nat → Bool) (full : Bool) : ∀ T, QOK p full T (qq p full T)
  | 0 => fun m h => by omega
  | T + 1 => by
    have ih := qq_ok p full T
    rw [qq]
    by_cases c : p T
    · rw [if_pos c]
      cases hq : qq p full T with
      | nil =>
        refine ⟨fun m hm => ?_, Nat.le_refl _, fun _ => rfl, fun q hq => ?_⟩
        · rw [show m = T by omega]; exact ⟨fun _ => rfl, fun _ => c⟩
        · simp only [List.mem_singleton] at hq
          subst hq
          exact ⟨by simp, by simp, Nat.le_refl _, cat_le _ _ _⟩
      | cons q r =>
        obtain ⟨b, e, k⟩ := q
        rw [hq] at ih
        obtain ⟨h1, h2, h3, h4⟩ := ih
        have hb := h4 _ List.mem_cons_self
        dsimp only at hb
        by_cases c2 : e = T ∧ cut p T = false
        · simp only [if_pos c2]
          obtain ⟨rfl, c3⟩ := c2
          have hm0 : e % 1440 ≠ 0 := by
            simp only [cut, Bool.or_eq_false_iff, decide_eq_false_iff_not] at c3
            exact c3.1.1.1
          obtain ⟨e0, he0⟩ : ∃ e0, e = e0 + 1 := ⟨e - 1, by omega⟩
          refine ⟨fun m hm => ?_, Nat.le_refl _, fun _ => ?_, fun q hq => ?_⟩
          · rw [show m = e by omega]; exact ⟨fun _ => rfl, fun _ => c⟩
          · rw [h3 rfl, Nat.add_sub_cancel, he0, Nat.add_sub_cancel]
            refine (cm_step p full e0 ((h1 e0 he0.symm).mpr rfl) ?_).symm
            rw [← he0]; exact c3
          · rcases List.mem_cons.mp hq with rfl | hq
            · dsimp only
              refine ⟨by omega, by omega, Nat.le_refl _, hb.2.2.2⟩
            · have := h4 q (List.mem_cons_of_mem _ hq)
              exact ⟨this.1, this.2.1, by omega, this.2.2.2⟩
        · simp only [if_neg c2]
          refine ⟨fun m hm => ?_, Nat.le_refl _, fun _ => rfl, fun q hq => ?_⟩
          · rw [show m = T by omega]; exact ⟨fun _ => rfl, fun _ => c⟩
          · rcases List.mem_cons.mp hq with rfl | hq
            · exact ⟨by simp, by simp, Nat.le_refl _, cat_le _ _ _⟩
            · have := h4 q hq
              exact ⟨this.1, this.2.1, by omega, this.2.2.2⟩
    · rw [if_neg c]
      cases hq : qq p full T with
      | nil => intro m hm; rw [show m = T by omega]; simpa using c
      | cons q r =>
        obtain ⟨b, e, k⟩ := q
        rw [hq] at ih
        obtain ⟨h1, h2, h3, h4⟩ := ih
        refine ⟨fun m hm => ?_, by omega, fun h => by omega, fun q hq => ?_⟩
        · rw [show m = T by omega]; exact ⟨fun h => absurd h c, fun h => by omega⟩
        · have := h4 q hq
          exact ⟨this.1, this.2.1, by omega, this.2.2.2⟩
def hdQ : List (Nat × Nat × Nat) → Nat
  | [] => 0
  | q :: _ => q.2.1
theorem qq_hd (p : Nat → Bool) (full : Bool) : ∀ T, (qq p full T = [] ↔ rr p T = []) ∧ hdQ (qq p full T) = hdE (rr p T)
  | 0 => ⟨⟨fun _ => rfl, fun _ => rfl⟩, rfl⟩
  | T + 1 => by
    obtain ⟨h1, h2⟩ := qq_hd p full T
    rw [qq, rr]
    by_cases c : p T
    · rw [if_pos c, if_pos c]
      cases hq : qq p full T with
      | nil =>
        rw [h1.mp hq]
        exact ⟨by simp [push], rfl⟩
      | cons q r =>
        obtain ⟨b, e, k⟩ := q
        cases hr : rr p T with
        | nil => rw [h1.mpr hr] at hq; cases hq
        | cons q' r' =>
          obtain ⟨b', e'⟩ := q'
          dsimp only
          rw [push]
          by_cases c1 : e = T ∧ cut p T = false
          · rw [if_pos c1]
            by_cases c2 : e' = T
            · rw [if_pos c2]; exact ⟨by simp, rfl⟩
            · rw [if_neg c2]; exact ⟨by simp, rfl⟩
          · rw [if_neg c1]
            by_cases c2 : e' = T
            · rw [if_pos c2]; exact ⟨by simp, rfl⟩
            · rw [if_neg c2]; exact ⟨by simp, rfl⟩
    · rw [if_neg c, if_neg c]
      exact ⟨h1, h2⟩
/-- how many parts there are at most -/
theorem qq_length (p : Nat → Bool) (full : Bool) : ∀ T, (qq p full T).length ≤ (rr p T).length + (T + 1439) / 1440 + 2 * (T / 1440) + (if T % 1440 ≠ 0 ∧ 480 < od p T then 1 else 0) + (if T % 1440 ≠ 0 ∧ 720 < od p T then 1 else 0) + (if 2400 < ow p T then 1 else 0)
  | 0 => by simp [qq]
  | T + 1 => by
    have ih := qq_length p full T
    obtain ⟨h1, h2⟩ := qq_hd p full T
    have hd0 : T % 1440 = 0 → od p T = 0 := by
      intro h
      cases T with
      | zero => rfl
      | succ T => rw [od, if_pos h]
    have hod : od p (T + 1) = if (T + 1) % 1440 = 0 then 0 else od p T + (if p T then 1 else 0) := rfl
    have how : ow p (T + 1) = ow p T + (if p T then 1 else 0) := rfl
    rw [hod, how, qq, rr]
    by_cases c : p T
    · simp only [if_pos c]
      have hx : T % 1440 = 0 ∨ od p T = 480 ∨ od p T = 720 ∨ ow p T = 2400 ∨ cut p T = false := by
        by_cases c' : cut p T = false
        · exact Or.inr (Or.inr (Or.inr (Or.inr c')))
        · simp only [cut, Bool.not_eq_false, Bool.or_eq_true, decide_eq_true_eq] at c'
          omega
      cases hq : qq p full T with
      | nil =>
        rw [h1.mp hq]
        simp only [push, List.length_cons, List.length_nil]
        split <;> split <;> split <;> omega
      | cons q r =>
        obtain ⟨b, e, k⟩ := q
        cases hr : rr p T with
        | nil => rw [h1.mpr hr] at hq; cases hq
        | cons q' r' =>
          obtain ⟨b', e'⟩ := q'
          rw [hq, hr] at h2 ih
          have h2 : e = e' := h2
          subst h2
          simp only [push, List.length_cons] at ih ⊢
          by_cases c2 : e = T
          · rw [if_pos c2]
            by_cases c3 : cut p T = false
            · rw [if_pos ⟨c2, c3⟩]
              simp only [List.length_cons]
              have hm0 : T % 1440 ≠ 0 ∧ od p T ≠ 480 ∧ od p T ≠ 720 ∧ ow p T ≠ 2400 := by
                simp only [cut, Bool.or_eq_false_iff, decide_eq_false_iff_not] at c3
                exact ⟨c3.1.1.1, c3.1.1.2, c3.1.2, c3.2⟩
              clear h1 hq hr hod how
              split at ih <;> split at ih <;> split at ih <;> (repeat' split) <;> omega
            · rw [if_neg (fun h => c3 h.2)]
              simp only [List.length_cons]
              have hx' : T % 1440 = 0 ∨ od p T = 480 ∨ od p T = 720 ∨ ow p T = 2400 := by
                rcases hx with h | h | h | h | h
                · exact Or.inl h
                · exact Or.inr (Or.inl h)
                · exact Or.inr (Or.inr (Or.inl h))
                · exact Or.inr (Or.inr (Or.inr h))
                · exact absurd h c3
              clear h1 hq hr hod how
              split at ih <;> split at ih <;> split at ih <;> (repeat' split) <;> omega
          · rw [if_neg c2, if_neg (fun h => c2 h.1)]
            simp only [List.length_cons]
            clear h1 hq hr hod how
            split at ih <;> split at ih <;> split at ih <;> (repeat' split) <;> omega
    · simp only [if_neg c]
      clear h1 h2 hod how
      split at ih <;> split at ih <;> split at ih <;> (repeat' split) <;> omega
/-- sums of g over the minutes from b on, n of them -/
def isum (g : Nat → Int) (b : Nat) : Nat → Int
  | 0 => 0
  | n + 1 => isum g b n + g (b + n)
def psum (g : Nat → Nat → Int) : List (Nat × Nat × Nat) → Int
  | [] => 0
  | (b, e, c) :: r => psum g r + isum (fun m => g m c) b (e - b)
/-- the same sum by the minute -/
def msum (p : Nat → Bool) (full : Bool) (g : Nat → Nat → Int) : Nat → Int
  | 0 => 0
  | T + 1 => msum p full g T + (if p T then g T (cm p full T) else 0)
theorem qq_psum (p : Nat → Bool) (full : Bool) (g : Nat → Nat → Int) : ∀ T, psum g (qq p full T) = msum p full g T
  | 0 => rfl
  | T + 1 => by
    have ih := qq_psum p full g T
    have ho := qq_ok p full T
    have ho1 := qq_ok p full (T + 1)
    rw [msum, qq]
    rw [qq] at ho1
    by_cases c : p T
    · rw [if_pos c, if_pos c]
      rw [if_pos c] at ho1
      cases hq : qq p full T with
      | nil =>
        rw [hq] at ih
        simp [psum, isum, ← ih, Nat.add_sub_cancel_left]
      | cons q r =>
        obtain ⟨b, e, k⟩ := q
        rw [hq] at ih ho ho1
        dsimp only at ho1 ⊢
        have hb := ho.2.2.2 _ List.mem_cons_self
        dsimp only at hb
        by_cases c2 : e = T ∧ cut p T = false
        · rw [if_pos c2] at ho1 ⊢
          have hk : k = cm p full T := by have := ho1.2.2.1 rfl; rwa [Nat.add_sub_cancel] at this
          rw [← ih, psum, psum, c2.1, show T + 1 - b = (T - b) + 1 by omega, isum, show b + (T - b) = T by omega, ← hk]
          omega
        · rw [if_neg c2, ← ih, psum]
          simp [isum, Nat.add_sub_cancel_left]
    · rw [if_neg c, if_neg c, ih]
      omega

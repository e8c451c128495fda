theorem X3_read {t n : Nat} {tm : Nat → Nat} {inn : Nat → Bool} {M : Mem} (hp : PnOK n tm) (ht : t ≠ 44 ∧ t + 1 ≠ 44 ∧ t ≠ 45 ∧ t ≠ 43 ∧ t + 1 ≠ 43) (h : Tb M t n (pnf tm inn)) : ∃ M', s_X3_read M t = some M' ∧ Tl M' 44 (shL n tm inn n) ∧ M' 43 1 = iI (shR n inn n : Nat) ∧ ∀ k, k ≠ 43 → k ≠ 44 → k ≠ 45 → M' k = M k := by
  have hp1 := hp.1
  obtain ⟨M1, a1, a2, a3⟩ := X4_clear M 44 (spf [])
  have h1 : Tb (mst M1 43 1 0) t n (pnf tm inn) := h.congr (by rw [mst_k _ _ _ _ ht.2.2.2.1, a3.1 t ht.1 ht.2.2.1]) (by rw [mst_k _ _ _ _ ht.2.2.2.2, a3.1 (t + 1) ht.2.1 (by omega)])
  have a2' : Tl M1 44 [] := a2
  have hT : Tl (mst M1 43 1 0) 44 [] := a2'.congr (by rw [mst_k _ _ _ _ (by omega)]) (by rw [mst_k _ _ _ _ (by omega)])
  obtain ⟨y, M', b1, b2, b3, b4⟩ := L_X3 hp ht n FU 0 (mst M1 43 1 0) h1 hT (by rw [mst_a, if_pos rfl, if_pos rfl]; rfl) (by omega) (by rw [FU_0]; omega)
  refine ⟨M', ?_, b2, b3, fun k k1 k2 k3 => ?_⟩
  · unfold s_X3_read
    rw [a1, Option.bind_some]
    unfold bnd
    dsimp only
    have b1' : L_X3_read_14 t FU 0 (mst M1 43 1 0) = some (y, M') := b1
    rw [b1']
    rfl
  · rw [b4 k k1 k2 k3, mst_k _ _ _ _ k1, a3.1 k k2 k3]
theorem cc_end (m : Nat) : ∀ l : List (Nat × Nat), (∀ q ∈ l, q.2 ≤ m) → cc m l = 0
  | [], _ => rfl
  | q :: r, h => by
    rw [cc, cc_end m r (fun q' hq => h q' (List.mem_cons_of_mem _ hq)), if_neg]
    have := h q List.mem_cons_self
    omega
def SpOK (l : List (Nat × Nat)) (n : Nat) : Prop := l.length ≤ n ∧ ∀ q ∈ l, q.1 ≤ q.2 ∧ q.2 ≤ 10080
/-- what covers a minute, and what breaks it off -/
def cvr (S E : List (Nat × Nat)) (m : Nat) : Int := (cc m S : Int) + (cc m E : Int)
def brk (B : List (Nat × Nat)) (m : Nat) : Int := (cc m B : Int)
theorem X5_read {e n : Nat} {tm : Nat → Nat} {inn : Nat → Bool} {E B : List (Nat × Nat)} {M : Mem} (he : 46 ≤ e) (hp : PnOK n tm) (h : Tb M (e + 1) n (pnf tm inn)) (hE : Tl M (e + 3) E) (hB : Tl M (e + 5) B) (hE' : SpOK E 20) (hB' : SpOK B 20) : ∃ M', s_X5_read M e = some M' ∧ Tl M' 44 (shL n tm inn n) ∧ M' 43 1 = iI (shR n inn n : Nat) ∧ Tl M' 41 (rr (wk (cvr (shL n tm inn n) E) (brk B)) 10080) ∧ M' 38 3 = iI (db (cvr (shL n tm inn n) E) 10080 : Nat) ∧ (rr (wk (cvr (shL n tm inn n) E) (brk B)) 10080).length ≤ 80 ∧ ∀ k, (k < 38 ∨ 45 < k) → M' k = M k := by
  obtain ⟨M1, a1, a2, a3, a4⟩ := X3_read hp (t := e + 1) (by omega) h
  have hS := shL_ok hp inn n (Nat.le_refl _)
  have hSl := shL_len n tm inn n
  have hp1 := hp.1
  generalize shL n tm inn n = S at a2 hS hSl ⊢
  obtain ⟨M2, b1, b2, b3⟩ := X4_clear M1 39 (fun _ _ => 0)
  have hEv : Ev M2 0 (fun _ _ => 0) (fun _ => 0) (fun _ => 0) 0 := ⟨b2, fun i j _ hj => by omega, fun i hi => by omega, fun _ => rfl, fun _ => rfl, rfl⟩
  have c2 : Tl M2 44 S := a2.fr b3 (by decide) (by decide) (by decide)
  obtain ⟨M3, g3, C3, B3, d1, d2, d3, d4, d5⟩ := X5_addEvents (t := 44) (by decide) hS (c := 1) (b := 0) (Or.inl ⟨rfl, rfl⟩) c2 hEv (by omega)
  have hE3 : Tl M3 (e + 3) E := by
    refine hE.congr ?_ ?_
    · rw [d5.1 _ (by omega) (by omega), b3.1 _ (by omega) (by omega), a4 _ (by omega) (by omega) (by omega)]
    · rw [d5.1 _ (by omega) (by omega), b3.1 _ (by omega) (by omega), a4 _ (by omega) (by omega) (by omega)]
  have hEl := hE'.1
  have hBl := hB'.1
  obtain ⟨M4, g4, C4, B4, e1, e2, e3, e4, e5⟩ := X5_addEvents (t := e + 3) (by omega) hE'.2 (c := 1) (b := 0) (Or.inl ⟨rfl, rfl⟩) hE3 d2 (by omega)
  have hB4 : Tl M4 (e + 5) B := by
    refine hB.congr ?_ ?_
    · rw [e5.1 _ (by omega) (by omega), d5.1 _ (by omega) (by omega), b3.1 _ (by omega) (by omega), a4 _ (by omega) (by omega) (by omega)]
    · rw [e5.1 _ (by omega) (by omega), d5.1 _ (by omega) (by omega), b3.1 _ (by omega) (by omega), a4 _ (by omega) (by omega) (by omega)]
  obtain ⟨M5, g5, C5, B5, f1, f2, f3, f4, f5⟩ := X5_addEvents (t := e + 5) (by omega) hB'.2 (c := 0) (b := 1) (Or.inr ⟨rfl, rfl⟩) hB4 e2 (by omega)
  have hC : C5 = cvr S E := by
    funext m
    rw [f3, e3, d3]
    unfold cvr
    omega
  have hBk : B5 = brk B := by
    funext m
    rw [f4, e4, d4]
    unfold brk
    omega
  rw [hC, hBk] at f2
  have hC0 : cvr S E 10080 = 0 := by
    unfold cvr
    rw [cc_end 10080 S (fun q hq => (hS q hq).2), cc_end 10080 E (fun q hq => (hE'.2 q hq).2)]
    rfl
  have hB0 : ∀ m, 0 ≤ brk B m := fun m => by unfold brk; omega
  obtain ⟨M6, k1, k2, k3, k4⟩ := X5_go f2 (by omega) hB0 (by omega) hC0
  refine ⟨M6, ?_, ?_, ?_, k2, k3, rr_capP f2 hB0 (by omega) 10080, fun k hk => ?_⟩
  · unfold s_X5_read
    have d1' : s_X5_addEvents M2 44 1 0 = some M3 := d1
    have e1' : s_X5_addEvents M3 (e + 3) 1 0 = some M4 := e1
    have f1' : s_X5_addEvents M4 (e + 5) 0 1 = some M5 := f1
    rw [a1, Option.bind_some, b1, Option.bind_some, d1', Option.bind_some, e1', Option.bind_some, f1', Option.bind_some, k1]
    rfl
  · refine a2.congr ?_ ?_
    · rw [k4 _ (by omega) (by omega) (by omega), f5.1 _ (by omega) (by omega), e5.1 _ (by omega) (by omega), d5.1 _ (by omega) (by omega), b3.1 _ (by omega) (by omega)]
    · rw [k4 _ (by omega) (by omega) (by omega), f5.1 _ (by omega) (by omega), e5.1 _ (by omega) (by omega), d5.1 _ (by omega) (by omega), b3.1 _ (by omega) (by omega)]
  · rw [k4 _ (by omega) (by omega) (by omega), f5.1 _ (by omega) (by omega), e5.1 _ (by omega) (by omega), d5.1 _ (by omega) (by omega), b3.1 _ (by omega) (by omega), a3]
  · rw [k4 _ (by omega) (by omega) (by omega), f5.1 _ (by omega) (by omega), e5.1 _ (by omega) (by omega), d5.1 _ (by omega) (by omega), b3.1 _ (by omega) (by omega), a4 _ (by omega) (by omega) (by omega)]

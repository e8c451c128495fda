def pmf (pr : Nat → Nat → Nat) (i c : Nat) : Int := (pr i c : Int)
theorem L_nc {M : Mem} {n : Nat} {pr : Nat → Nat → Nat} (hp : PmOK n pr) (h : Tb M 31 n (pmf pr)) {u : Nat} (hu : u < 1440) : ∀ (r fu k : Nat), k + r = n → r < fu → L_X2_nextChange_6 M (iI u) fu (iI (nc pr u k : Nat)) (iI k) = some (iI (nc pr u n : Nat), iI (n : Int)) := by
  have hn := hp.1
  intro r
  induction r with
  | zero =>
    intro fu k hk hf
    cases fu with
    | zero => omega
    | succ fu =>
      have hk' : k = n := by omega
      subst hk'
      rw [L_X2_nextChange_6, X4_size h, Option.bind_some, if_pos (by rw [iI_le] <;> omega)]
  | succ r ih =>
    intro fu k hk hf
    cases fu with
    | zero => omega
    | succ fu =>
      have hb := hp.2 k (by omega)
      have hnc := nc_b hu k (pr := pr)
      have g1 : s_X4_get M 31 (iI (k : Int)) 1 = some (iI (pr k 1 : Int)) := X4_get h (i := k) (c := 1) (by omega) (by decide)
      have g2 : s_X4_get M 31 (iI (k : Int)) 2 = some (iI (pr k 2 : Int)) := X4_get h (i := k) (c := 2) (by omega) (by decide)
      rw [← ih fu (k + 1) (by omega) (by omega), L_X2_nextChange_6, X4_size h, Option.bind_some, if_neg (by rw [iI_le] <;> omega), g1, Option.bind_some, g2, Option.bind_some]
      have e1 : (if iI (pr k 1 : Int) ≤ iI (u : Int) then iI (nc pr u k : Nat) else (if iI (pr k 1 : Int) < iI (nc pr u k : Nat) then iI (pr k 1 : Int) else iI (nc pr u k : Nat))) = iI ((if u < pr k 1 then min (nc pr u k) (pr k 1) else nc pr u k : Nat) : Int) := by
        rw [iI_mn (by omega) (by omega)]
        by_cases c : u < pr k 1
        · rw [if_neg (by rw [iI_le] <;> omega), if_pos c]; congr 1; omega
        · rw [if_pos (by rw [iI_le] <;> omega), if_neg c]
      have hx : (if u < pr k 1 then min (nc pr u k) (pr k 1) else nc pr u k) ≤ 1440 := by split <;> omega
      have ex : nc pr u (k + 1) = (fun x => if u < pr k 2 then min x (pr k 2) else x) (if u < pr k 1 then min (nc pr u k) (pr k 1) else nc pr u k) := rfl
      rw [e1, ex]
      generalize (if u < pr k 1 then min (nc pr u k) (pr k 1) else nc pr u k) = x at hx ⊢
      have e2 : (if iI (pr k 2 : Int) ≤ iI (u : Int) then iI (x : Int) else (if iI (pr k 2 : Int) < iI (x : Int) then iI (pr k 2 : Int) else iI (x : Int))) = iI ((if u < pr k 2 then min x (pr k 2) else x : Nat) : Int) := by
        rw [iI_mn (by omega) (by omega)]
        by_cases c : u < pr k 2
        · rw [if_neg (by rw [iI_le] <;> omega), if_pos c]; congr 1; omega
        · rw [if_pos (by rw [iI_le] <;> omega), if_neg c]
      unfold bnd
      dsimp only
      rw [e2, li_1, iI_add]
      rfl
theorem X2_nc {M : Mem} {n : Nat} {pr : Nat → Nat → Nat} (hp : PmOK n pr) (h : Tb M 31 n (pmf pr)) {u : Nat} (hu : u < 1440) : s_X2_nextChange M (iI u) = some (iI (nc pr u n : Nat)) := by
  have hn := hp.1
  have K : L_X2_nextChange_6 M (iI u) FU 1440 0 = some (iI (nc pr u n : Nat), iI (n : Int)) := L_nc hp h hu n FU 0 (by omega) (by rw [FU_0]; omega)
  unfold s_X2_nextChange
  rw [K]
  rfl
theorem L_gr {M : Mem} {n : Nat} {pr : Nat → Nat → Nat} (hp : PmOK n pr) (h : Tb M 31 n (pmf pr)) {d u : Nat} (hd : d < 7) (hu : u < 1440) : ∀ (r fu k : Nat), k + r = n → r < fu → L_X2_greatestRate_5 M (iI d) (iI u) fu (iI (gr pr d u k : Nat)) (iI k) = some (iI (gr pr d u n : Nat), iI (n : Int)) := by
  have hn := hp.1
  intro r
  induction r with
  | zero =>
    intro fu k hk hf
    cases fu with
    | zero => omega
    | succ fu =>
      have hk' : k = n := by omega
      subst hk'
      rw [L_X2_greatestRate_5, X4_size h, Option.bind_some, if_pos (by rw [iI_le] <;> omega)]
  | succ r ih =>
    intro fu k hk hf
    cases fu with
    | zero => omega
    | succ fu =>
      have hb := hp.2 k (by omega)
      have hgr := gr_le hp k (by omega) (d := d) (u := u)
      have g0 : s_X4_get M 31 (iI (k : Int)) 0 = some (iI (pr k 0 : Int)) := X4_get h (i := k) (c := 0) (by omega) (by decide)
      have g1 : s_X4_get M 31 (iI (k : Int)) 1 = some (iI (pr k 1 : Int)) := X4_get h (i := k) (c := 1) (by omega) (by decide)
      have g2 : s_X4_get M 31 (iI (k : Int)) 2 = some (iI (pr k 2 : Int)) := X4_get h (i := k) (c := 2) (by omega) (by decide)
      have g3 : s_X4_get M 31 (iI (k : Int)) 3 = some (iI (pr k 3 : Int)) := X4_get h (i := k) (c := 3) (by omega) (by decide)
      rw [← ih fu (k + 1) (by omega) (by omega), L_X2_greatestRate_5, X4_size h, Option.bind_some, if_neg (by rw [iI_le] <;> omega), g0, Option.bind_some]
      have e0 : (if ((iI (pr k 0 : Int) >>> (iI (d : Int) &&& 31)) &&& 1) = 1 then (1 : Int32) else 0) = bI (onD (pr k 0) d) := by
        unfold onD bI
        by_cases c : ((iI (pr k 0 : Int) >>> (iI (d : Int) &&& 31)) &&& 1) = 1
        · rw [if_pos c, decide_eq_true c]; rfl
        · rw [if_neg c, decide_eq_false c]; rfl
      rw [e0, g1, g2, g3, gr]
      unfold bnd
      dsimp only
      rw [Option.bind_some, Option.bind_some, X2_btw hu hb.2.1 hb.2.2.1, Option.bind_some, Option.bind_some, li_1, iI_add]
      cases c1 : onD (pr k 0) d with
      | false =>
        rw [if_pos (by rfl), if_neg (by simp), Option.bind_some]
        rfl
      | true =>
        rw [if_neg (by decide)]
        cases c2 : btw u (pr k 1) (pr k 2) with
        | false =>
          rw [if_pos (by rfl), if_neg (by simp), Option.bind_some]
          rfl
        | true =>
          rw [if_neg (by decide), Option.bind_some, iI_mx (by omega) (by omega), if_pos ⟨rfl, rfl⟩]
          rw [show max ((gr pr d u k : Nat) : Int) ((pr k 3 : Nat) : Int) = ((max (gr pr d u k) (pr k 3) : Nat) : Int) by omega]
          rfl
theorem X2_gr {M : Mem} {n : Nat} {pr : Nat → Nat → Nat} (hp : PmOK n pr) (h : Tb M 31 n (pmf pr)) {d u : Nat} (hd : d < 7) (hu : u < 1440) : s_X2_greatestRate M (iI d) (iI u) = some (iI (gr pr d u n : Nat)) := by
  have hn := hp.1
  have K : L_X2_greatestRate_5 M (iI d) (iI u) FU 0 0 = some (iI (gr pr d u n : Nat), iI (n : Int)) := L_gr hp h hd hu n FU 0 (by omega) (by rw [FU_0]; omega)
  unfold s_X2_greatestRate
  rw [K]
  rfl

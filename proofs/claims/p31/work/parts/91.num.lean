/-! THE MATH. Numbers: an int as the image of an integer. -/
def iI (z : Int) : Int32 := Int32.ofInt z
theorem iI_add (a b : Int) : iI a + iI b = iI (a + b) := (Int32.ofInt_add a b).symm
theorem iI_sub (a b : Int) : iI a - iI b = iI (a - b) := (Int32.ofInt_sub a b).symm
theorem iI_mul (a b : Int) : iI a * iI b = iI (a * b) := (Int32.ofInt_mul a b).symm
theorem iI_neg (a : Int) : -iI a = iI (-a) := (Int32.ofInt_neg a).symm
theorem iI_nI (n : Nat) : nI n = iI (n : Int) := Int32.ofInt_eq_ofNat.symm
theorem iI_toInt {a : Int} (h : -2147483648 ≤ a ∧ a < 2147483648) : (iI a).toInt = a := Int32.toInt_ofInt_of_le h.1 h.2
theorem iI_ex (x : Int32) : ∃ a : Int, x = iI a ∧ -2147483648 ≤ a ∧ a < 2147483648 := ⟨x.toInt, (Int32.ofInt_toInt x).symm, Int32.le_toInt x, Int32.toInt_lt x⟩
theorem iI_lt {a b : Int} (ha : -2147483648 ≤ a ∧ a < 2147483648) (hb : -2147483648 ≤ b ∧ b < 2147483648) : iI a < iI b ↔ a < b := by
  rw [Int32.lt_iff_toInt_lt, iI_toInt ha, iI_toInt hb]
theorem iI_le {a b : Int} (ha : -2147483648 ≤ a ∧ a < 2147483648) (hb : -2147483648 ≤ b ∧ b < 2147483648) : iI a ≤ iI b ↔ a ≤ b := by
  rw [Int32.le_iff_toInt_le, iI_toInt ha, iI_toInt hb]
theorem iI_eq {a b : Int} (ha : -2147483648 ≤ a ∧ a < 2147483648) (hb : -2147483648 ≤ b ∧ b < 2147483648) : iI a = iI b ↔ a = b := by
  rw [← Int32.toInt_inj, iI_toInt ha, iI_toInt hb]
theorem iI_div {a b : Int} (ha : 0 ≤ a ∧ a < 2147483648) (hb : 0 < b ∧ b < 2147483648) : iI a / iI b = iI (a / b) := by
  apply Int32.toInt_inj.mp
  have h0 : (iI a).toInt = a := iI_toInt ⟨by omega, ha.2⟩
  have h1 : (iI b).toInt = b := iI_toInt ⟨by omega, hb.2⟩
  have hne : iI a ≠ Int32.minValue := by
    intro h
    have := congrArg Int32.toInt h
    rw [h0, show Int32.minValue.toInt = -2147483648 from by decide] at this
    omega
  have h2 : 0 ≤ a / b := Int.ediv_nonneg ha.1 (by omega)
  have h3 : a / b ≤ a := Int.ediv_le_self b ha.1
  rw [Int32.toInt_div_of_ne_left _ _ hne, h0, h1, iI_toInt ⟨by omega, by omega⟩, Int.tdiv_eq_ediv_of_nonneg ha.1]
theorem iI_cl {a : Int} (h : 0 ≤ a ∧ a < 2147483648) : (iI a).toNatClampNeg = a.toNat := Int32.toNatClampNeg_ofInt_of_le (by omega) h.2
theorem mrd_i {n : Nat} {f : Nat → Int32} {i : Int} (h0 : 0 ≤ i ∧ i < 2147483648) (h : i < n) : mrd n f (iI i) = some (f i.toNat) := by
  unfold mrd
  rw [iI_cl h0, if_neg]
  rintro (h1 | h1)
  · rw [show (0 : Int32) = iI 0 from rfl, iI_lt ⟨by omega, by omega⟩ ⟨by omega, by omega⟩] at h1
    omega
  · omega
theorem mwr_i {n : Nat} {M : Mem} {k : Nat} {i : Int} {v : Int32} (h0 : 0 ≤ i ∧ i < 2147483648) (h : i < n) : mwr n M k (iI i) v = some (mst M k i.toNat v) := by
  unfold mwr
  rw [iI_cl h0, if_neg]
  rintro (h1 | h1)
  · rw [show (0 : Int32) = iI 0 from rfl, iI_lt ⟨by omega, by omega⟩ ⟨by omega, by omega⟩] at h1
    omega
  · omega
theorem mst_a (M : Mem) (k j : Nat) (v : Int32) (k' j' : Nat) : mst M k j v k' j' = if k' = k then (if j' = j then v else M k' j') else M k' j' := by
  unfold mst upd
  by_cases h : k' = k
  · subst h; simp
  · simp [h]
theorem mst_k (M : Mem) (k j : Nat) (v : Int32) {k' : Nat} (h : k' ≠ k) : mst M k j v k' = M k' := by simp [mst, h]
theorem FU_0 : FU = 20000 := rfl
theorem li_0 : (0 : Int32) = iI 0 := rfl
theorem li_1 : (1 : Int32) = iI 1 := rfl
theorem li_2 : (2 : Int32) = iI 2 := rfl
theorem li_3 : (3 : Int32) = iI 3 := rfl
theorem li_4 : (4 : Int32) = iI 4 := rfl
theorem li_6 : (6 : Int32) = iI 6 := rfl
theorem li_7 : (7 : Int32) = iI 7 := rfl
theorem li_8 : (8 : Int32) = iI 8 := rfl
theorem li_15 : (15 : Int32) = iI 15 := rfl
theorem li_20 : (20 : Int32) = iI 20 := rfl
theorem li_21 : (21 : Int32) = iI 21 := rfl
theorem li_30 : (30 : Int32) = iI 30 := rfl
theorem li_31 : (31 : Int32) = iI 31 := rfl
theorem li_40 : (40 : Int32) = iI 40 := rfl
theorem li_41 : (41 : Int32) = iI 41 := rfl
theorem li_60 : (60 : Int32) = iI 60 := rfl
theorem li_127 : (127 : Int32) = iI 127 := rfl
theorem li_360 : (360 : Int32) = iI 360 := rfl
theorem li_361 : (361 : Int32) = iI 361 := rfl
theorem li_390 : (390 : Int32) = iI 390 := rfl
theorem li_480 : (480 : Int32) = iI 480 := rfl
theorem li_720 : (720 : Int32) = iI 720 := rfl
theorem li_1439 : (1439 : Int32) = iI 1439 := rfl
theorem li_1440 : (1440 : Int32) = iI 1440 := rfl
theorem li_2400 : (2400 : Int32) = iI 2400 := rfl
theorem li_10079 : (10079 : Int32) = iI 10079 := rfl
theorem li_10080 : (10080 : Int32) = iI 10080 := rfl
theorem li_100000 : (100000 : Int32) = iI 100000 := rfl
theorem li_10000 : (10000 : Int32) = iI 10000 := rfl
theorem li_m : (-1 : Int32) = iI (-1) := rfl

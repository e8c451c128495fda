/-- what the law's loop asks of the meanings: every case keeps I and doesn't come to 'return false' -/
def PStep (I : Nat → Mem → Mel → Prop) : Prop :=
  (∀ (hn : Nat) (M : Mem) (G : Mel), I hn M G → hn ≤ 6) ∧
  (∀ (hn : Nat) (M : Mem) (G : Mel), I hn M G → ∀ a1 : Int32, s_X6_requireWithin a1 1 100000 = some 0 → hn < 6 → ∃ (M' : Mem) (G' : Mel), lw_0b (hM M (46 + 7 * hn) a1) (mstL (hG G (46 + 7 * hn)) 0 0 (nI hn).toInt64) (hn + 1) 0 a1 = some (M', G') ∧ I (hn + 1) M' G') ∧
  (∀ (hn : Nat) (M : Mem) (G : Mel), I hn M G → ∀ a1 : Int32, s_X6_requireWithin a1 1 100000 = some 1 → ∃ (M' : Mem) (G' : Mel), lw_0b M G hn 1 a1 = some (M', G') ∧ I hn M' G') ∧
  (∀ (hn : Nat) (M : Mem) (G : Mel), I hn M G → ∀ a1 : Int32, s_X6_requireWithin a1 1 100000 = some 0 → hn = 6 → ∃ (M' : Mem) (G' : Mel), lw_0b M G hn 2 a1 = some (M', G') ∧ I hn M' G') ∧
  (∀ (hn : Nat) (M : Mem) (G : Mel), I hn M G → ∀ (a1 a2 : Int32), ∃ (M' : Mem) (G' : Mel), lw_1 M G hn a1 a2 = some (M', G') ∧ I hn M' G') ∧
  (∀ (hn : Nat) (M : Mem) (G : Mel), I hn M G → ∀ (a1 a2 a3 : Int32), ∃ (M' : Mem) (G' : Mel), lw_2 M G hn a1 a2 a3 = some (M', G') ∧ I hn M' G') ∧
  (∀ (hn : Nat) (M : Mem) (G : Mel), I hn M G → ∀ (a1 a2 : Int32), ∃ (M' : Mem) (G' : Mel), lw_3 M G hn a1 a2 = some (M', G') ∧ I hn M' G') ∧
  (∀ (hn : Nat) (M : Mem) (G : Mel), I hn M G → ∀ (a1 a2 a3 : Int32), ∃ (M' : Mem) (G' : Mel), lw_4 M G hn a1 a2 a3 = some (M', G') ∧ I hn M' G') ∧
  (∀ (hn : Nat) (M : Mem) (G : Mel), I hn M G → ∀ (a1 a2 : Int32), ∃ (M' : Mem) (G' : Mel), lw_5 M G hn a1 a2 = some (M', G') ∧ I hn M' G') ∧
  (∀ (hn : Nat) (M : Mem) (G : Mel), I hn M G → ∀ (a1 a2 a3 : Int32), ∃ (M' : Mem) (G' : Mel), lw_6 M G hn a1 a2 a3 = some (M', G') ∧ I hn M' G') ∧
  (∀ (hn : Nat) (M : Mem) (G : Mel), I hn M G → ∀ (a1 a2 : Int32), ∃ (M' : Mem) (G' : Mel), lw_7 M G hn a1 a2 = some (M', G') ∧ I hn M' G') ∧
  (∀ (hn : Nat) (M : Mem) (G : Mel), I hn M G → ∀ (a1 a2 a3 a4 : Int32), ∃ (M' : Mem) (G' : Mel), lw_8 M G hn a1 a2 a3 a4 = some (M', G') ∧ I hn M' G') ∧
  (∀ (hn : Nat) (M : Mem) (G : Mel), I hn M G → ∀ (a1 : Int32), ∃ (M' : Mem) (G' : Mel), lw_9 M G hn a1 = some (M', G') ∧ I hn M' G') ∧
  (∀ (hn : Nat) (M : Mem) (G : Mel), I hn M G → ∀ (a1 : Int32), ∃ (M' : Mem) (G' : Mel), lw_10 M G hn a1 = some (M', G') ∧ I hn M' G') ∧
  (∀ (hn : Nat) (M : Mem) (G : Mel), I hn M G → ∃ (M' : Mem) (G' : Mel), lw_11 M G hn = some (M', G') ∧ I hn M' G') ∧
  (∀ (hn : Nat) (M : Mem) (G : Mel), I hn M G → ∀ (a1 : Int32), ∃ (M' : Mem) (G' : Mel), lw_12 M G hn a1 = some (M', G') ∧ I hn M' G') ∧
  (∀ (hn : Nat) (M : Mem) (G : Mel), I hn M G → ∀ (a1 : Int32), ∃ (M' : Mem) (G' : Mel), lw_13 M G hn a1 = some (M', G') ∧ I hn M' G') ∧
  (∀ (hn : Nat) (M : Mem) (G : Mel), I hn M G → ∀ (a1 : Int32), ∃ (M' : Mem) (G' : Mel), lw_14 M G hn a1 = some (M', G') ∧ I hn M' G') ∧
  (∀ (hn : Nat) (M : Mem) (G : Mel), I hn M G → ∀ (a1 a2 : Int32), ∃ (M' : Mem) (G' : Mel), lw_15 M G hn a1 a2 = some (M', G') ∧ I hn M' G') ∧
  (∀ (hn : Nat) (M : Mem) (G : Mel), I hn M G → ∀ (a1 a2 : Int32), ∃ (M' : Mem) (G' : Mel), lw_16 M G hn a1 a2 = some (M', G') ∧ I hn M' G') ∧
  (∀ (hn : Nat) (M : Mem) (G : Mel), I hn M G → ∀ (a1 : Int32), ∃ (M' : Mem) (G' : Mel), lw_17 M G hn a1 = some (M', G') ∧ I hn M' G') ∧
  (∀ (hn : Nat) (M : Mem) (G : Mel), I hn M G → ∀ (a1 a2 : Int32), ∃ (M' : Mem) (G' : Mel), lw_18 M G hn a1 a2 = some (M', G') ∧ I hn M' G') ∧
  (∀ (hn : Nat) (M : Mem) (G : Mel), I hn M G → ∀ (a1 : Int32), ∃ (M' : Mem) (G' : Mel), lw_19 M G hn a1 = some (M', G') ∧ I hn M' G') ∧
  (∀ (hn : Nat) (M : Mem) (G : Mel), I hn M G → ∀ (a1 a2 : Int32), ∃ (M' : Mem) (G' : Mel), lw_20 M G hn a1 a2 = some (M', G') ∧ I hn M' G') ∧
  (∀ (hn : Nat) (M : Mem) (G : Mel), I hn M G → ∀ (a1 : Int32), ∃ (M' : Mem) (G' : Mel), lw_21 M G hn a1 = some (M', G') ∧ I hn M' G') ∧
  (∀ (hn : Nat) (M : Mem) (G : Mel), I hn M G → ∀ (a1 : Int32), ∃ (M' : Mem) (G' : Mel), lw_22 M G hn a1 = some (M', G') ∧ I hn M' G') ∧
  (∀ (hn : Nat) (M : Mem) (G : Mel), I hn M G → ∀ (a1 a2 : Int32), ∃ (M' : Mem) (G' : Mel), lw_23 M G hn a1 a2 = some (M', G') ∧ I hn M' G') ∧
  (∀ (hn : Nat) (M : Mem) (G : Mel), I hn M G → ∀ (a1 a2 a3 : Int32), ∃ (M' : Mem) (G' : Mel), lw_24 M G hn a1 a2 a3 = some (M', G') ∧ I hn M' G') ∧
  (∀ (hn : Nat) (M : Mem) (G : Mel), I hn M G → ∀ (a1 a2 a3 : Int32), ∃ (M' : Mem) (G' : Mel), lw_25 M G hn a1 a2 a3 = some (M', G') ∧ I hn M' G') ∧
  (∀ (hn : Nat) (M : Mem) (G : Mel), I hn M G → ∀ (a1 : Int32), ∃ (M' : Mem) (G' : Mel), lw_26 M G hn a1 = some (M', G') ∧ I hn M' G') ∧
  (∀ (hn : Nat) (M : Mem) (G : Mel), I hn M G → ∀ (a1 : Int32), ∃ (M' : Mem) (G' : Mel), lw_27 M G hn a1 = some (M', G') ∧ I hn M' G')

theorem within_cases (x : Int32) : s_X6_requireWithin x 1 100000 = some 0 ∨ s_X6_requireWithin x 1 100000 = some 1 := by
  unfold s_X6_requireWithin
  split
  · exact Or.inr rfl
  · split
    · exact Or.inl rfl
    · exact Or.inr rfl
theorem law_cond {L t : Nat} (hL : L ≤ 2560) (ht : 5 * t ≤ L) : (nI L - 5 < nI (5 * t)) ↔ L < 5 * t + 5 := by
  have e1 : (nI L - 5).toInt = (L : Int) - 5 := pk_sub_toInt (a := L) (b := 5) (by omega) (by decide)
  have e2 : (nI (5 * t)).toInt = ((5 * t : Nat) : Int) := nI_toInt (by omega)
  rw [Int32.lt_iff_toInt_lt, e1, e2]
  omega

set_option maxHeartbeats 4000000 in
/-- the law's loop: at its head with t calls done and I, it comes to its end if its end (pc 1981) does -/
theorem law_loop {X : Cx} (hX : CxOK X RL cL_law 8 12 436 601024 7293034 (some .boolean)) {b L : Nat} {xs : Nat → Int32} (hS : ScrOK X b L xs) (hL : L ≤ 2560) {I : Nat → Mem → Mel → Prop} (hI : PStep I)
    (hend : ∀ (o : Nat → Nat) (hn : Nat) (M : Mem) (G : Mel) (x4 : Int32), WM X o hn M G 601024 7293034 1981 8 [(0, .ref b), (1, .ref (o 28)), (2, .ref (o 1)), (3, .ref (o 0)), (4, .int x4)] []) :
    ∀ (n t : Nat), 5 * t ≤ L → L + 1 ≤ 5 * t + n → ∀ (o : Nat → Nat) (hn : Nat) (M : Mem) (G : Mel) (x4 : Int32), x4 = nI (5 * t) → I hn M G → WM X o hn M G (46 + 18 * t) (33122 + 374 * t) 23 8 [(0, .ref b), (1, .ref (o 28)), (2, .ref (o 1)), (3, .ref (o 0)), (4, .int x4)] [] := by
  intro n
  induction n with
  | zero => intro t h1 h2; omega
  | succ n ih =>
    intro t h1 h2 o hn M G x4 ex4 hIn
    have hka : 46 + 18 * t + 9 ≤ 601024 := by omega
    have hna : 33122 + 374 * t + 187 ≤ 7293034 := by omega
    refine q_iload (pc := 23) hX 4 rfl dL_law_23 ?_
    refine q_aload_n (pc := 25) hX 0 rfl rfl dL_law_25 ?_
    refine r_slen (pc := 26) hX hS dL_law_26 ?_
    refine q_iconst (pc := 27) hX (5) rfl dL_law_27 ?_
    refine q_isub (pc := 28) hX dL_law_28 ?_
    refine q_icmp_gt (pc := 29) hX 1981 (by decide) dL_law_29 (fun c => ?_) (fun c => ?_)
    · exact q_widen (by omega) (by omega) (hend o hn M G x4)
    · have hlt : 5 * t + 5 ≤ L := by
        rw [ex4, law_cond hL h1] at c
        omega
      have next : ∀ (o : Nat → Nat) (hn : Nat) (M : Mem) (G : Mel), I hn M G → WM X o hn M G (46 + 18 * t + 18) (33122 + 374 * t + 374) 1975 8 [(0, .ref b), (1, .ref (o 28)), (2, .ref (o 1)), (3, .ref (o 0)), (4, .int x4)] [] := by
        intro o hn M G hIn
        refine q_iinc (pc := 1975) (lo' := [(0, .ref b), (1, .ref (o 28)), (2, .ref (o 1)), (3, .ref (o 0)), (4, .int (nI (5 * (t + 1))))]) hX 4 (nI (5 * (t + 1))) [1, 2, 3, 4, 0] rfl (by rw [ex4]; exact nI_add (5 * t) 5) (by decide) rfl dL_law_1975 ?_
        refine q_goto (pc := 1978) hX 23 (by decide) dL_law_1978 ?_
        have e1 : 46 + 18 * t + 18 = 46 + 18 * (t + 1) := by omega
        have e2 : 33122 + 374 * t + 374 = 33122 + 374 * (t + 1) := by omega
        rw [e1, e2]
        exact ih (t + 1) (by omega) (by omega) o hn M G _ rfl hIn
      have v0 : vp_in x4 L := by rw [ex4]; exact vp_in_nI (by omega) (by omega)
      have v1 : vp_in (x4 + 1) L := by rw [ex4, nI_1]; exact vp_in_nI (by omega) (by omega)
      have v2 : vp_in (x4 + 2) L := by rw [ex4, show nI (5 * t) + 2 = nI (5 * t + 2) from nI_add (5 * t) 2]; exact vp_in_nI (by omega) (by omega)
      have v3 : vp_in (x4 + 3) L := by rw [ex4, show nI (5 * t) + 3 = nI (5 * t + 3) from nI_add (5 * t) 3]; exact vp_in_nI (by omega) (by omega)
      have v4 : vp_in (x4 + 4) L := by rw [ex4, show nI (5 * t) + 4 = nI (5 * t + 4) from nI_add (5 * t) 4]; exact vp_in_nI (by omega) (by omega)
      obtain ⟨h6, hh0, hh1, hh2, k1, k2, k3, k4, k5, k6, k7, k8, k9, k10, k11, k12, k13, k14, k15, k16, k17, k18, k19, k20, k21, k22, k23, k24, k25, k26, k27⟩ := hI
      refine q_aload_n (pc := 32) hX 0 rfl rfl dL_law_32 ?_
      refine q_iload (pc := 33) hX 4 rfl dL_law_33 ?_
      refine r_sld (pc := 35) hX hS rfl v0 dL_law_35 ?_
      refine q_bipush (pc := 36) hX (31) (by decide) dL_law_36 ?_
      refine q_iand (pc := 38) hX dL_law_38 ?_
      obtain ⟨j, hj, ej⟩ := pk_andE (xs x4.toNatClampNeg) (m := 31) 5 rfl
      rw [ej]
      have hj32 : j = 0 ∨ j = 1 ∨ j = 2 ∨ j = 3 ∨ j = 4 ∨ j = 5 ∨ j = 6 ∨ j = 7 ∨ j = 8 ∨ j = 9 ∨ j = 10 ∨ j = 11 ∨ j = 12 ∨ j = 13 ∨ j = 14 ∨ j = 15 ∨ j = 16 ∨ j = 17 ∨ j = 18 ∨ j = 19 ∨ j = 20 ∨ j = 21 ∨ j = 22 ∨ j = 23 ∨ j = 24 ∨ j = 25 ∨ j = 26 ∨ j = 27 ∨ j = 28 ∨ j = 29 ∨ j = 30 ∨ j = 31 := by omega
      rcases hj32 with rfl | rfl | rfl | rfl | rfl | rfl | rfl | rfl | rfl | rfl | rfl | rfl | rfl | rfl | rfl | rfl | rfl | rfl | rfl | rfl | rfl | rfl | rfl | rfl | rfl | rfl | rfl | rfl | rfl | rfl | rfl | rfl
      · refine r_tableIn (pc := 39) hX 164 dL_law_39 (by decide) (by decide) rfl (by decide) ?_
        refine q_aload_n (pc := 164) hX 1 rfl rfl dL_law_164 ?_
        refine q_aload_n (pc := 165) hX 0 rfl rfl dL_law_165 ?_
        refine q_iload (pc := 166) hX 4 rfl dL_law_166 ?_
        refine q_iconst (pc := 168) hX (1) rfl dL_law_168 ?_
        refine q_iadd (pc := 169) hX dL_law_169 ?_
        refine r_sld (pc := 170) hX hS rfl v1 dL_law_170 ?_
        refine q_aload_n (pc := 171) hX 3 rfl rfl dL_law_171 ?_
        obtain ⟨a1, ea1⟩ : ∃ z, xs (x4 + 1).toNatClampNeg = z := ⟨_, rfl⟩
        rw [ea1]
        have hle := h6 hn M G hIn
        rcases within_cases a1 with hw | hw
        · by_cases hlt6 : hn < 6
          · obtain ⟨M', G', hE, hI'⟩ := hh0 hn M G hIn a1 hw hlt6
            refine q_callWH (pc := 172) (As := [.ref (o 28), .int a1, .ref (o 0)]) (rest := []) (st' := [.int 0]) hX (c_L_hire_ok hw hlt6) wl_L_109 pd_yL_hire rfl ⟨by decide, by decide⟩ ⟨by omega, by omega⟩ rfl (Nat.le_of_ble_eq_true rfl) rfl dL_law_172 (fun o' ho => ?_)
            rw [← ho 28 (by omega), ← ho 1 (by omega), ← ho 0 (by omega)]
            exact lw_0b_w hX hS v1 ea1 hE (by omega) (by omega) (q_widen (by omega) (by omega) (next o' (hn + 1) M' G' hI'))
          · obtain ⟨M', G', hE, hI'⟩ := hh2 hn M G hIn a1 hw (by omega)
            refine q_callW (pc := 172) (As := [.ref (o 28), .int a1, .ref (o 0)]) (rest := []) (rv := some (.int 2)) (st' := [.int 2]) hX (c_L_hire_x2 hw (by omega)) wl_L_109 pd_yL_hire rfl ⟨by decide, by decide⟩ ⟨by omega, by omega⟩ rfl (Nat.le_of_ble_eq_true rfl) rfl dL_law_172 ?_
            exact lw_0b_w hX hS v1 ea1 hE (by omega) (by omega) (q_widen (by omega) (by omega) (next o hn M' G' hI'))
        · obtain ⟨M', G', hE, hI'⟩ := hh1 hn M G hIn a1 hw
          refine q_callW (pc := 172) (As := [.ref (o 28), .int a1, .ref (o 0)]) (rest := []) (rv := some (.int 1)) (st' := [.int 1]) hX (c_L_hire_x1 hw) wl_L_109 pd_yL_hire rfl ⟨by decide, by decide⟩ ⟨by omega, by omega⟩ rfl (Nat.le_of_ble_eq_true rfl) rfl dL_law_172 ?_
          exact lw_0b_w hX hS v1 ea1 hE (by omega) (by omega) (q_widen (by omega) (by omega) (next o hn M' G' hI'))
      · obtain ⟨M', G', hE, hI'⟩ := k1 hn M G hIn (xs (x4 + 1).toNatClampNeg) (xs (x4 + 2).toNatClampNeg)
        refine r_tableIn (pc := 39) hX 220 dL_law_39 (by decide) (by decide) rfl (by decide) ?_
        exact lw_1_w hX hS v1 rfl v2 rfl hE hka hna (q_widen (by omega) (by omega) (next o hn M' G' hI'))
      · obtain ⟨M', G', hE, hI'⟩ := k2 hn M G hIn (xs (x4 + 1).toNatClampNeg) (xs (x4 + 2).toNatClampNeg) (xs (x4 + 3).toNatClampNeg)
        refine r_tableIn (pc := 39) hX 288 dL_law_39 (by decide) (by decide) rfl (by decide) ?_
        exact lw_2_w hX hS v1 rfl v2 rfl v3 rfl hE hka hna (q_widen (by omega) (by omega) (next o hn M' G' hI'))
      · obtain ⟨M', G', hE, hI'⟩ := k3 hn M G hIn (xs (x4 + 1).toNatClampNeg) (xs (x4 + 2).toNatClampNeg)
        refine r_tableIn (pc := 39) hX 384 dL_law_39 (by decide) (by decide) rfl (by decide) ?_
        exact lw_3_w hX hS v1 rfl v2 rfl hE hka hna (q_widen (by omega) (by omega) (next o hn M' G' hI'))
      · obtain ⟨M', G', hE, hI'⟩ := k4 hn M G hIn (xs (x4 + 1).toNatClampNeg) (xs (x4 + 2).toNatClampNeg) (xs (x4 + 3).toNatClampNeg)
        refine r_tableIn (pc := 39) hX 459 dL_law_39 (by decide) (by decide) rfl (by decide) ?_
        exact lw_4_w hX hS v1 rfl v2 rfl v3 rfl hE hka hna (q_widen (by omega) (by omega) (next o hn M' G' hI'))
      · obtain ⟨M', G', hE, hI'⟩ := k5 hn M G hIn (xs (x4 + 1).toNatClampNeg) (xs (x4 + 2).toNatClampNeg)
        refine r_tableIn (pc := 39) hX 539 dL_law_39 (by decide) (by decide) rfl (by decide) ?_
        exact lw_5_w hX hS v1 rfl v2 rfl hE hka hna (q_widen (by omega) (by omega) (next o hn M' G' hI'))
      · obtain ⟨M', G', hE, hI'⟩ := k6 hn M G hIn (xs (x4 + 1).toNatClampNeg) (xs (x4 + 2).toNatClampNeg) (xs (x4 + 3).toNatClampNeg)
        refine r_tableIn (pc := 39) hX 607 dL_law_39 (by decide) (by decide) rfl (by decide) ?_
        exact lw_6_w hX hS v1 rfl v2 rfl v3 rfl hE hka hna (q_widen (by omega) (by omega) (next o hn M' G' hI'))
      · obtain ⟨M', G', hE, hI'⟩ := k7 hn M G hIn (xs (x4 + 1).toNatClampNeg) (xs (x4 + 2).toNatClampNeg)
        refine r_tableIn (pc := 39) hX 687 dL_law_39 (by decide) (by decide) rfl (by decide) ?_
        exact lw_7_w hX hS v1 rfl v2 rfl hE hka hna (q_widen (by omega) (by omega) (next o hn M' G' hI'))
      · obtain ⟨M', G', hE, hI'⟩ := k8 hn M G hIn (xs (x4 + 1).toNatClampNeg) (xs (x4 + 2).toNatClampNeg) (xs (x4 + 3).toNatClampNeg) (xs (x4 + 4).toNatClampNeg)
        refine r_tableIn (pc := 39) hX 755 dL_law_39 (by decide) (by decide) rfl (by decide) ?_
        exact lw_8_w hX hS v1 rfl v2 rfl v3 rfl v4 rfl hE hka hna (q_widen (by omega) (by omega) (next o hn M' G' hI'))
      · obtain ⟨M', G', hE, hI'⟩ := k9 hn M G hIn (xs (x4 + 1).toNatClampNeg)
        refine r_tableIn (pc := 39) hX 847 dL_law_39 (by decide) (by decide) rfl (by decide) ?_
        exact lw_9_w hX hS v1 rfl hE hka hna (q_widen (by omega) (by omega) (next o hn M' G' hI'))
      · obtain ⟨M', G', hE, hI'⟩ := k10 hn M G hIn (xs (x4 + 1).toNatClampNeg)
        refine r_tableIn (pc := 39) hX 903 dL_law_39 (by decide) (by decide) rfl (by decide) ?_
        exact lw_10_w hX hS v1 rfl hE hka hna (q_widen (by omega) (by omega) (next o hn M' G' hI'))
      · obtain ⟨M', G', hE, hI'⟩ := k11 hn M G hIn
        refine r_tableIn (pc := 39) hX 959 dL_law_39 (by decide) (by decide) rfl (by decide) ?_
        exact lw_11_w hX hS  hE hka hna (q_widen (by omega) (by omega) (next o hn M' G' hI'))
      · obtain ⟨M', G', hE, hI'⟩ := k12 hn M G hIn (xs (x4 + 1).toNatClampNeg)
        refine r_tableIn (pc := 39) hX 972 dL_law_39 (by decide) (by decide) rfl (by decide) ?_
        exact lw_12_w hX hS v1 rfl hE hka hna (q_widen (by omega) (by omega) (next o hn M' G' hI'))
      · obtain ⟨M', G', hE, hI'⟩ := k13 hn M G hIn (xs (x4 + 1).toNatClampNeg)
        refine r_tableIn (pc := 39) hX 1028 dL_law_39 (by decide) (by decide) rfl (by decide) ?_
        exact lw_13_w hX hS v1 rfl hE hka hna (q_widen (by omega) (by omega) (next o hn M' G' hI'))
      · obtain ⟨M', G', hE, hI'⟩ := k14 hn M G hIn (xs (x4 + 1).toNatClampNeg)
        refine r_tableIn (pc := 39) hX 1083 dL_law_39 (by decide) (by decide) rfl (by decide) ?_
        exact lw_14_w hX hS v1 rfl hE hka hna (q_widen (by omega) (by omega) (next o hn M' G' hI'))
      · obtain ⟨M', G', hE, hI'⟩ := k15 hn M G hIn (xs (x4 + 1).toNatClampNeg) (xs (x4 + 2).toNatClampNeg)
        refine r_tableIn (pc := 39) hX 1139 dL_law_39 (by decide) (by decide) rfl (by decide) ?_
        exact lw_15_w hX hS v1 rfl v2 rfl hE hka hna (q_widen (by omega) (by omega) (next o hn M' G' hI'))
      · obtain ⟨M', G', hE, hI'⟩ := k16 hn M G hIn (xs (x4 + 1).toNatClampNeg) (xs (x4 + 2).toNatClampNeg)
        refine r_tableIn (pc := 39) hX 1207 dL_law_39 (by decide) (by decide) rfl (by decide) ?_
        exact lw_16_w hX hS v1 rfl v2 rfl hE hka hna (q_widen (by omega) (by omega) (next o hn M' G' hI'))
      · obtain ⟨M', G', hE, hI'⟩ := k17 hn M G hIn (xs (x4 + 1).toNatClampNeg)
        refine r_tableIn (pc := 39) hX 1275 dL_law_39 (by decide) (by decide) rfl (by decide) ?_
        exact lw_17_w hX hS v1 rfl hE hka hna (q_widen (by omega) (by omega) (next o hn M' G' hI'))
      · obtain ⟨M', G', hE, hI'⟩ := k18 hn M G hIn (xs (x4 + 1).toNatClampNeg) (xs (x4 + 2).toNatClampNeg)
        refine r_tableIn (pc := 39) hX 1331 dL_law_39 (by decide) (by decide) rfl (by decide) ?_
        exact lw_18_w hX hS v1 rfl v2 rfl hE hka hna (q_widen (by omega) (by omega) (next o hn M' G' hI'))
      · obtain ⟨M', G', hE, hI'⟩ := k19 hn M G hIn (xs (x4 + 1).toNatClampNeg)
        refine r_tableIn (pc := 39) hX 1399 dL_law_39 (by decide) (by decide) rfl (by decide) ?_
        exact lw_19_w hX hS v1 rfl hE hka hna (q_widen (by omega) (by omega) (next o hn M' G' hI'))
      · obtain ⟨M', G', hE, hI'⟩ := k20 hn M G hIn (xs (x4 + 1).toNatClampNeg) (xs (x4 + 2).toNatClampNeg)
        refine r_tableIn (pc := 39) hX 1455 dL_law_39 (by decide) (by decide) rfl (by decide) ?_
        exact lw_20_w hX hS v1 rfl v2 rfl hE hka hna (q_widen (by omega) (by omega) (next o hn M' G' hI'))
      · obtain ⟨M', G', hE, hI'⟩ := k21 hn M G hIn (xs (x4 + 1).toNatClampNeg)
        refine r_tableIn (pc := 39) hX 1523 dL_law_39 (by decide) (by decide) rfl (by decide) ?_
        exact lw_21_w hX hS v1 rfl hE hka hna (q_widen (by omega) (by omega) (next o hn M' G' hI'))
      · obtain ⟨M', G', hE, hI'⟩ := k22 hn M G hIn (xs (x4 + 1).toNatClampNeg)
        refine r_tableIn (pc := 39) hX 1579 dL_law_39 (by decide) (by decide) rfl (by decide) ?_
        exact lw_22_w hX hS v1 rfl hE hka hna (q_widen (by omega) (by omega) (next o hn M' G' hI'))
      · obtain ⟨M', G', hE, hI'⟩ := k23 hn M G hIn (xs (x4 + 1).toNatClampNeg) (xs (x4 + 2).toNatClampNeg)
        refine r_tableIn (pc := 39) hX 1635 dL_law_39 (by decide) (by decide) rfl (by decide) ?_
        exact lw_23_w hX hS v1 rfl v2 rfl hE hka hna (q_widen (by omega) (by omega) (next o hn M' G' hI'))
      · obtain ⟨M', G', hE, hI'⟩ := k24 hn M G hIn (xs (x4 + 1).toNatClampNeg) (xs (x4 + 2).toNatClampNeg) (xs (x4 + 3).toNatClampNeg)
        refine r_tableIn (pc := 39) hX 1703 dL_law_39 (by decide) (by decide) rfl (by decide) ?_
        exact lw_24_w hX hS v1 rfl v2 rfl v3 rfl hE hka hna (q_widen (by omega) (by omega) (next o hn M' G' hI'))
      · obtain ⟨M', G', hE, hI'⟩ := k25 hn M G hIn (xs (x4 + 1).toNatClampNeg) (xs (x4 + 2).toNatClampNeg) (xs (x4 + 3).toNatClampNeg)
        refine r_tableIn (pc := 39) hX 1783 dL_law_39 (by decide) (by decide) rfl (by decide) ?_
        exact lw_25_w hX hS v1 rfl v2 rfl v3 rfl hE hka hna (q_widen (by omega) (by omega) (next o hn M' G' hI'))
      · obtain ⟨M', G', hE, hI'⟩ := k26 hn M G hIn (xs (x4 + 1).toNatClampNeg)
        refine r_tableIn (pc := 39) hX 1863 dL_law_39 (by decide) (by decide) rfl (by decide) ?_
        exact lw_26_w hX hS v1 rfl hE hka hna (q_widen (by omega) (by omega) (next o hn M' G' hI'))
      · obtain ⟨M', G', hE, hI'⟩ := k27 hn M G hIn (xs (x4 + 1).toNatClampNeg)
        refine r_tableIn (pc := 39) hX 1919 dL_law_39 (by decide) (by decide) rfl (by decide) ?_
        exact lw_27_w hX hS v1 rfl hE hka hna (q_widen (by omega) (by omega) (next o hn M' G' hI'))
      · refine r_tableOut (pc := 39) hX 1975 dL_law_39 (by decide) (by decide) ?_
        exact q_widen (by omega) (by omega) (next o hn M G hIn)
      · refine r_tableOut (pc := 39) hX 1975 dL_law_39 (by decide) (by decide) ?_
        exact q_widen (by omega) (by omega) (next o hn M G hIn)
      · refine r_tableOut (pc := 39) hX 1975 dL_law_39 (by decide) (by decide) ?_
        exact q_widen (by omega) (by omega) (next o hn M G hIn)
      · refine r_tableOut (pc := 39) hX 1975 dL_law_39 (by decide) (by decide) ?_
        exact q_widen (by omega) (by omega) (next o hn M G hIn)

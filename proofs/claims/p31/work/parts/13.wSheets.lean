set_option maxHeartbeats 4000000 in
theorem c_X6_requireWithin {Y : Lx} {o : Nat → Nat} {hn : Nat} {M : Mem} {G : Mel} {x0 : Int32} {x1 : Int32} {x2 : Int32} (hE : s_X6_requireWithin x0 x1 x2 = some (0)) : MI Y yX6_requireWithin cX6_requireWithin 3 none 0 0 0 0 [.int x0, .int x1, .int x2] o hn M G (.inl (none)) M G := by
  refine MI.of (by decide +kernel) (Nat.le_of_ble_eq_true rfl) (fun X hY hX hE0 hR => ?_)
  change CxOK X RX6 cX6_requireWithin 3 0 0 0 0 none at hX
  show WM X o hn M G 0 0 0 3 [(0, .int x0), (1, .int x1), (2, .int x2)] []
  unfold s_X6_requireWithin at hE
  refine q_iload_n (pc := 0) hX 0 rfl rfl dX6_requireWithin_0 ?_
  refine q_iload_n (pc := 1) hX 1 rfl rfl dX6_requireWithin_1 ?_
  refine q_icmp_lt (pc := 2) hX 10 (by decide) dX6_requireWithin_2 (fun c => ?_) (fun c => ?_)
  · rw [if_pos c] at hE
    have h9 : (1 : Nat) = 0 := Option.some.inj hE
    exact absurd h9 (by decide)
  · rw [if_neg c] at hE
    refine q_iload_n (pc := 5) hX 0 rfl rfl dX6_requireWithin_5 ?_
    refine q_iload_n (pc := 6) hX 2 rfl rfl dX6_requireWithin_6 ?_
    refine q_icmp_le (pc := 7) hX 20 (by decide) dX6_requireWithin_7 (fun c => ?_) (fun c => ?_)
    · rw [if_pos c] at hE
      cases hE
      exact q_vret hX hR (by decide) (by decide) dX6_requireWithin_20
    · rw [if_neg c] at hE
      have h9 : (1 : Nat) = 0 := Option.some.inj hE
      exact absurd h9 (by decide)

set_option maxHeartbeats 4000000 in
theorem c_X6_requireRoom {Y : Lx} {o : Nat → Nat} {hn : Nat} {M : Mem} {G : Mel} {t0 : Nat} {x1 : Int32} (ht0 : tb hn t0) (hE : s_X6_requireRoom M t0 x1 = some (0)) : MI Y yX6_requireRoom cX6_requireRoom 2 none 1 20 0 0 [.ref (o t0), .int x1] o hn M G (.inl (none)) M G := by
  refine MI.of (by decide +kernel) (Nat.le_of_ble_eq_true rfl) (fun X hY hX hE0 hR => ?_)
  change CxOK X RX6 cX6_requireRoom 2 1 20 0 0 none at hX
  show WM X o hn M G 0 0 0 2 [(0, .ref (o t0)), (1, .int x1)] []
  unfold s_X6_requireRoom at hE
  refine q_aload_n (pc := 0) hX 0 rfl rfl dX6_requireRoom_0 ?_
  obtain ⟨r1, hr1, hE⟩ := ob_bind hE
  refine q_callV (pc := 1) (id := t0) (As := []) (rest := []) (rv := some (.int r1)) (st' := [.int r1]) hX (c_X4_size ht0 hr1) (vl_X6_93) (tb_lt ht0) (ob_T ht0.1 _ _) rfl rfl pd_yX4_size rfl ⟨by decide, by decide⟩ ⟨Nat.le_of_ble_eq_true rfl, Nat.le_of_ble_eq_true rfl⟩ rfl (Nat.le_of_ble_eq_true rfl) rfl dX6_requireRoom_1 ?_
  refine q_iload_n (pc := 4) hX 1 rfl rfl dX6_requireRoom_4 ?_
  refine q_icmp_lt (pc := 5) hX 18 (by decide) dX6_requireRoom_5 (fun c => ?_) (fun c => ?_)
  · rw [if_pos c] at hE
    cases hE
    exact q_vret hX hR (by decide) (by decide) dX6_requireRoom_18
  · rw [if_neg c] at hE
    have h9 : (2 : Nat) = 0 := Option.some.inj hE
    exact absurd h9 (by decide)

set_option maxHeartbeats 4000000 in
theorem c_X6_addPremium {Y : Lx} {o : Nat → Nat} {hn : Nat} {M : Mem} {G : Mel} {x1 : Int32} {x2 : Int32} {x3 : Int32} {x4 : Int32} {rr : Int32} {Mr : Mem} (hE : s_X6_addPremium M x1 x2 x3 x4 = some (0, rr, Mr)) : MI Y yX6_addPremium cX6_addPremium 5 (some .int) 2 49 0 0 [.ref (o 28), .int x1, .int x2, .int x3, .int x4] o hn M G (.inl (some (.int rr))) Mr G := by
  refine MI.of (by decide +kernel) (Nat.le_of_ble_eq_true rfl) (fun X hY hX hE0 hR => ?_)
  change CxOK X RX6 cX6_addPremium 5 2 49 0 0 (some .int) at hX
  show WM X o hn M G 0 0 0 5 [(0, .ref (o 28)), (1, .int x1), (2, .int x2), (3, .int x3), (4, .int x4)] []
  unfold s_X6_addPremium at hE
  refine q_iload_n (pc := 0) hX 1 rfl rfl dX6_addPremium_0 ?_
  refine q_iconst (pc := 1) hX (1) rfl dX6_addPremium_1 ?_
  refine q_bipush (pc := 2) hX (127) (by decide) dX6_addPremium_2 ?_
  obtain ⟨r1, hr1, hE⟩ := ob_bind hE
  have hkr1 : r1 = 0 := by
    by_cases h9 : r1 = 0
    · exact h9
    · rw [if_pos h9] at hE
      exact congrArg Prod.fst (Option.some.inj hE)
  rw [if_neg (fun h => h hkr1)] at hE
  refine q_callS (pc := 4) (As := [.int x1, .int 1, .int 127]) (rest := []) (rv := none) (st' := []) hX (c_X6_requireWithin (thr_y hr1 hkr1)) (sl_X6_46) pd_yX6_requireWithin rfl ⟨by decide, by decide⟩ ⟨Nat.le_of_ble_eq_true rfl, Nat.le_of_ble_eq_true rfl⟩ rfl (Nat.le_of_ble_eq_true rfl) rfl dX6_addPremium_4 ?_
  refine q_iload_n (pc := 7) hX 2 rfl rfl dX6_addPremium_7 ?_
  refine q_iconst (pc := 8) hX (0) rfl dX6_addPremium_8 ?_
  refine q_sipush (pc := 9) hX (1439) (by decide) dX6_addPremium_9 ?_
  obtain ⟨r2, hr2, hE⟩ := ob_bind hE
  have hkr2 : r2 = 0 := by
    by_cases h9 : r2 = 0
    · exact h9
    · rw [if_pos h9] at hE
      exact congrArg Prod.fst (Option.some.inj hE)
  rw [if_neg (fun h => h hkr2)] at hE
  refine q_callS (pc := 12) (As := [.int x2, .int 0, .int 1439]) (rest := []) (rv := none) (st' := []) hX (c_X6_requireWithin (thr_y hr2 hkr2)) (sl_X6_46) pd_yX6_requireWithin rfl ⟨by decide, by decide⟩ ⟨Nat.le_of_ble_eq_true rfl, Nat.le_of_ble_eq_true rfl⟩ rfl (Nat.le_of_ble_eq_true rfl) rfl dX6_addPremium_12 ?_
  refine q_iload_n (pc := 15) hX 3 rfl rfl dX6_addPremium_15 ?_
  refine q_iconst (pc := 16) hX (0) rfl dX6_addPremium_16 ?_
  refine q_sipush (pc := 17) hX (1439) (by decide) dX6_addPremium_17 ?_
  obtain ⟨r3, hr3, hE⟩ := ob_bind hE
  have hkr3 : r3 = 0 := by
    by_cases h9 : r3 = 0
    · exact h9
    · rw [if_pos h9] at hE
      exact congrArg Prod.fst (Option.some.inj hE)
  rw [if_neg (fun h => h hkr3)] at hE
  refine q_callS (pc := 20) (As := [.int x3, .int 0, .int 1439]) (rest := []) (rv := none) (st' := []) hX (c_X6_requireWithin (thr_y hr3 hkr3)) (sl_X6_46) pd_yX6_requireWithin rfl ⟨by decide, by decide⟩ ⟨Nat.le_of_ble_eq_true rfl, Nat.le_of_ble_eq_true rfl⟩ rfl (Nat.le_of_ble_eq_true rfl) rfl dX6_addPremium_20 ?_
  refine q_iload (pc := 23) hX 4 rfl dX6_addPremium_23 ?_
  refine q_iconst (pc := 25) hX (1) rfl dX6_addPremium_25 ?_
  refine q_sipush (pc := 26) hX (10000) (by decide) dX6_addPremium_26 ?_
  obtain ⟨r4, hr4, hE⟩ := ob_bind hE
  have hkr4 : r4 = 0 := by
    by_cases h9 : r4 = 0
    · exact h9
    · rw [if_pos h9] at hE
      exact congrArg Prod.fst (Option.some.inj hE)
  rw [if_neg (fun h => h hkr4)] at hE
  refine q_callS (pc := 29) (As := [.int x4, .int 1, .int 10000]) (rest := []) (rv := none) (st' := []) hX (c_X6_requireWithin (thr_y hr4 hkr4)) (sl_X6_46) pd_yX6_requireWithin rfl ⟨by decide, by decide⟩ ⟨Nat.le_of_ble_eq_true rfl, Nat.le_of_ble_eq_true rfl⟩ rfl (Nat.le_of_ble_eq_true rfl) rfl dX6_addPremium_29 ?_
  refine q_aload_n (pc := 32) hX 0 rfl rfl dX6_addPremium_32 ?_
  refine q_get (pc := 33) (id := 28) (ci := 6) (N := 6) (T := TX6) (C := RX6) hX 2 (lt46 (by decide)) rfl rfl in_X6 (by decide) (Or.inl kw_16) rfl dX6_addPremium_33 ?_
  refine q_get (pc := 36) (id := 30) (ci := 2) (N := 1) (T := TX2) (C := RX2) hX 0 (lt46 (by decide)) rfl rfl in_X2 (by decide) (Or.inr ⟨_, fn_X6_122⟩) rfl dX6_addPremium_36 ?_
  refine q_bipush (pc := 39) hX (6) (by decide) dX6_addPremium_39 ?_
  obtain ⟨r5, hr5, hE⟩ := ob_bind hE
  have hkr5 : r5 = 0 := by
    by_cases h9 : r5 = 0
    · exact h9
    · rw [if_pos h9] at hE
      exact congrArg Prod.fst (Option.some.inj hE)
  rw [if_neg (fun h => h hkr5)] at hE
  refine q_callS (pc := 41) (As := [.ref (o 31), .int 6]) (rest := []) (rv := none) (st' := []) hX (c_X6_requireRoom (tb_31 hn) (thr_y hr5 hkr5)) (sl_X6_71) pd_yX6_requireRoom rfl ⟨by decide, by decide⟩ ⟨Nat.le_of_ble_eq_true rfl, Nat.le_of_ble_eq_true rfl⟩ rfl (Nat.le_of_ble_eq_true rfl) rfl dX6_addPremium_41 ?_
  refine q_aload_n (pc := 44) hX 0 rfl rfl dX6_addPremium_44 ?_
  refine q_get (pc := 45) (id := 28) (ci := 6) (N := 6) (T := TX6) (C := RX6) hX 2 (lt46 (by decide)) rfl rfl in_X6 (by decide) (Or.inl kw_16) rfl dX6_addPremium_45 ?_
  refine q_iload_n (pc := 48) hX 1 rfl rfl dX6_addPremium_48 ?_
  refine q_iload_n (pc := 49) hX 2 rfl rfl dX6_addPremium_49 ?_
  refine q_iload_n (pc := 50) hX 3 rfl rfl dX6_addPremium_50 ?_
  refine q_iload (pc := 51) hX 4 rfl dX6_addPremium_51 ?_
  obtain ⟨r6, hr6, hE⟩ := ob_bind hE
  refine q_callV (pc := 53) (id := 30) (As := [.int x1, .int x2, .int x3, .int x4]) (rest := []) (rv := some (.int r6.1)) (st' := [.int r6.1]) hX (c_X2_add hr6) (vl_X6_125) (lt46 (by decide)) rfl rfl rfl pd_yX2_add rfl ⟨by decide, by decide⟩ ⟨Nat.le_of_ble_eq_true rfl, Nat.le_of_ble_eq_true rfl⟩ rfl (Nat.le_of_ble_eq_true rfl) rfl dX6_addPremium_53 ?_
  cases hE
  exact q_iret hX hR (by decide) (by decide) dX6_addPremium_56

set_option maxHeartbeats 4000000 in
theorem c_X6_find {Y : Lx} {o : Nat → Nat} {hn : Nat} {M : Mem} {G : Mel} {x1 : Int32} {rr : Nat} (hE : s_X6_find hn x1 = some (0, rr)) : MI Y yX6_find cX6_find 3 (some (.object "Timesheets$Employee")) 0 0 0 0 [.ref (o 28), .int x1] o hn M G (.inl (some (.ref (o rr)))) M G := by
  refine MI.of (by decide +kernel) (Nat.le_of_ble_eq_true rfl) (fun X hY hX hE0 hR => ?_)
  change CxOK X RX6 cX6_find 3 0 0 0 0 (some (.object "Timesheets$Employee")) at hX
  show WM X o hn M G 0 0 0 3 [(0, .ref (o 28)), (1, .int x1)] []
  unfold s_X6_find at hE
  refine q_iload_n (pc := 0) hX 1 rfl rfl dX6_find_0 ?_
  refine q_if_lt (pc := 1) hX 21 (by decide) dX6_find_1 (fun c => ?_) (fun c => ?_)
  · rw [if_pos c] at hE
    have h9 : (3 : Nat) = 0 := congrArg Prod.fst (Option.some.inj hE)
    exact absurd h9 (by decide)
  · rw [if_neg c] at hE
    refine q_iload_n (pc := 4) hX 1 rfl rfl dX6_find_4 ?_
    refine q_aload_n (pc := 5) hX 0 rfl rfl dX6_find_5 ?_
    refine q_get (pc := 6) (id := 28) (ci := 6) (N := 6) (T := TX6) (C := RX6) hX 1 (lt46 (by decide)) rfl rfl in_X6 (by decide) (Or.inl kw_12) rfl dX6_find_6 ?_
    refine q_icmp_ge (pc := 9) hX 21 (by decide) dX6_find_9 (fun c => ?_) (fun c => ?_)
    · rw [if_pos c] at hE
      have h9 : (3 : Nat) = 0 := congrArg Prod.fst (Option.some.inj hE)
      exact absurd h9 (by decide)
    · rw [if_neg c] at hE
      refine q_iload_n (pc := 12) hX 1 rfl rfl dX6_find_12 ?_
      refine q_aload_n (pc := 13) hX 0 rfl rfl dX6_find_13 ?_
      refine q_get (pc := 14) (id := 28) (ci := 6) (N := 6) (T := TX6) (C := RX6) hX 0 (lt46 (by decide)) rfl rfl in_X6 (by decide) (Or.inl kw_11) rfl dX6_find_14 ?_
      refine r_alenS (pc := 17) hX dX6_find_17 ?_
      refine q_icmp_lt (pc := 18) hX 31 (by decide) dX6_find_18 (fun c => ?_) (fun c => ?_)
      · rw [if_pos c] at hE
        refine q_aload_n (pc := 31) hX 0 rfl rfl dX6_find_31 ?_
        refine q_get (pc := 32) (id := 28) (ci := 6) (N := 6) (T := TX6) (C := RX6) hX 0 (lt46 (by decide)) rfl rfl in_X6 (by decide) (Or.inl kw_11) rfl dX6_find_32 ?_
        refine q_iload_n (pc := 35) hX 1 rfl rfl dX6_find_35 ?_
        obtain ⟨u1, hu1, hE⟩ := ob_bind hE
        refine r_aald (pc := 36) hX hu1 dX6_find_36 ?_
        have hemu1 := mrs_em hu1
        refine q_astore_n (pc := 37) (lo' := [(0, .ref (o 28)), (1, .int x1), (2, .ref (o u1))]) hX [1, 2, 0] rfl (by decide) rfl dX6_find_37 ?_
        refine q_aload_n (pc := 38) hX 2 rfl rfl dX6_find_38 ?_
        refine q_ifnonnull (pc := 39) hX 52 (by decide) dX6_find_39 ?_
        refine q_aload_n (pc := 52) hX 2 rfl rfl dX6_find_52 ?_
        cases hE
        exact q_aret hX hR (by decide) (by decide) dX6_find_53
      · rw [if_neg c] at hE
        have h9 : (3 : Nat) = 0 := congrArg Prod.fst (Option.some.inj hE)
        exact absurd h9 (by decide)

set_option maxHeartbeats 4000000 in
theorem c_X6_addByHand {Y : Lx} {o : Nat → Nat} {hn : Nat} {M : Mem} {G : Mel} {t0 : Nat} {x1 : Int32} {x2 : Int32} {x3 : Int32} {rr : Int32} {Mr : Mem} (ht0 : tb hn t0) (hE : s_X6_addByHand M t0 x1 x2 x3 = some (0, rr, Mr)) : MI Y yX6_addByHand cX6_addByHand 4 (some .int) 2 47 0 0 [.ref (o t0), .int x1, .int x2, .int x3] o hn M G (.inl (some (.int rr))) Mr G := by
  refine MI.of (by decide +kernel) (Nat.le_of_ble_eq_true rfl) (fun X hY hX hE0 hR => ?_)
  change CxOK X RX6 cX6_addByHand 4 2 47 0 0 (some .int) at hX
  show WM X o hn M G 0 0 0 4 [(0, .ref (o t0)), (1, .int x1), (2, .int x2), (3, .int x3)] []
  unfold s_X6_addByHand at hE
  refine q_iload_n (pc := 0) hX 1 rfl rfl dX6_addByHand_0 ?_
  refine q_iconst (pc := 1) hX (0) rfl dX6_addByHand_1 ?_
  refine q_sipush (pc := 2) hX (10079) (by decide) dX6_addByHand_2 ?_
  obtain ⟨r1, hr1, hE⟩ := ob_bind hE
  have hkr1 : r1 = 0 := by
    by_cases h9 : r1 = 0
    · exact h9
    · rw [if_pos h9] at hE
      exact congrArg Prod.fst (Option.some.inj hE)
  rw [if_neg (fun h => h hkr1)] at hE
  refine q_callS (pc := 5) (As := [.int x1, .int 0, .int 10079]) (rest := []) (rv := none) (st' := []) hX (c_X6_requireWithin (thr_y hr1 hkr1)) (sl_X6_46) pd_yX6_requireWithin rfl ⟨by decide, by decide⟩ ⟨Nat.le_of_ble_eq_true rfl, Nat.le_of_ble_eq_true rfl⟩ rfl (Nat.le_of_ble_eq_true rfl) rfl dX6_addByHand_5 ?_
  refine q_iload_n (pc := 8) hX 2 rfl rfl dX6_addByHand_8 ?_
  refine q_iload_n (pc := 9) hX 1 rfl rfl dX6_addByHand_9 ?_
  refine q_iconst (pc := 10) hX (1) rfl dX6_addByHand_10 ?_
  refine q_iadd (pc := 11) hX dX6_addByHand_11 ?_
  refine q_sipush (pc := 12) hX (10080) (by decide) dX6_addByHand_12 ?_
  obtain ⟨r2, hr2, hE⟩ := ob_bind hE
  have hkr2 : r2 = 0 := by
    by_cases h9 : r2 = 0
    · exact h9
    · rw [if_pos h9] at hE
      exact congrArg Prod.fst (Option.some.inj hE)
  rw [if_neg (fun h => h hkr2)] at hE
  refine q_callS (pc := 15) (As := [.int x2, .int (x1 + 1), .int 10080]) (rest := []) (rv := none) (st' := []) hX (c_X6_requireWithin (thr_y hr2 hkr2)) (sl_X6_46) pd_yX6_requireWithin rfl ⟨by decide, by decide⟩ ⟨Nat.le_of_ble_eq_true rfl, Nat.le_of_ble_eq_true rfl⟩ rfl (Nat.le_of_ble_eq_true rfl) rfl dX6_addByHand_15 ?_
  refine q_aload_n (pc := 18) hX 0 rfl rfl dX6_addByHand_18 ?_
  refine q_iload_n (pc := 19) hX 3 rfl rfl dX6_addByHand_19 ?_
  obtain ⟨r3, hr3, hE⟩ := ob_bind hE
  have hkr3 : r3 = 0 := by
    by_cases h9 : r3 = 0
    · exact h9
    · rw [if_pos h9] at hE
      exact congrArg Prod.fst (Option.some.inj hE)
  rw [if_neg (fun h => h hkr3)] at hE
  refine q_callS (pc := 20) (As := [.ref (o t0), .int x3]) (rest := []) (rv := none) (st' := []) hX (c_X6_requireRoom ht0 (thr_y hr3 hkr3)) (sl_X6_71) pd_yX6_requireRoom rfl ⟨by decide, by decide⟩ ⟨Nat.le_of_ble_eq_true rfl, Nat.le_of_ble_eq_true rfl⟩ rfl (Nat.le_of_ble_eq_true rfl) rfl dX6_addByHand_20 ?_
  refine q_aload_n (pc := 23) hX 0 rfl rfl dX6_addByHand_23 ?_
  refine q_iload_n (pc := 24) hX 1 rfl rfl dX6_addByHand_24 ?_
  refine q_iload_n (pc := 25) hX 2 rfl rfl dX6_addByHand_25 ?_
  obtain ⟨r4, hr4, hE⟩ := ob_bind hE
  refine q_callV (pc := 26) (id := t0) (As := [.int x1, .int x2]) (rest := []) (rv := none) (st' := []) hX (c_X4_addSpan ht0 hr4) (vl_X6_209) (tb_lt ht0) (ob_T ht0.1 _ _) rfl rfl pd_yX4_addSpan rfl ⟨by decide, by decide⟩ ⟨Nat.le_of_ble_eq_true rfl, Nat.le_of_ble_eq_true rfl⟩ rfl (Nat.le_of_ble_eq_true rfl) rfl dX6_addByHand_26 ?_
  refine q_aload_n (pc := 29) hX 0 rfl rfl dX6_addByHand_29 ?_
  obtain ⟨r5, hr5, hE⟩ := ob_bind hE
  refine q_callV (pc := 30) (id := t0) (As := []) (rest := []) (rv := some (.int r5)) (st' := [.int r5]) hX (c_X4_size ht0 hr5) (vl_X6_93) (tb_lt ht0) (ob_T ht0.1 _ _) rfl rfl pd_yX4_size rfl ⟨by decide, by decide⟩ ⟨Nat.le_of_ble_eq_true rfl, Nat.le_of_ble_eq_true rfl⟩ rfl (Nat.le_of_ble_eq_true rfl) rfl dX6_addByHand_30 ?_
  refine q_iconst (pc := 33) hX (1) rfl dX6_addByHand_33 ?_
  refine q_isub (pc := 34) hX dX6_addByHand_34 ?_
  cases hE
  exact q_iret hX hR (by decide) (by decide) dX6_addByHand_35

set_option maxHeartbeats 4000000 in
theorem c_X6_enter {Y : Lx} {o : Nat → Nat} {hn : Nat} {M : Mem} {G : Mel} {x1 : Int32} {x2 : Int32} {x3 : Int32} {rr : Int32} {Mr : Mem} (hE : s_X6_enter M hn x1 x2 x3 = some (0, rr, Mr)) : MI Y yX6_enter cX6_enter 4 (some .int) 3 70 0 0 [.ref (o 28), .int x1, .int x2, .int x3] o hn M G (.inl (some (.int rr))) Mr G := by
  refine MI.of (by decide +kernel) (Nat.le_of_ble_eq_true rfl) (fun X hY hX hE0 hR => ?_)
  change CxOK X RX6 cX6_enter 4 3 70 0 0 (some .int) at hX
  show WM X o hn M G 0 0 0 4 [(0, .ref (o 28)), (1, .int x1), (2, .int x2), (3, .int x3)] []
  unfold s_X6_enter at hE
  refine q_aload_n (pc := 0) hX 0 rfl rfl dX6_enter_0 ?_
  refine q_iload_n (pc := 1) hX 1 rfl rfl dX6_enter_1 ?_
  obtain ⟨r1, hr1, hE⟩ := ob_bind hE
  have hkr1 : r1.1 = 0 := by
    by_cases h9 : r1.1 = 0
    · exact h9
    · rw [if_pos h9] at hE
      exact congrArg Prod.fst (Option.some.inj hE)
  rw [if_neg (fun h => h hkr1)] at hE
  refine q_callV (pc := 2) (id := 28) (As := [.int x1]) (rest := []) (rv := some (.ref (o r1.2))) (st' := [.ref (o r1.2)]) hX (c_X6_find (thr_z hr1 hkr1)) (vl_X6_60) (lt46 (by decide)) rfl rfl rfl pd_yX6_find rfl ⟨by decide, by decide⟩ ⟨Nat.le_of_ble_eq_true rfl, Nat.le_of_ble_eq_true rfl⟩ rfl (Nat.le_of_ble_eq_true rfl) rfl dX6_enter_2 ?_
  have hemr1 := find_em hr1 hkr1
  refine q_get (pc := 5) (id := r1.2) (ci := 0) (N := 6) (T := TX0) (C := RX0) hX 4 (em_lt hemr1) (ob_E hemr1 _ _) rfl in_X0 (by decide) (Or.inr ⟨_, fn_X6_109⟩) rfl dX6_enter_5 ?_
  refine q_iload_n (pc := 8) hX 2 rfl rfl dX6_enter_8 ?_
  refine q_iload_n (pc := 9) hX 3 rfl rfl dX6_enter_9 ?_
  refine q_bipush (pc := 10) hX (20) (by decide) dX6_enter_10 ?_
  obtain ⟨r2, hr2, hE⟩ := ob_bind hE
  have hkr2 : r2.1 = 0 := by
    by_cases h9 : r2.1 = 0
    · exact h9
    · rw [if_pos h9] at hE
      exact congrArg Prod.fst (Option.some.inj hE)
  rw [if_neg (fun h => h hkr2)] at hE
  refine q_callS (pc := 12) (As := [.ref (o (r1.2 + 3)), .int x2, .int x3, .int 20]) (rest := []) (rv := some (.int r2.2.1)) (st' := [.int r2.2.1]) hX (c_X6_addByHand (tb_e3 hemr1) (thr_z hr2 hkr2)) (sl_X6_112) pd_yX6_addByHand rfl ⟨by decide, by decide⟩ ⟨Nat.le_of_ble_eq_true rfl, Nat.le_of_ble_eq_true rfl⟩ rfl (Nat.le_of_ble_eq_true rfl) rfl dX6_enter_12 ?_
  cases hE
  exact q_iret hX hR (by decide) (by decide) dX6_enter_15

set_option maxHeartbeats 4000000 in
theorem c_X6_enterBreak {Y : Lx} {o : Nat → Nat} {hn : Nat} {M : Mem} {G : Mel} {x1 : Int32} {x2 : Int32} {x3 : Int32} {rr : Int32} {Mr : Mem} (hE : s_X6_enterBreak M hn x1 x2 x3 = some (0, rr, Mr)) : MI Y yX6_enterBreak cX6_enterBreak 4 (some .int) 3 70 0 0 [.ref (o 28), .int x1, .int x2, .int x3] o hn M G (.inl (some (.int rr))) Mr G := by
  refine MI.of (by decide +kernel) (Nat.le_of_ble_eq_true rfl) (fun X hY hX hE0 hR => ?_)
  change CxOK X RX6 cX6_enterBreak 4 3 70 0 0 (some .int) at hX
  show WM X o hn M G 0 0 0 4 [(0, .ref (o 28)), (1, .int x1), (2, .int x2), (3, .int x3)] []
  unfold s_X6_enterBreak at hE
  refine q_aload_n (pc := 0) hX 0 rfl rfl dX6_enterBreak_0 ?_
  refine q_iload_n (pc := 1) hX 1 rfl rfl dX6_enterBreak_1 ?_
  obtain ⟨r1, hr1, hE⟩ := ob_bind hE
  have hkr1 : r1.1 = 0 := by
    by_cases h9 : r1.1 = 0
    · exact h9
    · rw [if_pos h9] at hE
      exact congrArg Prod.fst (Option.some.inj hE)
  rw [if_neg (fun h => h hkr1)] at hE
  refine q_callV (pc := 2) (id := 28) (As := [.int x1]) (rest := []) (rv := some (.ref (o r1.2))) (st' := [.ref (o r1.2)]) hX (c_X6_find (thr_z hr1 hkr1)) (vl_X6_60) (lt46 (by decide)) rfl rfl rfl pd_yX6_find rfl ⟨by decide, by decide⟩ ⟨Nat.le_of_ble_eq_true rfl, Nat.le_of_ble_eq_true rfl⟩ rfl (Nat.le_of_ble_eq_true rfl) rfl dX6_enterBreak_2 ?_
  have hemr1 := find_em hr1 hkr1
  refine q_get (pc := 5) (id := r1.2) (ci := 0) (N := 6) (T := TX0) (C := RX0) hX 5 (em_lt hemr1) (ob_E hemr1 _ _) rfl in_X0 (by decide) (Or.inr ⟨_, fn_X6_119⟩) rfl dX6_enterBreak_5 ?_
  refine q_iload_n (pc := 8) hX 2 rfl rfl dX6_enterBreak_8 ?_
  refine q_iload_n (pc := 9) hX 3 rfl rfl dX6_enterBreak_9 ?_
  refine q_bipush (pc := 10) hX (20) (by decide) dX6_enterBreak_10 ?_
  obtain ⟨r2, hr2, hE⟩ := ob_bind hE
  have hkr2 : r2.1 = 0 := by
    by_cases h9 : r2.1 = 0
    · exact h9
    · rw [if_pos h9] at hE
      exact congrArg Prod.fst (Option.some.inj hE)
  rw [if_neg (fun h => h hkr2)] at hE
  refine q_callS (pc := 12) (As := [.ref (o (r1.2 + 5)), .int x2, .int x3, .int 20]) (rest := []) (rv := some (.int r2.2.1)) (st' := [.int r2.2.1]) hX (c_X6_addByHand (tb_e5 hemr1) (thr_z hr2 hkr2)) (sl_X6_112) pd_yX6_addByHand rfl ⟨by decide, by decide⟩ ⟨Nat.le_of_ble_eq_true rfl, Nat.le_of_ble_eq_true rfl⟩ rfl (Nat.le_of_ble_eq_true rfl) rfl dX6_enterBreak_12 ?_
  cases hE
  exact q_iret hX hR (by decide) (by decide) dX6_enterBreak_15

set_option maxHeartbeats 4000000 in
theorem c_X6_minutes {Y : Lx} {o : Nat → Nat} {hn : Nat} {M : Mem} {G : Mel} {x1 : Int32} {x2 : Int32} {x3 : Int32} {rr : Int32} {Mr : Mem} (hE : s_X6_minutes M hn x1 x2 x3 = some (0, rr, Mr)) : MI Y yX6_minutes cX6_minutes 5 (some .int) 6 140 0 0 [.ref (o 28), .int x1, .int x2, .int x3] o hn M G (.inl (some (.int rr))) Mr G := by
  refine MI.of (by decide +kernel) (Nat.le_of_ble_eq_true rfl) (fun X hY hX hE0 hR => ?_)
  change CxOK X RX6 cX6_minutes 5 6 140 0 0 (some .int) at hX
  show WM X o hn M G 0 0 0 5 [(0, .ref (o 28)), (1, .int x1), (2, .int x2), (3, .int x3)] []
  unfold s_X6_minutes at hE
  refine q_aload_n (pc := 0) hX 0 rfl rfl dX6_minutes_0 ?_
  refine q_iload_n (pc := 1) hX 1 rfl rfl dX6_minutes_1 ?_
  obtain ⟨r1, hr1, hE⟩ := ob_bind hE
  have hkr1 : r1.1 = 0 := by
    by_cases h9 : r1.1 = 0
    · exact h9
    · rw [if_pos h9] at hE
      exact congrArg Prod.fst (Option.some.inj hE)
  rw [if_neg (fun h => h hkr1)] at hE
  refine q_callV (pc := 2) (id := 28) (As := [.int x1]) (rest := []) (rv := some (.ref (o r1.2))) (st' := [.ref (o r1.2)]) hX (c_X6_find (thr_z hr1 hkr1)) (vl_X6_60) (lt46 (by decide)) rfl rfl rfl pd_yX6_find rfl ⟨by decide, by decide⟩ ⟨Nat.le_of_ble_eq_true rfl, Nat.le_of_ble_eq_true rfl⟩ rfl (Nat.le_of_ble_eq_true rfl) rfl dX6_minutes_2 ?_
  have hemr1 := find_em hr1 hkr1
  refine q_astore (pc := 5) (lo' := [(0, .ref (o 28)), (1, .int x1), (2, .int x2), (3, .int x3), (4, .ref (o r1.2))]) hX [1, 2, 3, 4, 0] (by decide) rfl dX6_minutes_5 ?_
  refine q_iload_n (pc := 7) hX 2 rfl rfl dX6_minutes_7 ?_
  refine q_iconst (pc := 8) hX (0) rfl dX6_minutes_8 ?_
  refine q_bipush (pc := 9) hX (6) (by decide) dX6_minutes_9 ?_
  obtain ⟨r2, hr2, hE⟩ := ob_bind hE
  have hkr2 : r2 = 0 := by
    by_cases h9 : r2 = 0
    · exact h9
    · rw [if_pos h9] at hE
      exact congrArg Prod.fst (Option.some.inj hE)
  rw [if_neg (fun h => h hkr2)] at hE
  refine q_callS (pc := 11) (As := [.int x2, .int 0, .int 6]) (rest := []) (rv := none) (st' := []) hX (c_X6_requireWithin (thr_y hr2 hkr2)) (sl_X6_46) pd_yX6_requireWithin rfl ⟨by decide, by decide⟩ ⟨Nat.le_of_ble_eq_true rfl, Nat.le_of_ble_eq_true rfl⟩ rfl (Nat.le_of_ble_eq_true rfl) rfl dX6_minutes_11 ?_
  refine q_iload_n (pc := 14) hX 3 rfl rfl dX6_minutes_14 ?_
  refine q_iconst (pc := 15) hX (0) rfl dX6_minutes_15 ?_
  refine q_iconst (pc := 16) hX (2) rfl dX6_minutes_16 ?_
  obtain ⟨r3, hr3, hE⟩ := ob_bind hE
  have hkr3 : r3 = 0 := by
    by_cases h9 : r3 = 0
    · exact h9
    · rw [if_pos h9] at hE
      exact congrArg Prod.fst (Option.some.inj hE)
  rw [if_neg (fun h => h hkr3)] at hE
  refine q_callS (pc := 17) (As := [.int x3, .int 0, .int 2]) (rest := []) (rv := none) (st' := []) hX (c_X6_requireWithin (thr_y hr3 hkr3)) (sl_X6_46) pd_yX6_requireWithin rfl ⟨by decide, by decide⟩ ⟨Nat.le_of_ble_eq_true rfl, Nat.le_of_ble_eq_true rfl⟩ rfl (Nat.le_of_ble_eq_true rfl) rfl dX6_minutes_17 ?_
  refine q_aload_n (pc := 20) hX 0 rfl rfl dX6_minutes_20 ?_
  refine q_get (pc := 21) (id := 28) (ci := 6) (N := 6) (T := TX6) (C := RX6) hX 3 (lt46 (by decide)) rfl rfl in_X6 (by decide) (Or.inl kw_20) rfl dX6_minutes_21 ?_
  refine q_aload (pc := 24) hX 4 rfl dX6_minutes_24 ?_
  obtain ⟨r4, hr4, hE⟩ := ob_bind hE
  refine q_callV (pc := 26) (id := 33) (As := [.ref (o r1.2)]) (rest := []) (rv := none) (st' := []) hX (c_X1_read hemr1 hr4) (vl_X6_131) (lt46 (by decide)) rfl rfl rfl pd_yX1_read rfl ⟨by decide, by decide⟩ ⟨Nat.le_of_ble_eq_true rfl, Nat.le_of_ble_eq_true rfl⟩ rfl (Nat.le_of_ble_eq_true rfl) rfl dX6_minutes_26 ?_
  refine q_aload_n (pc := 29) hX 0 rfl rfl dX6_minutes_29 ?_
  refine q_get (pc := 30) (id := 28) (ci := 6) (N := 6) (T := TX6) (C := RX6) hX 3 (lt46 (by decide)) rfl rfl in_X6 (by decide) (Or.inl kw_20) rfl dX6_minutes_30 ?_
  refine q_iload_n (pc := 33) hX 2 rfl rfl dX6_minutes_33 ?_
  refine q_iload_n (pc := 34) hX 3 rfl rfl dX6_minutes_34 ?_
  obtain ⟨r5, hr5, hE⟩ := ob_bind hE
  refine q_callV (pc := 35) (id := 33) (As := [.int x2, .int x3]) (rest := []) (rv := some (.int r5)) (st' := [.int r5]) hX (c_X1_minutesOf hr5) (vl_X6_189) (lt46 (by decide)) rfl rfl rfl pd_yX1_minutesOf rfl ⟨by decide, by decide⟩ ⟨Nat.le_of_ble_eq_true rfl, Nat.le_of_ble_eq_true rfl⟩ rfl (Nat.le_of_ble_eq_true rfl) rfl dX6_minutes_35 ?_
  cases hE
  exact q_iret hX hR (by decide) (by decide) dX6_minutes_38

set_option maxHeartbeats 4000000 in
theorem c_X6_quarters {Y : Lx} {o : Nat → Nat} {hn : Nat} {M : Mem} {G : Mel} {x1 : Int32} {x2 : Int32} {x3 : Int32} {rr : Int32} {Mr : Mem} (hE : s_X6_quarters M hn x1 x2 x3 = some (0, rr, Mr)) : MI Y yX6_quarters cX6_quarters 5 (some .int) 6 140 0 0 [.ref (o 28), .int x1, .int x2, .int x3] o hn M G (.inl (some (.int rr))) Mr G := by
  refine MI.of (by decide +kernel) (Nat.le_of_ble_eq_true rfl) (fun X hY hX hE0 hR => ?_)
  change CxOK X RX6 cX6_quarters 5 6 140 0 0 (some .int) at hX
  show WM X o hn M G 0 0 0 5 [(0, .ref (o 28)), (1, .int x1), (2, .int x2), (3, .int x3)] []
  unfold s_X6_quarters at hE
  refine q_aload_n (pc := 0) hX 0 rfl rfl dX6_quarters_0 ?_
  refine q_iload_n (pc := 1) hX 1 rfl rfl dX6_quarters_1 ?_
  obtain ⟨r1, hr1, hE⟩ := ob_bind hE
  have hkr1 : r1.1 = 0 := by
    by_cases h9 : r1.1 = 0
    · exact h9
    · rw [if_pos h9] at hE
      exact congrArg Prod.fst (Option.some.inj hE)
  rw [if_neg (fun h => h hkr1)] at hE
  refine q_callV (pc := 2) (id := 28) (As := [.int x1]) (rest := []) (rv := some (.ref (o r1.2))) (st' := [.ref (o r1.2)]) hX (c_X6_find (thr_z hr1 hkr1)) (vl_X6_60) (lt46 (by decide)) rfl rfl rfl pd_yX6_find rfl ⟨by decide, by decide⟩ ⟨Nat.le_of_ble_eq_true rfl, Nat.le_of_ble_eq_true rfl⟩ rfl (Nat.le_of_ble_eq_true rfl) rfl dX6_quarters_2 ?_
  have hemr1 := find_em hr1 hkr1
  refine q_astore (pc := 5) (lo' := [(0, .ref (o 28)), (1, .int x1), (2, .int x2), (3, .int x3), (4, .ref (o r1.2))]) hX [1, 2, 3, 4, 0] (by decide) rfl dX6_quarters_5 ?_
  refine q_iload_n (pc := 7) hX 2 rfl rfl dX6_quarters_7 ?_
  refine q_iconst (pc := 8) hX (0) rfl dX6_quarters_8 ?_
  refine q_bipush (pc := 9) hX (6) (by decide) dX6_quarters_9 ?_
  obtain ⟨r2, hr2, hE⟩ := ob_bind hE
  have hkr2 : r2 = 0 := by
    by_cases h9 : r2 = 0
    · exact h9
    · rw [if_pos h9] at hE
      exact congrArg Prod.fst (Option.some.inj hE)
  rw [if_neg (fun h => h hkr2)] at hE
  refine q_callS (pc := 11) (As := [.int x2, .int 0, .int 6]) (rest := []) (rv := none) (st' := []) hX (c_X6_requireWithin (thr_y hr2 hkr2)) (sl_X6_46) pd_yX6_requireWithin rfl ⟨by decide, by decide⟩ ⟨Nat.le_of_ble_eq_true rfl, Nat.le_of_ble_eq_true rfl⟩ rfl (Nat.le_of_ble_eq_true rfl) rfl dX6_quarters_11 ?_
  refine q_iload_n (pc := 14) hX 3 rfl rfl dX6_quarters_14 ?_
  refine q_iconst (pc := 15) hX (0) rfl dX6_quarters_15 ?_
  refine q_iconst (pc := 16) hX (2) rfl dX6_quarters_16 ?_
  obtain ⟨r3, hr3, hE⟩ := ob_bind hE
  have hkr3 : r3 = 0 := by
    by_cases h9 : r3 = 0
    · exact h9
    · rw [if_pos h9] at hE
      exact congrArg Prod.fst (Option.some.inj hE)
  rw [if_neg (fun h => h hkr3)] at hE
  refine q_callS (pc := 17) (As := [.int x3, .int 0, .int 2]) (rest := []) (rv := none) (st' := []) hX (c_X6_requireWithin (thr_y hr3 hkr3)) (sl_X6_46) pd_yX6_requireWithin rfl ⟨by decide, by decide⟩ ⟨Nat.le_of_ble_eq_true rfl, Nat.le_of_ble_eq_true rfl⟩ rfl (Nat.le_of_ble_eq_true rfl) rfl dX6_quarters_17 ?_
  refine q_aload_n (pc := 20) hX 0 rfl rfl dX6_quarters_20 ?_
  refine q_get (pc := 21) (id := 28) (ci := 6) (N := 6) (T := TX6) (C := RX6) hX 3 (lt46 (by decide)) rfl rfl in_X6 (by decide) (Or.inl kw_20) rfl dX6_quarters_21 ?_
  refine q_aload (pc := 24) hX 4 rfl dX6_quarters_24 ?_
  obtain ⟨r4, hr4, hE⟩ := ob_bind hE
  refine q_callV (pc := 26) (id := 33) (As := [.ref (o r1.2)]) (rest := []) (rv := none) (st' := []) hX (c_X1_read hemr1 hr4) (vl_X6_131) (lt46 (by decide)) rfl rfl rfl pd_yX1_read rfl ⟨by decide, by decide⟩ ⟨Nat.le_of_ble_eq_true rfl, Nat.le_of_ble_eq_true rfl⟩ rfl (Nat.le_of_ble_eq_true rfl) rfl dX6_quarters_26 ?_
  refine q_aload_n (pc := 29) hX 0 rfl rfl dX6_quarters_29 ?_
  refine q_get (pc := 30) (id := 28) (ci := 6) (N := 6) (T := TX6) (C := RX6) hX 3 (lt46 (by decide)) rfl rfl in_X6 (by decide) (Or.inl kw_20) rfl dX6_quarters_30 ?_
  refine q_iload_n (pc := 33) hX 2 rfl rfl dX6_quarters_33 ?_
  refine q_iload_n (pc := 34) hX 3 rfl rfl dX6_quarters_34 ?_
  obtain ⟨r5, hr5, hE⟩ := ob_bind hE
  refine q_callV (pc := 35) (id := 33) (As := [.int x2, .int x3]) (rest := []) (rv := some (.int r5)) (st' := [.int r5]) hX (c_X1_quartersOf hr5) (vl_X6_192) (lt46 (by decide)) rfl rfl rfl pd_yX1_quartersOf rfl ⟨by decide, by decide⟩ ⟨Nat.le_of_ble_eq_true rfl, Nat.le_of_ble_eq_true rfl⟩ rfl (Nat.le_of_ble_eq_true rfl) rfl dX6_quarters_35 ?_
  cases hE
  exact q_iret hX hR (by decide) (by decide) dX6_quarters_38

set_option maxHeartbeats 4000000 in
theorem c_X6_premiumPay {Y : Lx} {o : Nat → Nat} {hn : Nat} {M : Mem} {G : Mel} {x1 : Int32} {rr : Int32} {Mr : Mem} (hE : s_X6_premiumPay M hn x1 = some (0, rr, Mr)) : MI Y yX6_premiumPay cX6_premiumPay 2 (some .int) 6 140 0 0 [.ref (o 28), .int x1] o hn M G (.inl (some (.int rr))) Mr G := by
  refine MI.of (by decide +kernel) (Nat.le_of_ble_eq_true rfl) (fun X hY hX hE0 hR => ?_)
  change CxOK X RX6 cX6_premiumPay 2 6 140 0 0 (some .int) at hX
  show WM X o hn M G 0 0 0 2 [(0, .ref (o 28)), (1, .int x1)] []
  unfold s_X6_premiumPay at hE
  refine q_aload_n (pc := 0) hX 0 rfl rfl dX6_premiumPay_0 ?_
  refine q_get (pc := 1) (id := 28) (ci := 6) (N := 6) (T := TX6) (C := RX6) hX 3 (lt46 (by decide)) rfl rfl in_X6 (by decide) (Or.inl kw_20) rfl dX6_premiumPay_1 ?_
  refine q_aload_n (pc := 4) hX 0 rfl rfl dX6_premiumPay_4 ?_
  refine q_iload_n (pc := 5) hX 1 rfl rfl dX6_premiumPay_5 ?_
  obtain ⟨r1, hr1, hE⟩ := ob_bind hE
  have hkr1 : r1.1 = 0 := by
    by_cases h9 : r1.1 = 0
    · exact h9
    · rw [if_pos h9] at hE
      exact congrArg Prod.fst (Option.some.inj hE)
  rw [if_neg (fun h => h hkr1)] at hE
  refine q_callV (pc := 6) (id := 28) (As := [.int x1]) (rest := [.ref (o 33)]) (rv := some (.ref (o r1.2))) (st' := [.ref (o r1.2), .ref (o 33)]) hX (c_X6_find (thr_z hr1 hkr1)) (vl_X6_60) (lt46 (by decide)) rfl rfl rfl pd_yX6_find rfl ⟨by decide, by decide⟩ ⟨Nat.le_of_ble_eq_true rfl, Nat.le_of_ble_eq_true rfl⟩ rfl (Nat.le_of_ble_eq_true rfl) rfl dX6_premiumPay_6 ?_
  have hemr1 := find_em hr1 hkr1
  obtain ⟨r2, hr2, hE⟩ := ob_bind hE
  refine q_callV (pc := 9) (id := 33) (As := [.ref (o r1.2)]) (rest := []) (rv := none) (st' := []) hX (c_X1_read hemr1 hr2) (vl_X6_131) (lt46 (by decide)) rfl rfl rfl pd_yX1_read rfl ⟨by decide, by decide⟩ ⟨Nat.le_of_ble_eq_true rfl, Nat.le_of_ble_eq_true rfl⟩ rfl (Nat.le_of_ble_eq_true rfl) rfl dX6_premiumPay_9 ?_
  refine q_aload_n (pc := 12) hX 0 rfl rfl dX6_premiumPay_12 ?_
  refine q_get (pc := 13) (id := 28) (ci := 6) (N := 6) (T := TX6) (C := RX6) hX 2 (lt46 (by decide)) rfl rfl in_X6 (by decide) (Or.inl kw_16) rfl dX6_premiumPay_13 ?_
  refine q_aload_n (pc := 16) hX 0 rfl rfl dX6_premiumPay_16 ?_
  refine q_get (pc := 17) (id := 28) (ci := 6) (N := 6) (T := TX6) (C := RX6) hX 3 (lt46 (by decide)) rfl rfl in_X6 (by decide) (Or.inl kw_20) rfl dX6_premiumPay_17 ?_
  refine q_get (pc := 20) (id := 33) (ci := 1) (N := 3) (T := TX1) (C := RX1) hX 2 (lt46 (by decide)) rfl rfl in_X1 (by decide) (Or.inr ⟨_, fn_X6_139⟩) rfl dX6_premiumPay_20 ?_
  obtain ⟨r3, hr3, hE⟩ := ob_bind hE
  refine q_callV (pc := 23) (id := 30) (As := [.ref (o 36)]) (rest := []) (rv := some (.int r3)) (st' := [.int r3]) hX (c_X2_payFor (tb_36 hn) hr3) (vl_X6_142) (lt46 (by decide)) rfl rfl rfl pd_yX2_payFor rfl ⟨by decide, by decide⟩ ⟨Nat.le_of_ble_eq_true rfl, Nat.le_of_ble_eq_true rfl⟩ rfl (Nat.le_of_ble_eq_true rfl) rfl dX6_premiumPay_23 ?_
  cases hE
  exact q_iret hX hR (by decide) (by decide) dX6_premiumPay_26

set_option maxHeartbeats 4000000 in
theorem c_X6_pay {Y : Lx} {o : Nat → Nat} {hn : Nat} {M : Mem} {G : Mel} {x1 : Int32} {rr : Int32} {Mr : Mem} (hE : s_X6_pay M hn x1 = some (0, rr, Mr)) : MI Y yX6_pay cX6_pay 3 (some .int) 6 140 0 0 [.ref (o 28), .int x1] o hn M G (.inl (some (.int rr))) Mr G := by
  refine MI.of (by decide +kernel) (Nat.le_of_ble_eq_true rfl) (fun X hY hX hE0 hR => ?_)
  change CxOK X RX6 cX6_pay 3 6 140 0 0 (some .int) at hX
  show WM X o hn M G 0 0 0 3 [(0, .ref (o 28)), (1, .int x1)] []
  unfold s_X6_pay at hE
  refine q_aload_n (pc := 0) hX 0 rfl rfl dX6_pay_0 ?_
  refine q_iload_n (pc := 1) hX 1 rfl rfl dX6_pay_1 ?_
  obtain ⟨r1, hr1, hE⟩ := ob_bind hE
  have hkr1 : r1.1 = 0 := by
    by_cases h9 : r1.1 = 0
    · exact h9
    · rw [if_pos h9] at hE
      exact congrArg Prod.fst (Option.some.inj hE)
  rw [if_neg (fun h => h hkr1)] at hE
  refine q_callV (pc := 2) (id := 28) (As := [.int x1]) (rest := []) (rv := some (.ref (o r1.2))) (st' := [.ref (o r1.2)]) hX (c_X6_find (thr_z hr1 hkr1)) (vl_X6_60) (lt46 (by decide)) rfl rfl rfl pd_yX6_find rfl ⟨by decide, by decide⟩ ⟨Nat.le_of_ble_eq_true rfl, Nat.le_of_ble_eq_true rfl⟩ rfl (Nat.le_of_ble_eq_true rfl) rfl dX6_pay_2 ?_
  have hemr1 := find_em hr1 hkr1
  refine q_astore_n (pc := 5) (lo' := [(0, .ref (o 28)), (1, .int x1), (2, .ref (o r1.2))]) hX [1, 2, 0] rfl (by decide) rfl dX6_pay_5 ?_
  refine q_aload_n (pc := 6) hX 0 rfl rfl dX6_pay_6 ?_
  refine q_get (pc := 7) (id := 28) (ci := 6) (N := 6) (T := TX6) (C := RX6) hX 3 (lt46 (by decide)) rfl rfl in_X6 (by decide) (Or.inl kw_20) rfl dX6_pay_7 ?_
  refine q_aload_n (pc := 10) hX 2 rfl rfl dX6_pay_10 ?_
  obtain ⟨r2, hr2, hE⟩ := ob_bind hE
  refine q_callV (pc := 11) (id := 33) (As := [.ref (o r1.2)]) (rest := []) (rv := none) (st' := []) hX (c_X1_read hemr1 hr2) (vl_X6_131) (lt46 (by decide)) rfl rfl rfl pd_yX1_read rfl ⟨by decide, by decide⟩ ⟨Nat.le_of_ble_eq_true rfl, Nat.le_of_ble_eq_true rfl⟩ rfl (Nat.le_of_ble_eq_true rfl) rfl dX6_pay_11 ?_
  refine q_aload_n (pc := 14) hX 0 rfl rfl dX6_pay_14 ?_
  refine q_get (pc := 15) (id := 28) (ci := 6) (N := 6) (T := TX6) (C := RX6) hX 3 (lt46 (by decide)) rfl rfl in_X6 (by decide) (Or.inl kw_20) rfl dX6_pay_15 ?_
  refine q_aload_n (pc := 18) hX 2 rfl rfl dX6_pay_18 ?_
  refine q_get (pc := 19) (id := r1.2) (ci := 0) (N := 6) (T := TX0) (C := RX0) hX 0 (em_lt hemr1) (ob_E hemr1 _ _) rfl in_X0 (by decide) (Or.inr ⟨_, fn_X6_64⟩) rfl dX6_pay_19 ?_
  obtain ⟨r3, hr3, hE⟩ := ob_bind hE
  refine q_callV (pc := 22) (id := 33) (As := [.int (r2 r1.2 0)]) (rest := []) (rv := some (.int r3)) (st' := [.int r3]) hX (c_X1_basicPay hr3) (vl_X6_135) (lt46 (by decide)) rfl rfl rfl pd_yX1_basicPay rfl ⟨by decide, by decide⟩ ⟨Nat.le_of_ble_eq_true rfl, Nat.le_of_ble_eq_true rfl⟩ rfl (Nat.le_of_ble_eq_true rfl) rfl dX6_pay_22 ?_
  refine q_aload_n (pc := 25) hX 0 rfl rfl dX6_pay_25 ?_
  refine q_get (pc := 26) (id := 28) (ci := 6) (N := 6) (T := TX6) (C := RX6) hX 2 (lt46 (by decide)) rfl rfl in_X6 (by decide) (Or.inl kw_16) rfl dX6_pay_26 ?_
  refine q_aload_n (pc := 29) hX 0 rfl rfl dX6_pay_29 ?_
  refine q_get (pc := 30) (id := 28) (ci := 6) (N := 6) (T := TX6) (C := RX6) hX 3 (lt46 (by decide)) rfl rfl in_X6 (by decide) (Or.inl kw_20) rfl dX6_pay_30 ?_
  refine q_get (pc := 33) (id := 33) (ci := 1) (N := 3) (T := TX1) (C := RX1) hX 2 (lt46 (by decide)) rfl rfl in_X1 (by decide) (Or.inr ⟨_, fn_X6_139⟩) rfl dX6_pay_33 ?_
  obtain ⟨r4, hr4, hE⟩ := ob_bind hE
  refine q_callV (pc := 36) (id := 30) (As := [.ref (o 36)]) (rest := [.int r3]) (rv := some (.int r4)) (st' := [.int r4, .int r3]) hX (c_X2_payFor (tb_36 hn) hr4) (vl_X6_142) (lt46 (by decide)) rfl rfl rfl pd_yX2_payFor rfl ⟨by decide, by decide⟩ ⟨Nat.le_of_ble_eq_true rfl, Nat.le_of_ble_eq_true rfl⟩ rfl (Nat.le_of_ble_eq_true rfl) rfl dX6_pay_36 ?_
  refine q_iadd (pc := 39) hX dX6_pay_39 ?_
  cases hE
  exact q_iret hX hR (by decide) (by decide) dX6_pay_40

set_option maxHeartbeats 4000000 in
theorem c_X6_workedOn {Y : Lx} {o : Nat → Nat} {hn : Nat} {M : Mem} {G : Mel} {x1 : Int32} {x2 : Int32} {rr : Int32} {Mr : Mem} (hE : s_X6_workedOn M hn x1 x2 = some (0, rr, Mr)) : MI Y yX6_workedOn cX6_workedOn 4 (some .int) 5 116 0 0 [.ref (o 28), .int x1, .int x2] o hn M G (.inl (some (.int rr))) Mr G := by
  refine MI.of (by decide +kernel) (Nat.le_of_ble_eq_true rfl) (fun X hY hX hE0 hR => ?_)
  change CxOK X RX6 cX6_workedOn 4 5 116 0 0 (some .int) at hX
  show WM X o hn M G 0 0 0 4 [(0, .ref (o 28)), (1, .int x1), (2, .int x2)] []
  unfold s_X6_workedOn at hE
  refine q_aload_n (pc := 0) hX 0 rfl rfl dX6_workedOn_0 ?_
  refine q_iload_n (pc := 1) hX 1 rfl rfl dX6_workedOn_1 ?_
  obtain ⟨r1, hr1, hE⟩ := ob_bind hE
  have hkr1 : r1.1 = 0 := by
    by_cases h9 : r1.1 = 0
    · exact h9
    · rw [if_pos h9] at hE
      exact congrArg Prod.fst (Option.some.inj hE)
  rw [if_neg (fun h => h hkr1)] at hE
  refine q_callV (pc := 2) (id := 28) (As := [.int x1]) (rest := []) (rv := some (.ref (o r1.2))) (st' := [.ref (o r1.2)]) hX (c_X6_find (thr_z hr1 hkr1)) (vl_X6_60) (lt46 (by decide)) rfl rfl rfl pd_yX6_find rfl ⟨by decide, by decide⟩ ⟨Nat.le_of_ble_eq_true rfl, Nat.le_of_ble_eq_true rfl⟩ rfl (Nat.le_of_ble_eq_true rfl) rfl dX6_workedOn_2 ?_
  have hemr1 := find_em hr1 hkr1
  refine q_astore_n (pc := 5) (lo' := [(0, .ref (o 28)), (1, .int x1), (2, .int x2), (3, .ref (o r1.2))]) hX [1, 2, 3, 0] rfl (by decide) rfl dX6_workedOn_5 ?_
  refine q_iload_n (pc := 6) hX 2 rfl rfl dX6_workedOn_6 ?_
  refine q_iconst (pc := 7) hX (0) rfl dX6_workedOn_7 ?_
  refine q_bipush (pc := 8) hX (6) (by decide) dX6_workedOn_8 ?_
  obtain ⟨r2, hr2, hE⟩ := ob_bind hE
  have hkr2 : r2 = 0 := by
    by_cases h9 : r2 = 0
    · exact h9
    · rw [if_pos h9] at hE
      exact congrArg Prod.fst (Option.some.inj hE)
  rw [if_neg (fun h => h hkr2)] at hE
  refine q_callS (pc := 10) (As := [.int x2, .int 0, .int 6]) (rest := []) (rv := none) (st' := []) hX (c_X6_requireWithin (thr_y hr2 hkr2)) (sl_X6_46) pd_yX6_requireWithin rfl ⟨by decide, by decide⟩ ⟨Nat.le_of_ble_eq_true rfl, Nat.le_of_ble_eq_true rfl⟩ rfl (Nat.le_of_ble_eq_true rfl) rfl dX6_workedOn_10 ?_
  refine q_aload_n (pc := 13) hX 0 rfl rfl dX6_workedOn_13 ?_
  refine q_get (pc := 14) (id := 28) (ci := 6) (N := 6) (T := TX6) (C := RX6) hX 4 (lt46 (by decide)) rfl rfl in_X6 (by decide) (Or.inl kw_21) rfl dX6_workedOn_14 ?_
  refine q_aload_n (pc := 17) hX 3 rfl rfl dX6_workedOn_17 ?_
  obtain ⟨r3, hr3, hE⟩ := ob_bind hE
  refine q_callV (pc := 18) (id := 38) (As := [.ref (o r1.2)]) (rest := []) (rv := none) (st' := []) hX (c_X5_read hemr1 hr3) (vl_X6_173) (lt46 (by decide)) rfl rfl rfl pd_yX5_read rfl ⟨by decide, by decide⟩ ⟨Nat.le_of_ble_eq_true rfl, Nat.le_of_ble_eq_true rfl⟩ rfl (Nat.le_of_ble_eq_true rfl) rfl dX6_workedOn_18 ?_
  refine q_aload_n (pc := 21) hX 0 rfl rfl dX6_workedOn_21 ?_
  refine q_get (pc := 22) (id := 28) (ci := 6) (N := 6) (T := TX6) (C := RX6) hX 4 (lt46 (by decide)) rfl rfl in_X6 (by decide) (Or.inl kw_21) rfl dX6_workedOn_22 ?_
  refine q_get (pc := 25) (id := 38) (ci := 5) (N := 4) (T := TX5) (C := RX5) hX 2 (lt46 (by decide)) rfl rfl in_X5 (by decide) (Or.inr ⟨_, fn_X6_177⟩) rfl dX6_workedOn_25 ?_
  refine q_iload_n (pc := 28) hX 2 rfl rfl dX6_workedOn_28 ?_
  obtain ⟨r4, hr4, hE⟩ := ob_bind hE
  refine q_callS (pc := 29) (As := [.ref (o 41), .int x2]) (rest := []) (rv := some (.int r4)) (st' := [.int r4]) hX (c_X6_minutesOnDay (tb_41 hn) hr4) (sl_X6_180) pd_yX6_minutesOnDay rfl ⟨by decide, by decide⟩ ⟨Nat.le_of_ble_eq_true rfl, Nat.le_of_ble_eq_true rfl⟩ rfl (Nat.le_of_ble_eq_true rfl) rfl dX6_workedOn_29 ?_
  cases hE
  exact q_iret hX hR (by decide) (by decide) dX6_workedOn_32

set_option maxHeartbeats 4000000 in
theorem c_X6_closeWeek {Y : Lx} {o : Nat → Nat} {hn : Nat} {M : Mem} {G : Mel} {x1 : Int32} {rr : Int32} {Mr : Mem} {Gr : Mel} (hE : s_X6_closeWeek M G hn x1 = some (0, rr, Mr, Gr)) : MI Y yX6_closeWeek cX6_closeWeek 4 (some .int) 6 140 0 0 [.ref (o 28), .int x1] o hn M G (.inl (some (.int rr))) Mr Gr := by
  refine MI.of (by decide +kernel) (Nat.le_of_ble_eq_true rfl) (fun X hY hX hE0 hR => ?_)
  change CxOK X RX6 cX6_closeWeek 4 6 140 0 0 (some .int) at hX
  show WM X o hn M G 0 0 0 4 [(0, .ref (o 28)), (1, .int x1)] []
  unfold s_X6_closeWeek at hE
  refine q_aload_n (pc := 0) hX 0 rfl rfl dX6_closeWeek_0 ?_
  refine q_iload_n (pc := 1) hX 1 rfl rfl dX6_closeWeek_1 ?_
  obtain ⟨r1, hr1, hE⟩ := ob_bind hE
  have hkr1 : r1.1 = 0 := by
    by_cases h9 : r1.1 = 0
    · exact h9
    · rw [if_pos h9] at hE
      exact congrArg Prod.fst (Option.some.inj hE)
  rw [if_neg (fun h => h hkr1)] at hE
  refine q_callV (pc := 2) (id := 28) (As := [.int x1]) (rest := []) (rv := some (.ref (o r1.2))) (st' := [.ref (o r1.2)]) hX (c_X6_find (thr_z hr1 hkr1)) (vl_X6_60) (lt46 (by decide)) rfl rfl rfl pd_yX6_find rfl ⟨by decide, by decide⟩ ⟨Nat.le_of_ble_eq_true rfl, Nat.le_of_ble_eq_true rfl⟩ rfl (Nat.le_of_ble_eq_true rfl) rfl dX6_closeWeek_2 ?_
  have hemr1 := find_em hr1 hkr1
  refine q_astore_n (pc := 5) (lo' := [(0, .ref (o 28)), (1, .int x1), (2, .ref (o r1.2))]) hX [1, 2, 0] rfl (by decide) rfl dX6_closeWeek_5 ?_
  refine q_aload_n (pc := 6) hX 2 rfl rfl dX6_closeWeek_6 ?_
  refine q_get (pc := 7) (id := r1.2) (ci := 0) (N := 6) (T := TX0) (C := RX0) hX 3 (em_lt hemr1) (ob_E hemr1 _ _) rfl in_X0 (by decide) (Or.inr ⟨_, fn_X6_67⟩) rfl dX6_closeWeek_7 ?_
  obtain ⟨r2, hr2, hE⟩ := ob_bind hE
  refine q_callV (pc := 10) (id := (r1.2 + 1)) (As := []) (rest := []) (rv := some (.int r2)) (st' := [.int r2]) hX (c_X4_size (tb_e1 hemr1) hr2) (vl_X6_93) (tb_lt (tb_e1 hemr1)) (ob_T (tb_e1 hemr1).1 _ _) rfl rfl pd_yX4_size rfl ⟨by decide, by decide⟩ ⟨Nat.le_of_ble_eq_true rfl, Nat.le_of_ble_eq_true rfl⟩ rfl (Nat.le_of_ble_eq_true rfl) rfl dX6_closeWeek_10 ?_
  refine q_if_ne (pc := 13) hX 36 (by decide) dX6_closeWeek_13 (fun c => ?_) (fun c => ?_)
  · rw [if_neg c] at hE
    refine q_aload_n (pc := 36) hX 0 rfl rfl dX6_closeWeek_36 ?_
    refine q_get (pc := 37) (id := 28) (ci := 6) (N := 6) (T := TX6) (C := RX6) hX 3 (lt46 (by decide)) rfl rfl in_X6 (by decide) (Or.inl kw_20) rfl dX6_closeWeek_37 ?_
    refine q_aload_n (pc := 40) hX 2 rfl rfl dX6_closeWeek_40 ?_
    obtain ⟨r3, hr3, hE⟩ := ob_bind hE
    refine q_callV (pc := 41) (id := 33) (As := [.ref (o r1.2)]) (rest := []) (rv := none) (st' := []) hX (c_X1_read hemr1 hr3) (vl_X6_131) (lt46 (by decide)) rfl rfl rfl pd_yX1_read rfl ⟨by decide, by decide⟩ ⟨Nat.le_of_ble_eq_true rfl, Nat.le_of_ble_eq_true rfl⟩ rfl (Nat.le_of_ble_eq_true rfl) rfl dX6_closeWeek_41 ?_
    refine q_aload_n (pc := 44) hX 0 rfl rfl dX6_closeWeek_44 ?_
    refine q_get (pc := 45) (id := 28) (ci := 6) (N := 6) (T := TX6) (C := RX6) hX 3 (lt46 (by decide)) rfl rfl in_X6 (by decide) (Or.inl kw_20) rfl dX6_closeWeek_45 ?_
    refine q_aload_n (pc := 48) hX 2 rfl rfl dX6_closeWeek_48 ?_
    refine q_get (pc := 49) (id := r1.2) (ci := 0) (N := 6) (T := TX0) (C := RX0) hX 0 (em_lt hemr1) (ob_E hemr1 _ _) rfl in_X0 (by decide) (Or.inr ⟨_, fn_X6_64⟩) rfl dX6_closeWeek_49 ?_
    obtain ⟨r4, hr4, hE⟩ := ob_bind hE
    refine q_callV (pc := 52) (id := 33) (As := [.int (r3 r1.2 0)]) (rest := []) (rv := some (.int r4)) (st' := [.int r4]) hX (c_X1_basicPay hr4) (vl_X6_135) (lt46 (by decide)) rfl rfl rfl pd_yX1_basicPay rfl ⟨by decide, by decide⟩ ⟨Nat.le_of_ble_eq_true rfl, Nat.le_of_ble_eq_true rfl⟩ rfl (Nat.le_of_ble_eq_true rfl) rfl dX6_closeWeek_52 ?_
    refine q_aload_n (pc := 55) hX 0 rfl rfl dX6_closeWeek_55 ?_
    refine q_get (pc := 56) (id := 28) (ci := 6) (N := 6) (T := TX6) (C := RX6) hX 2 (lt46 (by decide)) rfl rfl in_X6 (by decide) (Or.inl kw_16) rfl dX6_closeWeek_56 ?_
    refine q_aload_n (pc := 59) hX 0 rfl rfl dX6_closeWeek_59 ?_
    refine q_get (pc := 60) (id := 28) (ci := 6) (N := 6) (T := TX6) (C := RX6) hX 3 (lt46 (by decide)) rfl rfl in_X6 (by decide) (Or.inl kw_20) rfl dX6_closeWeek_60 ?_
    refine q_get (pc := 63) (id := 33) (ci := 1) (N := 3) (T := TX1) (C := RX1) hX 2 (lt46 (by decide)) rfl rfl in_X1 (by decide) (Or.inr ⟨_, fn_X6_139⟩) rfl dX6_closeWeek_63 ?_
    obtain ⟨r5, hr5, hE⟩ := ob_bind hE
    refine q_callV (pc := 66) (id := 30) (As := [.ref (o 36)]) (rest := [.int r4]) (rv := some (.int r5)) (st' := [.int r5, .int r4]) hX (c_X2_payFor (tb_36 hn) hr5) (vl_X6_142) (lt46 (by decide)) rfl rfl rfl pd_yX2_payFor rfl ⟨by decide, by decide⟩ ⟨Nat.le_of_ble_eq_true rfl, Nat.le_of_ble_eq_true rfl⟩ rfl (Nat.le_of_ble_eq_true rfl) rfl dX6_closeWeek_66 ?_
    refine q_iadd (pc := 69) hX dX6_closeWeek_69 ?_
    refine q_nm (fun z6 hz6 => ?_)
    have hE := bnd_nm hz6 hE
    refine q_istore_n (pc := 70) (lo' := [(0, .ref (o 28)), (1, .int x1), (2, .ref (o r1.2)), (3, .int z6)]) hX [1, 2, 3, 0] rfl (by decide) rfl dX6_closeWeek_70 ?_
    refine q_aload_n (pc := 71) hX 2 rfl rfl dX6_closeWeek_71 ?_
    refine q_iload_n (pc := 72) hX 3 rfl rfl dX6_closeWeek_72 ?_
    obtain ⟨r7, hr7, hE⟩ := ob_bind hE
    refine q_callV (pc := 73) (id := r1.2) (As := [.int z6]) (rest := []) (rv := none) (st' := []) hX (c_X0_beginNextWeek hemr1 hr7) (vl_X6_146) (em_lt hemr1) (ob_E hemr1 _ _) rfl rfl pd_yX0_beginNextWeek rfl ⟨by decide, by decide⟩ ⟨Nat.le_of_ble_eq_true rfl, Nat.le_of_ble_eq_true rfl⟩ rfl (Nat.le_of_ble_eq_true rfl) rfl dX6_closeWeek_73 ?_
    refine q_iload_n (pc := 76) hX 3 rfl rfl dX6_closeWeek_76 ?_
    cases hE
    exact q_iret hX hR (by decide) (by decide) dX6_closeWeek_77
  · rw [if_pos c] at hE
    refine q_aload_n (pc := 16) hX 2 rfl rfl dX6_closeWeek_16 ?_
    refine q_get (pc := 17) (id := r1.2) (ci := 0) (N := 6) (T := TX0) (C := RX0) hX 4 (em_lt hemr1) (ob_E hemr1 _ _) rfl in_X0 (by decide) (Or.inr ⟨_, fn_X6_109⟩) rfl dX6_closeWeek_17 ?_
    obtain ⟨r8, hr8, hE⟩ := ob_bind hE
    refine q_callV (pc := 20) (id := (r1.2 + 3)) (As := []) (rest := []) (rv := some (.int r8)) (st' := [.int r8]) hX (c_X4_size (tb_e3 hemr1) hr8) (vl_X6_93) (tb_lt (tb_e3 hemr1)) (ob_T (tb_e3 hemr1).1 _ _) rfl rfl pd_yX4_size rfl ⟨by decide, by decide⟩ ⟨Nat.le_of_ble_eq_true rfl, Nat.le_of_ble_eq_true rfl⟩ rfl (Nat.le_of_ble_eq_true rfl) rfl dX6_closeWeek_20 ?_
    refine q_if_ne (pc := 23) hX 36 (by decide) dX6_closeWeek_23 (fun c => ?_) (fun c => ?_)
    · rw [if_neg c] at hE
      refine q_aload_n (pc := 36) hX 0 rfl rfl dX6_closeWeek_36 ?_
      refine q_get (pc := 37) (id := 28) (ci := 6) (N := 6) (T := TX6) (C := RX6) hX 3 (lt46 (by decide)) rfl rfl in_X6 (by decide) (Or.inl kw_20) rfl dX6_closeWeek_37 ?_
      refine q_aload_n (pc := 40) hX 2 rfl rfl dX6_closeWeek_40 ?_
      obtain ⟨r9, hr9, hE⟩ := ob_bind hE
      refine q_callV (pc := 41) (id := 33) (As := [.ref (o r1.2)]) (rest := []) (rv := none) (st' := []) hX (c_X1_read hemr1 hr9) (vl_X6_131) (lt46 (by decide)) rfl rfl rfl pd_yX1_read rfl ⟨by decide, by decide⟩ ⟨Nat.le_of_ble_eq_true rfl, Nat.le_of_ble_eq_true rfl⟩ rfl (Nat.le_of_ble_eq_true rfl) rfl dX6_closeWeek_41 ?_
      refine q_aload_n (pc := 44) hX 0 rfl rfl dX6_closeWeek_44 ?_
      refine q_get (pc := 45) (id := 28) (ci := 6) (N := 6) (T := TX6) (C := RX6) hX 3 (lt46 (by decide)) rfl rfl in_X6 (by decide) (Or.inl kw_20) rfl dX6_closeWeek_45 ?_
      refine q_aload_n (pc := 48) hX 2 rfl rfl dX6_closeWeek_48 ?_
      refine q_get (pc := 49) (id := r1.2) (ci := 0) (N := 6) (T := TX0) (C := RX0) hX 0 (em_lt hemr1) (ob_E hemr1 _ _) rfl in_X0 (by decide) (Or.inr ⟨_, fn_X6_64⟩) rfl dX6_closeWeek_49 ?_
      obtain ⟨r10, hr10, hE⟩ := ob_bind hE
      refine q_callV (pc := 52) (id := 33) (As := [.int (r9 r1.2 0)]) (rest := []) (rv := some (.int r10)) (st' := [.int r10]) hX (c_X1_basicPay hr10) (vl_X6_135) (lt46 (by decide)) rfl rfl rfl pd_yX1_basicPay rfl ⟨by decide, by decide⟩ ⟨Nat.le_of_ble_eq_true rfl, Nat.le_of_ble_eq_true rfl⟩ rfl (Nat.le_of_ble_eq_true rfl) rfl dX6_closeWeek_52 ?_
      refine q_aload_n (pc := 55) hX 0 rfl rfl dX6_closeWeek_55 ?_
      refine q_get (pc := 56) (id := 28) (ci := 6) (N := 6) (T := TX6) (C := RX6) hX 2 (lt46 (by decide)) rfl rfl in_X6 (by decide) (Or.inl kw_16) rfl dX6_closeWeek_56 ?_
      refine q_aload_n (pc := 59) hX 0 rfl rfl dX6_closeWeek_59 ?_
      refine q_get (pc := 60) (id := 28) (ci := 6) (N := 6) (T := TX6) (C := RX6) hX 3 (lt46 (by decide)) rfl rfl in_X6 (by decide) (Or.inl kw_20) rfl dX6_closeWeek_60 ?_
      refine q_get (pc := 63) (id := 33) (ci := 1) (N := 3) (T := TX1) (C := RX1) hX 2 (lt46 (by decide)) rfl rfl in_X1 (by decide) (Or.inr ⟨_, fn_X6_139⟩) rfl dX6_closeWeek_63 ?_
      obtain ⟨r11, hr11, hE⟩ := ob_bind hE
      refine q_callV (pc := 66) (id := 30) (As := [.ref (o 36)]) (rest := [.int r10]) (rv := some (.int r11)) (st' := [.int r11, .int r10]) hX (c_X2_payFor (tb_36 hn) hr11) (vl_X6_142) (lt46 (by decide)) rfl rfl rfl pd_yX2_payFor rfl ⟨by decide, by decide⟩ ⟨Nat.le_of_ble_eq_true rfl, Nat.le_of_ble_eq_true rfl⟩ rfl (Nat.le_of_ble_eq_true rfl) rfl dX6_closeWeek_66 ?_
      refine q_iadd (pc := 69) hX dX6_closeWeek_69 ?_
      refine q_nm (fun z12 hz12 => ?_)
      have hE := bnd_nm hz12 hE
      refine q_istore_n (pc := 70) (lo' := [(0, .ref (o 28)), (1, .int x1), (2, .ref (o r1.2)), (3, .int z12)]) hX [1, 2, 3, 0] rfl (by decide) rfl dX6_closeWeek_70 ?_
      refine q_aload_n (pc := 71) hX 2 rfl rfl dX6_closeWeek_71 ?_
      refine q_iload_n (pc := 72) hX 3 rfl rfl dX6_closeWeek_72 ?_
      obtain ⟨r13, hr13, hE⟩ := ob_bind hE
      refine q_callV (pc := 73) (id := r1.2) (As := [.int z12]) (rest := []) (rv := none) (st' := []) hX (c_X0_beginNextWeek hemr1 hr13) (vl_X6_146) (em_lt hemr1) (ob_E hemr1 _ _) rfl rfl pd_yX0_beginNextWeek rfl ⟨by decide, by decide⟩ ⟨Nat.le_of_ble_eq_true rfl, Nat.le_of_ble_eq_true rfl⟩ rfl (Nat.le_of_ble_eq_true rfl) rfl dX6_closeWeek_73 ?_
      refine q_iload_n (pc := 76) hX 3 rfl rfl dX6_closeWeek_76 ?_
      cases hE
      exact q_iret hX hR (by decide) (by decide) dX6_closeWeek_77
    · rw [if_pos c] at hE
      have h9 : (2 : Nat) = 0 := congrArg Prod.fst (Option.some.inj hE)
      exact absurd h9 (by decide)

set_option maxHeartbeats 4000000 in
theorem c_X6_earned {Y : Lx} {o : Nat → Nat} {hn : Nat} {M : Mem} {G : Mel} {x1 : Int32} {rr : Int64} (hE : s_X6_earned G hn x1 = some (0, rr)) : MI Y yX6_earned cX6_earned 2 (some .long) 1 22 0 0 [.ref (o 28), .int x1] o hn M G (.inl (some (.long rr))) M G := by
  refine MI.of (by decide +kernel) (Nat.le_of_ble_eq_true rfl) (fun X hY hX hE0 hR => ?_)
  change CxOK X RX6 cX6_earned 2 1 22 0 0 (some .long) at hX
  show WM X o hn M G 0 0 0 2 [(0, .ref (o 28)), (1, .int x1)] []
  unfold s_X6_earned at hE
  refine q_aload_n (pc := 0) hX 0 rfl rfl dX6_earned_0 ?_
  refine q_iload_n (pc := 1) hX 1 rfl rfl dX6_earned_1 ?_
  obtain ⟨r1, hr1, hE⟩ := ob_bind hE
  have hkr1 : r1.1 = 0 := by
    by_cases h9 : r1.1 = 0
    · exact h9
    · rw [if_pos h9] at hE
      exact congrArg Prod.fst (Option.some.inj hE)
  rw [if_neg (fun h => h hkr1)] at hE
  refine q_callV (pc := 2) (id := 28) (As := [.int x1]) (rest := []) (rv := some (.ref (o r1.2))) (st' := [.ref (o r1.2)]) hX (c_X6_find (thr_z hr1 hkr1)) (vl_X6_60) (lt46 (by decide)) rfl rfl rfl pd_yX6_find rfl ⟨by decide, by decide⟩ ⟨Nat.le_of_ble_eq_true rfl, Nat.le_of_ble_eq_true rfl⟩ rfl (Nat.le_of_ble_eq_true rfl) rfl dX6_earned_2 ?_
  have hemr1 := find_em hr1 hkr1
  refine q_get (pc := 5) (id := r1.2) (ci := 0) (N := 6) (T := TX0) (C := RX0) hX 2 (em_lt hemr1) (ob_E hemr1 _ _) rfl in_X0 (by decide) (Or.inr ⟨_, fn_X6_152⟩) rfl dX6_earned_5 ?_
  cases hE
  exact q_lret hX hR (by decide) (by decide) dX6_earned_8

set_option maxHeartbeats 4000000 in
theorem c_X6_closedWeeks {Y : Lx} {o : Nat → Nat} {hn : Nat} {M : Mem} {G : Mel} {x1 : Int32} {rr : Int32} (hE : s_X6_closedWeeks M hn x1 = some (0, rr)) : MI Y yX6_closedWeeks cX6_closedWeeks 2 (some .int) 1 22 0 0 [.ref (o 28), .int x1] o hn M G (.inl (some (.int rr))) M G := by
  refine MI.of (by decide +kernel) (Nat.le_of_ble_eq_true rfl) (fun X hY hX hE0 hR => ?_)
  change CxOK X RX6 cX6_closedWeeks 2 1 22 0 0 (some .int) at hX
  show WM X o hn M G 0 0 0 2 [(0, .ref (o 28)), (1, .int x1)] []
  unfold s_X6_closedWeeks at hE
  refine q_aload_n (pc := 0) hX 0 rfl rfl dX6_closedWeeks_0 ?_
  refine q_iload_n (pc := 1) hX 1 rfl rfl dX6_closedWeeks_1 ?_
  obtain ⟨r1, hr1, hE⟩ := ob_bind hE
  have hkr1 : r1.1 = 0 := by
    by_cases h9 : r1.1 = 0
    · exact h9
    · rw [if_pos h9] at hE
      exact congrArg Prod.fst (Option.some.inj hE)
  rw [if_neg (fun h => h hkr1)] at hE
  refine q_callV (pc := 2) (id := 28) (As := [.int x1]) (rest := []) (rv := some (.ref (o r1.2))) (st' := [.ref (o r1.2)]) hX (c_X6_find (thr_z hr1 hkr1)) (vl_X6_60) (lt46 (by decide)) rfl rfl rfl pd_yX6_find rfl ⟨by decide, by decide⟩ ⟨Nat.le_of_ble_eq_true rfl, Nat.le_of_ble_eq_true rfl⟩ rfl (Nat.le_of_ble_eq_true rfl) rfl dX6_closedWeeks_2 ?_
  have hemr1 := find_em hr1 hkr1
  refine q_get (pc := 5) (id := r1.2) (ci := 0) (N := 6) (T := TX0) (C := RX0) hX 1 (em_lt hemr1) (ob_E hemr1 _ _) rfl in_X0 (by decide) (Or.inr ⟨_, fn_X6_149⟩) rfl dX6_closedWeeks_5 ?_
  cases hE
  exact q_iret hX hR (by decide) (by decide) dX6_closedWeeks_8

set_option maxHeartbeats 4000000 in
theorem c_X6_shifts {Y : Lx} {o : Nat → Nat} {hn : Nat} {M : Mem} {G : Mel} {x1 : Int32} {rr : Int32} {Mr : Mem} (hE : s_X6_shifts M hn x1 = some (0, rr, Mr)) : MI Y yX6_shifts cX6_shifts 2 (some .int) 4 94 0 0 [.ref (o 28), .int x1] o hn M G (.inl (some (.int rr))) Mr G := by
  refine MI.of (by decide +kernel) (Nat.le_of_ble_eq_true rfl) (fun X hY hX hE0 hR => ?_)
  change CxOK X RX6 cX6_shifts 2 4 94 0 0 (some .int) at hX
  show WM X o hn M G 0 0 0 2 [(0, .ref (o 28)), (1, .int x1)] []
  unfold s_X6_shifts at hE
  refine q_aload_n (pc := 0) hX 0 rfl rfl dX6_shifts_0 ?_
  refine q_get (pc := 1) (id := 28) (ci := 6) (N := 6) (T := TX6) (C := RX6) hX 5 (lt46 (by decide)) rfl rfl in_X6 (by decide) (Or.inl kw_22) rfl dX6_shifts_1 ?_
  refine q_aload_n (pc := 4) hX 0 rfl rfl dX6_shifts_4 ?_
  refine q_iload_n (pc := 5) hX 1 rfl rfl dX6_shifts_5 ?_
  obtain ⟨r1, hr1, hE⟩ := ob_bind hE
  have hkr1 : r1.1 = 0 := by
    by_cases h9 : r1.1 = 0
    · exact h9
    · rw [if_pos h9] at hE
      exact congrArg Prod.fst (Option.some.inj hE)
  rw [if_neg (fun h => h hkr1)] at hE
  refine q_callV (pc := 6) (id := 28) (As := [.int x1]) (rest := [.ref (o 43)]) (rv := some (.ref (o r1.2))) (st' := [.ref (o r1.2), .ref (o 43)]) hX (c_X6_find (thr_z hr1 hkr1)) (vl_X6_60) (lt46 (by decide)) rfl rfl rfl pd_yX6_find rfl ⟨by decide, by decide⟩ ⟨Nat.le_of_ble_eq_true rfl, Nat.le_of_ble_eq_true rfl⟩ rfl (Nat.le_of_ble_eq_true rfl) rfl dX6_shifts_6 ?_
  have hemr1 := find_em hr1 hkr1
  refine q_get (pc := 9) (id := r1.2) (ci := 0) (N := 6) (T := TX0) (C := RX0) hX 3 (em_lt hemr1) (ob_E hemr1 _ _) rfl in_X0 (by decide) (Or.inr ⟨_, fn_X6_67⟩) rfl dX6_shifts_9 ?_
  obtain ⟨r2, hr2, hE⟩ := ob_bind hE
  refine q_callV (pc := 12) (id := 43) (As := [.ref (o (r1.2 + 1))]) (rest := []) (rv := none) (st' := []) hX (c_X3_read (tb_e1 hemr1) hr2) (vl_X6_156) (lt46 (by decide)) rfl rfl rfl pd_yX3_read rfl ⟨by decide, by decide⟩ ⟨Nat.le_of_ble_eq_true rfl, Nat.le_of_ble_eq_true rfl⟩ rfl (Nat.le_of_ble_eq_true rfl) rfl dX6_shifts_12 ?_
  refine q_aload_n (pc := 15) hX 0 rfl rfl dX6_shifts_15 ?_
  refine q_get (pc := 16) (id := 28) (ci := 6) (N := 6) (T := TX6) (C := RX6) hX 5 (lt46 (by decide)) rfl rfl in_X6 (by decide) (Or.inl kw_22) rfl dX6_shifts_16 ?_
  refine q_get (pc := 19) (id := 43) (ci := 3) (N := 2) (T := TX3) (C := RX3) hX 0 (lt46 (by decide)) rfl rfl in_X3 (by decide) (Or.inr ⟨_, fn_X6_161⟩) rfl dX6_shifts_19 ?_
  obtain ⟨r3, hr3, hE⟩ := ob_bind hE
  refine q_callV (pc := 22) (id := 44) (As := []) (rest := []) (rv := some (.int r3)) (st' := [.int r3]) hX (c_X4_size (tb_44 hn) hr3) (vl_X6_93) (lt46 (by decide)) (ob_T (tb_44 hn).1 _ _) rfl rfl pd_yX4_size rfl ⟨by decide, by decide⟩ ⟨Nat.le_of_ble_eq_true rfl, Nat.le_of_ble_eq_true rfl⟩ rfl (Nat.le_of_ble_eq_true rfl) rfl dX6_shifts_22 ?_
  cases hE
  exact q_iret hX hR (by decide) (by decide) dX6_shifts_25

set_option maxHeartbeats 4000000 in
theorem c_X6_stretches {Y : Lx} {o : Nat → Nat} {hn : Nat} {M : Mem} {G : Mel} {x1 : Int32} {rr : Int32} {Mr : Mem} (hE : s_X6_stretches M hn x1 = some (0, rr, Mr)) : MI Y yX6_stretches cX6_stretches 2 (some .int) 5 116 0 0 [.ref (o 28), .int x1] o hn M G (.inl (some (.int rr))) Mr G := by
  refine MI.of (by decide +kernel) (Nat.le_of_ble_eq_true rfl) (fun X hY hX hE0 hR => ?_)
  change CxOK X RX6 cX6_stretches 2 5 116 0 0 (some .int) at hX
  show WM X o hn M G 0 0 0 2 [(0, .ref (o 28)), (1, .int x1)] []
  unfold s_X6_stretches at hE
  refine q_aload_n (pc := 0) hX 0 rfl rfl dX6_stretches_0 ?_
  refine q_get (pc := 1) (id := 28) (ci := 6) (N := 6) (T := TX6) (C := RX6) hX 4 (lt46 (by decide)) rfl rfl in_X6 (by decide) (Or.inl kw_21) rfl dX6_stretches_1 ?_
  refine q_aload_n (pc := 4) hX 0 rfl rfl dX6_stretches_4 ?_
  refine q_iload_n (pc := 5) hX 1 rfl rfl dX6_stretches_5 ?_
  obtain ⟨r1, hr1, hE⟩ := ob_bind hE
  have hkr1 : r1.1 = 0 := by
    by_cases h9 : r1.1 = 0
    · exact h9
    · rw [if_pos h9] at hE
      exact congrArg Prod.fst (Option.some.inj hE)
  rw [if_neg (fun h => h hkr1)] at hE
  refine q_callV (pc := 6) (id := 28) (As := [.int x1]) (rest := [.ref (o 38)]) (rv := some (.ref (o r1.2))) (st' := [.ref (o r1.2), .ref (o 38)]) hX (c_X6_find (thr_z hr1 hkr1)) (vl_X6_60) (lt46 (by decide)) rfl rfl rfl pd_yX6_find rfl ⟨by decide, by decide⟩ ⟨Nat.le_of_ble_eq_true rfl, Nat.le_of_ble_eq_true rfl⟩ rfl (Nat.le_of_ble_eq_true rfl) rfl dX6_stretches_6 ?_
  have hemr1 := find_em hr1 hkr1
  obtain ⟨r2, hr2, hE⟩ := ob_bind hE
  refine q_callV (pc := 9) (id := 38) (As := [.ref (o r1.2)]) (rest := []) (rv := none) (st' := []) hX (c_X5_read hemr1 hr2) (vl_X6_173) (lt46 (by decide)) rfl rfl rfl pd_yX5_read rfl ⟨by decide, by decide⟩ ⟨Nat.le_of_ble_eq_true rfl, Nat.le_of_ble_eq_true rfl⟩ rfl (Nat.le_of_ble_eq_true rfl) rfl dX6_stretches_9 ?_
  refine q_aload_n (pc := 12) hX 0 rfl rfl dX6_stretches_12 ?_
  refine q_get (pc := 13) (id := 28) (ci := 6) (N := 6) (T := TX6) (C := RX6) hX 4 (lt46 (by decide)) rfl rfl in_X6 (by decide) (Or.inl kw_21) rfl dX6_stretches_13 ?_
  refine q_get (pc := 16) (id := 38) (ci := 5) (N := 4) (T := TX5) (C := RX5) hX 2 (lt46 (by decide)) rfl rfl in_X5 (by decide) (Or.inr ⟨_, fn_X6_177⟩) rfl dX6_stretches_16 ?_
  obtain ⟨r3, hr3, hE⟩ := ob_bind hE
  refine q_callV (pc := 19) (id := 41) (As := []) (rest := []) (rv := some (.int r3)) (st' := [.int r3]) hX (c_X4_size (tb_41 hn) hr3) (vl_X6_93) (lt46 (by decide)) (ob_T (tb_41 hn).1 _ _) rfl rfl pd_yX4_size rfl ⟨by decide, by decide⟩ ⟨Nat.le_of_ble_eq_true rfl, Nat.le_of_ble_eq_true rfl⟩ rfl (Nat.le_of_ble_eq_true rfl) rfl dX6_stretches_19 ?_
  cases hE
  exact q_iret hX hR (by decide) (by decide) dX6_stretches_22

set_option maxHeartbeats 4000000 in
theorem c_X6_overlap {Y : Lx} {o : Nat → Nat} {hn : Nat} {M : Mem} {G : Mel} {x1 : Int32} {rr : Int32} {Mr : Mem} (hE : s_X6_overlap M hn x1 = some (0, rr, Mr)) : MI Y yX6_overlap cX6_overlap 2 (some .int) 5 116 0 0 [.ref (o 28), .int x1] o hn M G (.inl (some (.int rr))) Mr G := by
  refine MI.of (by decide +kernel) (Nat.le_of_ble_eq_true rfl) (fun X hY hX hE0 hR => ?_)
  change CxOK X RX6 cX6_overlap 2 5 116 0 0 (some .int) at hX
  show WM X o hn M G 0 0 0 2 [(0, .ref (o 28)), (1, .int x1)] []
  unfold s_X6_overlap at hE
  refine q_aload_n (pc := 0) hX 0 rfl rfl dX6_overlap_0 ?_
  refine q_get (pc := 1) (id := 28) (ci := 6) (N := 6) (T := TX6) (C := RX6) hX 4 (lt46 (by decide)) rfl rfl in_X6 (by decide) (Or.inl kw_21) rfl dX6_overlap_1 ?_
  refine q_aload_n (pc := 4) hX 0 rfl rfl dX6_overlap_4 ?_
  refine q_iload_n (pc := 5) hX 1 rfl rfl dX6_overlap_5 ?_
  obtain ⟨r1, hr1, hE⟩ := ob_bind hE
  have hkr1 : r1.1 = 0 := by
    by_cases h9 : r1.1 = 0
    · exact h9
    · rw [if_pos h9] at hE
      exact congrArg Prod.fst (Option.some.inj hE)
  rw [if_neg (fun h => h hkr1)] at hE
  refine q_callV (pc := 6) (id := 28) (As := [.int x1]) (rest := [.ref (o 38)]) (rv := some (.ref (o r1.2))) (st' := [.ref (o r1.2), .ref (o 38)]) hX (c_X6_find (thr_z hr1 hkr1)) (vl_X6_60) (lt46 (by decide)) rfl rfl rfl pd_yX6_find rfl ⟨by decide, by decide⟩ ⟨Nat.le_of_ble_eq_true rfl, Nat.le_of_ble_eq_true rfl⟩ rfl (Nat.le_of_ble_eq_true rfl) rfl dX6_overlap_6 ?_
  have hemr1 := find_em hr1 hkr1
  obtain ⟨r2, hr2, hE⟩ := ob_bind hE
  refine q_callV (pc := 9) (id := 38) (As := [.ref (o r1.2)]) (rest := []) (rv := none) (st' := []) hX (c_X5_read hemr1 hr2) (vl_X6_173) (lt46 (by decide)) rfl rfl rfl pd_yX5_read rfl ⟨by decide, by decide⟩ ⟨Nat.le_of_ble_eq_true rfl, Nat.le_of_ble_eq_true rfl⟩ rfl (Nat.le_of_ble_eq_true rfl) rfl dX6_overlap_9 ?_
  refine q_aload_n (pc := 12) hX 0 rfl rfl dX6_overlap_12 ?_
  refine q_get (pc := 13) (id := 28) (ci := 6) (N := 6) (T := TX6) (C := RX6) hX 4 (lt46 (by decide)) rfl rfl in_X6 (by decide) (Or.inl kw_21) rfl dX6_overlap_13 ?_
  refine q_get (pc := 16) (id := 38) (ci := 5) (N := 4) (T := TX5) (C := RX5) hX 3 (lt46 (by decide)) rfl rfl in_X5 (by decide) (Or.inr ⟨_, fn_X6_174⟩) rfl dX6_overlap_16 ?_
  cases hE
  exact q_iret hX hR (by decide) (by decide) dX6_overlap_19

set_option maxHeartbeats 4000000 in
theorem l_X6_longest_4 {X : Cx} (hX : CxOK X RX6 cX6_longest 3 1 24 0 0 (some .int)) (hE0 : CxE X []) {o : Nat → Nat} {hn : Nat} {M : Mem} {t0 : Nat} {G : Mel} (ht0 : tb hn t0) : ∀ (f : Nat) (y1 : Int32) (y2 : Int32) (p8 : Int32 × Int32), L_X6_longest_4 M t0 f y1 y2 = some p8 → WM X o hn M G 0 0 36 3 [(0, .ref (o t0)), (1, .int p8.1), (2, .int p8.2)] [] → WM X o hn M G 0 0 4 3 [(0, .ref (o t0)), (1, .int y1), (2, .int y2)] [] := by
  intro f
  induction f with
  | zero => intro y1 y2 p8 hE; simp [L_X6_longest_4] at hE
  | succ f ih =>
    intro y1 y2 p8 hE hx
    rw [L_X6_longest_4] at hE
    refine q_iload_n (pc := 4) hX 2 rfl rfl dX6_longest_4 ?_
    refine q_aload_n (pc := 5) hX 0 rfl rfl dX6_longest_5 ?_
    obtain ⟨r3, hr3, hE⟩ := ob_bind hE
    refine q_callV (pc := 6) (id := t0) (As := []) (rest := [.int y2]) (rv := some (.int r3)) (st' := [.int r3, .int y2]) hX (c_X4_size ht0 hr3) (vl_X6_93) (tb_lt ht0) (ob_T ht0.1 _ _) rfl rfl pd_yX4_size rfl ⟨by decide, by decide⟩ ⟨Nat.le_of_ble_eq_true rfl, Nat.le_of_ble_eq_true rfl⟩ rfl (Nat.le_of_ble_eq_true rfl) rfl dX6_longest_6 ?_
    refine q_icmp_ge (pc := 9) hX 36 (by decide) dX6_longest_9 (fun c => ?_) (fun c => ?_)
    · rw [if_pos c] at hE
      cases hE
      exact hx
    · rw [if_neg c] at hE
      refine q_iload_n (pc := 12) hX 1 rfl rfl dX6_longest_12 ?_
      refine q_aload_n (pc := 13) hX 0 rfl rfl dX6_longest_13 ?_
      refine q_iload_n (pc := 14) hX 2 rfl rfl dX6_longest_14 ?_
      refine q_iconst (pc := 15) hX (1) rfl dX6_longest_15 ?_
      obtain ⟨r4, hr4, hE⟩ := ob_bind hE
      refine q_callV (pc := 16) (id := t0) (As := [.int y2, .int 1]) (rest := [.int y1]) (rv := some (.int r4)) (st' := [.int r4, .int y1]) hX (c_X4_get ht0 hr4) (vl_X6_102) (tb_lt ht0) (ob_T ht0.1 _ _) rfl rfl pd_yX4_get rfl ⟨by decide, by decide⟩ ⟨Nat.le_of_ble_eq_true rfl, Nat.le_of_ble_eq_true rfl⟩ rfl (Nat.le_of_ble_eq_true rfl) rfl dX6_longest_16 ?_
      refine q_aload_n (pc := 19) hX 0 rfl rfl dX6_longest_19 ?_
      refine q_iload_n (pc := 20) hX 2 rfl rfl dX6_longest_20 ?_
      refine q_iconst (pc := 21) hX (0) rfl dX6_longest_21 ?_
      obtain ⟨r5, hr5, hE⟩ := ob_bind hE
      refine q_callV (pc := 22) (id := t0) (As := [.int y2, .int 0]) (rest := [.int r4, .int y1]) (rv := some (.int r5)) (st' := [.int r5, .int r4, .int y1]) hX (c_X4_get ht0 hr5) (vl_X6_102) (tb_lt ht0) (ob_T ht0.1 _ _) rfl rfl pd_yX4_get rfl ⟨by decide, by decide⟩ ⟨Nat.le_of_ble_eq_true rfl, Nat.le_of_ble_eq_true rfl⟩ rfl (Nat.le_of_ble_eq_true rfl) rfl dX6_longest_22 ?_
      refine q_isub (pc := 25) hX dX6_longest_25 ?_
      refine r_max (pc := 26) hX kw_239 kw_200 kw_192 kw_201 (by decide) (Nat.le_of_ble_eq_true rfl) (Nat.le_of_ble_eq_true rfl) (Nat.le_of_ble_eq_true rfl) dX6_longest_26 ?_
      refine q_nm (fun z6 hz6 => ?_)
      have hE := bnd_nm hz6 hE
      refine q_istore_n (pc := 29) (lo' := [(0, .ref (o t0)), (1, .int z6), (2, .int y2)]) hX [1, 0, 2] rfl (by decide) rfl dX6_longest_29 ?_
      obtain ⟨z7, hz7⟩ : ∃ z : Int32, z = y2 + 1 := ⟨_, rfl⟩
      have hE := bnd_nm hz7 hE
      refine q_iinc (pc := 30) (lo' := [(0, .ref (o t0)), (1, .int z6), (2, .int z7)]) hX 2 z7 [1, 2, 0] rfl (by rw [hz7]; rfl) (by decide) rfl dX6_longest_30 ?_
      refine q_goto (pc := 33) hX 4 (by decide) dX6_longest_33 ?_
      exact ih _ _ p8 hE hx

set_option maxHeartbeats 4000000 in
theorem c_X6_longest {Y : Lx} {o : Nat → Nat} {hn : Nat} {M : Mem} {G : Mel} {t0 : Nat} {rr : Int32} (ht0 : tb hn t0) (hE : s_X6_longest M t0 = some (rr)) : MI Y yX6_longest cX6_longest 3 (some .int) 1 24 0 0 [.ref (o t0)] o hn M G (.inl (some (.int rr))) M G := by
  refine MI.of (by decide +kernel) (Nat.le_of_ble_eq_true rfl) (fun X hY hX hE0 hR => ?_)
  change CxOK X RX6 cX6_longest 3 1 24 0 0 (some .int) at hX
  show WM X o hn M G 0 0 0 3 [(0, .ref (o t0))] []
  unfold s_X6_longest at hE
  refine q_iconst (pc := 0) hX (0) rfl dX6_longest_0 ?_
  refine q_istore_n (pc := 1) (lo' := [(0, .ref (o t0)), (1, .int 0)]) hX [1, 0] rfl (by decide) rfl dX6_longest_1 ?_
  refine q_iconst (pc := 2) hX (0) rfl dX6_longest_2 ?_
  refine q_istore_n (pc := 3) (lo' := [(0, .ref (o t0)), (1, .int 0), (2, .int 0)]) hX [1, 2, 0] rfl (by decide) rfl dX6_longest_3 ?_
  obtain ⟨p8, hp8, hE⟩ := ob_bind hE
  refine l_X6_longest_4 hX hE0 ht0 FU _ _ p8 hp8 ?_
  refine q_iload_n (pc := 36) hX 1 rfl rfl dX6_longest_36 ?_
  cases hE
  exact q_iret hX hR (by decide) (by decide) dX6_longest_37

set_option maxHeartbeats 4000000 in
theorem c_X6_longestStretch {Y : Lx} {o : Nat → Nat} {hn : Nat} {M : Mem} {G : Mel} {x1 : Int32} {rr : Int32} {Mr : Mem} (hE : s_X6_longestStretch M hn x1 = some (0, rr, Mr)) : MI Y yX6_longestStretch cX6_longestStretch 2 (some .int) 5 116 0 0 [.ref (o 28), .int x1] o hn M G (.inl (some (.int rr))) Mr G := by
  refine MI.of (by decide +kernel) (Nat.le_of_ble_eq_true rfl) (fun X hY hX hE0 hR => ?_)
  change CxOK X RX6 cX6_longestStretch 2 5 116 0 0 (some .int) at hX
  show WM X o hn M G 0 0 0 2 [(0, .ref (o 28)), (1, .int x1)] []
  unfold s_X6_longestStretch at hE
  refine q_aload_n (pc := 0) hX 0 rfl rfl dX6_longestStretch_0 ?_
  refine q_get (pc := 1) (id := 28) (ci := 6) (N := 6) (T := TX6) (C := RX6) hX 4 (lt46 (by decide)) rfl rfl in_X6 (by decide) (Or.inl kw_21) rfl dX6_longestStretch_1 ?_
  refine q_aload_n (pc := 4) hX 0 rfl rfl dX6_longestStretch_4 ?_
  refine q_iload_n (pc := 5) hX 1 rfl rfl dX6_longestStretch_5 ?_
  obtain ⟨r1, hr1, hE⟩ := ob_bind hE
  have hkr1 : r1.1 = 0 := by
    by_cases h9 : r1.1 = 0
    · exact h9
    · rw [if_pos h9] at hE
      exact congrArg Prod.fst (Option.some.inj hE)
  rw [if_neg (fun h => h hkr1)] at hE
  refine q_callV (pc := 6) (id := 28) (As := [.int x1]) (rest := [.ref (o 38)]) (rv := some (.ref (o r1.2))) (st' := [.ref (o r1.2), .ref (o 38)]) hX (c_X6_find (thr_z hr1 hkr1)) (vl_X6_60) (lt46 (by decide)) rfl rfl rfl pd_yX6_find rfl ⟨by decide, by decide⟩ ⟨Nat.le_of_ble_eq_true rfl, Nat.le_of_ble_eq_true rfl⟩ rfl (Nat.le_of_ble_eq_true rfl) rfl dX6_longestStretch_6 ?_
  have hemr1 := find_em hr1 hkr1
  obtain ⟨r2, hr2, hE⟩ := ob_bind hE
  refine q_callV (pc := 9) (id := 38) (As := [.ref (o r1.2)]) (rest := []) (rv := none) (st' := []) hX (c_X5_read hemr1 hr2) (vl_X6_173) (lt46 (by decide)) rfl rfl rfl pd_yX5_read rfl ⟨by decide, by decide⟩ ⟨Nat.le_of_ble_eq_true rfl, Nat.le_of_ble_eq_true rfl⟩ rfl (Nat.le_of_ble_eq_true rfl) rfl dX6_longestStretch_9 ?_
  refine q_aload_n (pc := 12) hX 0 rfl rfl dX6_longestStretch_12 ?_
  refine q_get (pc := 13) (id := 28) (ci := 6) (N := 6) (T := TX6) (C := RX6) hX 4 (lt46 (by decide)) rfl rfl in_X6 (by decide) (Or.inl kw_21) rfl dX6_longestStretch_13 ?_
  refine q_get (pc := 16) (id := 38) (ci := 5) (N := 4) (T := TX5) (C := RX5) hX 2 (lt46 (by decide)) rfl rfl in_X5 (by decide) (Or.inr ⟨_, fn_X6_177⟩) rfl dX6_longestStretch_16 ?_
  obtain ⟨r3, hr3, hE⟩ := ob_bind hE
  refine q_callS (pc := 19) (As := [.ref (o 41)]) (rest := []) (rv := some (.int r3)) (st' := [.int r3]) hX (c_X6_longest (tb_41 hn) hr3) (sl_X6_183) pd_yX6_longest rfl ⟨by decide, by decide⟩ ⟨Nat.le_of_ble_eq_true rfl, Nat.le_of_ble_eq_true rfl⟩ rfl (Nat.le_of_ble_eq_true rfl) rfl dX6_longestStretch_19 ?_
  cases hE
  exact q_iret hX hR (by decide) (by decide) dX6_longestStretch_22

set_option maxHeartbeats 4000000 in
theorem c_X6_repairedShifts {Y : Lx} {o : Nat → Nat} {hn : Nat} {M : Mem} {G : Mel} {x1 : Int32} {rr : Int32} {Mr : Mem} (hE : s_X6_repairedShifts M hn x1 = some (0, rr, Mr)) : MI Y yX6_repairedShifts cX6_repairedShifts 2 (some .int) 4 94 0 0 [.ref (o 28), .int x1] o hn M G (.inl (some (.int rr))) Mr G := by
  refine MI.of (by decide +kernel) (Nat.le_of_ble_eq_true rfl) (fun X hY hX hE0 hR => ?_)
  change CxOK X RX6 cX6_repairedShifts 2 4 94 0 0 (some .int) at hX
  show WM X o hn M G 0 0 0 2 [(0, .ref (o 28)), (1, .int x1)] []
  unfold s_X6_repairedShifts at hE
  refine q_aload_n (pc := 0) hX 0 rfl rfl dX6_repairedShifts_0 ?_
  refine q_get (pc := 1) (id := 28) (ci := 6) (N := 6) (T := TX6) (C := RX6) hX 5 (lt46 (by decide)) rfl rfl in_X6 (by decide) (Or.inl kw_22) rfl dX6_repairedShifts_1 ?_
  refine q_aload_n (pc := 4) hX 0 rfl rfl dX6_repairedShifts_4 ?_
  refine q_iload_n (pc := 5) hX 1 rfl rfl dX6_repairedShifts_5 ?_
  obtain ⟨r1, hr1, hE⟩ := ob_bind hE
  have hkr1 : r1.1 = 0 := by
    by_cases h9 : r1.1 = 0
    · exact h9
    · rw [if_pos h9] at hE
      exact congrArg Prod.fst (Option.some.inj hE)
  rw [if_neg (fun h => h hkr1)] at hE
  refine q_callV (pc := 6) (id := 28) (As := [.int x1]) (rest := [.ref (o 43)]) (rv := some (.ref (o r1.2))) (st' := [.ref (o r1.2), .ref (o 43)]) hX (c_X6_find (thr_z hr1 hkr1)) (vl_X6_60) (lt46 (by decide)) rfl rfl rfl pd_yX6_find rfl ⟨by decide, by decide⟩ ⟨Nat.le_of_ble_eq_true rfl, Nat.le_of_ble_eq_true rfl⟩ rfl (Nat.le_of_ble_eq_true rfl) rfl dX6_repairedShifts_6 ?_
  have hemr1 := find_em hr1 hkr1
  refine q_get (pc := 9) (id := r1.2) (ci := 0) (N := 6) (T := TX0) (C := RX0) hX 3 (em_lt hemr1) (ob_E hemr1 _ _) rfl in_X0 (by decide) (Or.inr ⟨_, fn_X6_67⟩) rfl dX6_repairedShifts_9 ?_
  obtain ⟨r2, hr2, hE⟩ := ob_bind hE
  refine q_callV (pc := 12) (id := 43) (As := [.ref (o (r1.2 + 1))]) (rest := []) (rv := none) (st' := []) hX (c_X3_read (tb_e1 hemr1) hr2) (vl_X6_156) (lt46 (by decide)) rfl rfl rfl pd_yX3_read rfl ⟨by decide, by decide⟩ ⟨Nat.le_of_ble_eq_true rfl, Nat.le_of_ble_eq_true rfl⟩ rfl (Nat.le_of_ble_eq_true rfl) rfl dX6_repairedShifts_12 ?_
  refine q_aload_n (pc := 15) hX 0 rfl rfl dX6_repairedShifts_15 ?_
  refine q_get (pc := 16) (id := 28) (ci := 6) (N := 6) (T := TX6) (C := RX6) hX 5 (lt46 (by decide)) rfl rfl in_X6 (by decide) (Or.inl kw_22) rfl dX6_repairedShifts_16 ?_
  refine q_get (pc := 19) (id := 43) (ci := 3) (N := 2) (T := TX3) (C := RX3) hX 1 (lt46 (by decide)) rfl rfl in_X3 (by decide) (Or.inr ⟨_, fn_X6_167⟩) rfl dX6_repairedShifts_19 ?_
  cases hE
  exact q_iret hX hR (by decide) (by decide) dX6_repairedShifts_22

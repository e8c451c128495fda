set_option maxHeartbeats 4000000 in
theorem c_X7_in {Y : Lx} {o : Nat → Nat} {hn : Nat} {M : Mem} {G : Mel} {x0 : Int32} {x1 : Int32} {x2 : Int32} {rr : Int32} (hE : s_X7_in x0 x1 x2 = some (rr)) : MI Y yX7_in cX7_in 3 (some .boolean) 0 0 0 0 [.int x0, .int x1, .int x2] o hn M G (.inl (some (.int rr))) M G := by
  refine MI.of (by decide +kernel) (Nat.le_of_ble_eq_true rfl) (fun X hY hX hE0 hR => ?_)
  change CxOK X RX7 cX7_in 3 0 0 0 0 (some .boolean) at hX
  show WM X o hn M G 0 0 0 3 [(0, .int x0), (1, .int x1), (2, .int x2)] []
  unfold s_X7_in at hE
  refine q_iload_n (pc := 0) hX 0 rfl rfl dX7_in_0 ?_
  refine q_iload_n (pc := 1) hX 1 rfl rfl dX7_in_1 ?_
  refine q_icmp_lt (pc := 2) hX 14 (by decide) dX7_in_2 (fun c => ?_) (fun c => ?_)
  · rw [if_pos c] at hE
    refine q_iconst (pc := 14) hX (0) rfl dX7_in_14 ?_
    cases hE
    exact q_zret hX (Or.inl rfl) hR (by decide) (by decide) dX7_in_15
  · rw [if_neg c] at hE
    refine q_iload_n (pc := 5) hX 0 rfl rfl dX7_in_5 ?_
    refine q_iload_n (pc := 6) hX 2 rfl rfl dX7_in_6 ?_
    refine q_icmp_gt (pc := 7) hX 14 (by decide) dX7_in_7 (fun c => ?_) (fun c => ?_)
    · rw [if_pos c] at hE
      refine q_iconst (pc := 14) hX (0) rfl dX7_in_14 ?_
      cases hE
      exact q_zret hX (Or.inl rfl) hR (by decide) (by decide) dX7_in_15
    · rw [if_neg c] at hE
      refine q_iconst (pc := 10) hX (1) rfl dX7_in_10 ?_
      refine q_goto (pc := 11) hX 15 (by decide) dX7_in_11 ?_
      cases hE
      exact q_zret hX (Or.inr rfl) hR (by decide) (by decide) dX7_in_15

set_option maxHeartbeats 4000000 in
theorem c_X7_hire {Y : Lx} {o : Nat → Nat} {hn : Nat} {M : Mem} {G : Mel} {x1 : Int32} {rr : Int32} {Mr : Mem} (hE : s_X7_hire M x1 = some (rr, Mr)) : MI Y yX7_hire cX7_hire 2 (some .int) 1 22 0 0 [.ref (o 1), .int x1] o hn M G (.inl (some (.int rr))) Mr G := by
  refine MI.of (by decide +kernel) (Nat.le_of_ble_eq_true rfl) (fun X hY hX hE0 hR => ?_)
  change CxOK X RX7 cX7_hire 2 1 22 0 0 (some .int) at hX
  show WM X o hn M G 0 0 0 2 [(0, .ref (o 1)), (1, .int x1)] []
  unfold s_X7_hire at hE
  refine q_aload_n (pc := 0) hX 0 rfl rfl dX7_hire_0 ?_
  refine q_iload_n (pc := 1) hX 1 rfl rfl dX7_hire_1 ?_
  refine q_iconst (pc := 2) hX (1) rfl dX7_hire_2 ?_
  refine q_ldc (pc := 3) hX kw_143 dX7_hire_3 ?_
  obtain ⟨r1, hr1, hE⟩ := ob_bind hE
  refine q_callS (pc := 5) (As := [.int x1, .int 1, .int 100000]) (rest := [.ref (o 1)]) (rv := some (.int r1)) (st' := [.int r1, .ref (o 1)]) hX (c_X7_in hr1) (sl_X7_97) pd_yX7_in rfl ⟨by decide, by decide⟩ ⟨by decide, by decide⟩ rfl (Nat.le_of_ble_eq_true rfl) rfl dX7_hire_5 ?_
  obtain ⟨p3, hp3, hE⟩ := bnd_ob hE
  suffices Jp3 : WM X o hn M G 0 0 29 2 [(0, .ref (o 1)), (1, .int x1)] [.int p3, .ref (o 1)] by
    refine q_if_ne (pc := 8) hX 15 (by decide) dX7_hire_8 (fun c => ?_) (fun c => ?_)
    · rw [if_neg c] at hp3
      refine q_aload_n (pc := 15) hX 0 rfl rfl dX7_hire_15 ?_
      refine q_get (pc := 16) (id := 1) (ci := 7) (N := 34) (T := TX7) (C := RX7) hX 1 (lt46 (by decide)) rfl rfl in_X7 (by decide) (Or.inl kw_144) rfl dX7_hire_16 ?_
      refine q_bipush (pc := 19) hX (6) (by decide) dX7_hire_19 ?_
      refine q_icmp_ne (pc := 21) hX 28 (by decide) dX7_hire_21 (fun c => ?_) (fun c => ?_)
      · rw [if_neg c] at hp3
        refine q_iconst (pc := 28) hX (0) rfl dX7_hire_28 ?_
        cases hp3
        exact Jp3
      · rw [if_pos c] at hp3
        refine q_iconst (pc := 24) hX (2) rfl dX7_hire_24 ?_
        refine q_goto (pc := 25) hX 29 (by decide) dX7_hire_25 ?_
        cases hp3
        exact Jp3
    · rw [if_pos c] at hp3
      refine q_iconst (pc := 11) hX (1) rfl dX7_hire_11 ?_
      refine q_goto (pc := 12) hX 29 (by decide) dX7_hire_12 ?_
      cases hp3
      exact Jp3
  obtain ⟨M4, hM4⟩ : ∃ z : Mem, z = mst M 1 0 p3 := ⟨_, rfl⟩
  have hE := bnd_nm hM4 hE
  refine pu_M_thrown (pc := 29) hX hM4 (Or.inl kw_106) dX7_hire_29 ?_
  refine q_aload_n (pc := 32) hX 0 rfl rfl dX7_hire_32 ?_
  refine q_get (pc := 33) (id := 1) (ci := 7) (N := 34) (T := TX7) (C := RX7) hX 0 (lt46 (by decide)) rfl rfl in_X7 (by decide) (Or.inl kw_106) rfl dX7_hire_33 ?_
  refine q_if_le (pc := 36) hX 41 (by decide) dX7_hire_36 (fun c => ?_) (fun c => ?_)
  · rw [if_pos c] at hE
    refine q_aload_n (pc := 41) hX 0 rfl rfl dX7_hire_41 ?_
    refine q_get (pc := 42) (id := 1) (ci := 7) (N := 34) (T := TX7) (C := RX7) hX 2 (lt46 (by decide)) rfl rfl in_X7 (by decide) (Or.inl kw_79) rfl dX7_hire_42 ?_
    refine q_aload_n (pc := 45) hX 0 rfl rfl dX7_hire_45 ?_
    refine q_get (pc := 46) (id := 1) (ci := 7) (N := 34) (T := TX7) (C := RX7) hX 1 (lt46 (by decide)) rfl rfl in_X7 (by decide) (Or.inl kw_144) rfl dX7_hire_46 ?_
    refine q_iload_n (pc := 49) hX 1 rfl rfl dX7_hire_49 ?_
    obtain ⟨M5, hM5, hE⟩ := ob_bind hE
    refine r_iast (pc := 50) (id := 2) (n := 6) hX (lt46 (by decide)) (fun _ _ => rfl) hM5 dX7_hire_50 ?_
    refine q_aload_n (pc := 51) hX 0 rfl rfl dX7_hire_51 ?_
    refine q_dup (pc := 52) hX rfl dX7_hire_52 ?_
    refine q_get (pc := 53) (id := 1) (ci := 7) (N := 34) (T := TX7) (C := RX7) hX 1 (lt46 (by decide)) rfl rfl in_X7 (by decide) (Or.inl kw_144) rfl dX7_hire_53 ?_
    refine q_iconst (pc := 56) hX (1) rfl dX7_hire_56 ?_
    refine q_iadd (pc := 57) hX dX7_hire_57 ?_
    obtain ⟨M6, hM6⟩ : ∃ z : Mem, z = mst M5 1 1 ((M5 1 1) + 1) := ⟨_, rfl⟩
    have hE := bnd_nm hM6 hE
    refine pu_M_many (pc := 58) hX hM6 (Or.inl kw_144) dX7_hire_58 ?_
    refine q_aload_n (pc := 61) hX 0 rfl rfl dX7_hire_61 ?_
    refine q_get (pc := 62) (id := 1) (ci := 7) (N := 34) (T := TX7) (C := RX7) hX 1 (lt46 (by decide)) rfl rfl in_X7 (by decide) (Or.inl kw_144) rfl dX7_hire_62 ?_
    refine q_iconst (pc := 65) hX (1) rfl dX7_hire_65 ?_
    refine q_isub (pc := 66) hX dX7_hire_66 ?_
    cases hE
    exact q_iret hX hR (by decide) (by decide) dX7_hire_67
  · rw [if_neg c] at hE
    refine q_iconst (pc := 39) hX (0) rfl dX7_hire_39 ?_
    cases hE
    exact q_iret hX hR (by decide) (by decide) dX7_hire_40

set_option maxHeartbeats 4000000 in
theorem c_X7_thrown {Y : Lx} {o : Nat → Nat} {hn : Nat} {M : Mem} {G : Mel} {rr : Int32} (hE : s_X7_thrown M = some (rr)) : MI Y yX7_thrown cX7_thrown 1 (some .int) 0 0 0 0 [.ref (o 1)] o hn M G (.inl (some (.int rr))) M G := by
  refine MI.of (by decide +kernel) (Nat.le_of_ble_eq_true rfl) (fun X hY hX hE0 hR => ?_)
  change CxOK X RX7 cX7_thrown 1 0 0 0 0 (some .int) at hX
  show WM X o hn M G 0 0 0 1 [(0, .ref (o 1))] []
  unfold s_X7_thrown at hE
  refine q_aload_n (pc := 0) hX 0 rfl rfl dX7_thrown_0 ?_
  refine q_get (pc := 1) (id := 1) (ci := 7) (N := 34) (T := TX7) (C := RX7) hX 0 (lt46 (by decide)) rfl rfl in_X7 (by decide) (Or.inl kw_106) rfl dX7_thrown_1 ?_
  cases hE
  exact q_iret hX hR (by decide) (by decide) dX7_thrown_4

set_option maxHeartbeats 4000000 in
theorem c_X7_isOne {Y : Lx} {o : Nat → Nat} {hn : Nat} {M : Mem} {G : Mel} {x1 : Int32} {rr : Int32} (hE : s_X7_isOne M x1 = some (rr)) : MI Y yX7_isOne cX7_isOne 2 (some .boolean) 1 22 0 0 [.ref (o 1), .int x1] o hn M G (.inl (some (.int rr))) M G := by
  refine MI.of (by decide +kernel) (Nat.le_of_ble_eq_true rfl) (fun X hY hX hE0 hR => ?_)
  change CxOK X RX7 cX7_isOne 2 1 22 0 0 (some .boolean) at hX
  show WM X o hn M G 0 0 0 2 [(0, .ref (o 1)), (1, .int x1)] []
  unfold s_X7_isOne at hE
  refine q_iload_n (pc := 0) hX 1 rfl rfl dX7_isOne_0 ?_
  refine q_iconst (pc := 1) hX (0) rfl dX7_isOne_1 ?_
  refine q_aload_n (pc := 2) hX 0 rfl rfl dX7_isOne_2 ?_
  refine q_get (pc := 3) (id := 1) (ci := 7) (N := 34) (T := TX7) (C := RX7) hX 1 (lt46 (by decide)) rfl rfl in_X7 (by decide) (Or.inl kw_144) rfl dX7_isOne_3 ?_
  refine q_iconst (pc := 6) hX (1) rfl dX7_isOne_6 ?_
  refine q_isub (pc := 7) hX dX7_isOne_7 ?_
  obtain ⟨r1, hr1, hE⟩ := ob_bind hE
  refine q_callS (pc := 8) (As := [.int x1, .int 0, .int ((M 1 1) - 1)]) (rest := []) (rv := some (.int r1)) (st' := [.int r1]) hX (c_X7_in hr1) (sl_X7_97) pd_yX7_in rfl ⟨by decide, by decide⟩ ⟨by decide, by decide⟩ rfl (Nat.le_of_ble_eq_true rfl) rfl dX7_isOne_8 ?_
  obtain ⟨v2, hv2, hE⟩ := ob_bind hE
  obtain ⟨hqv2, hbv2⟩ := bchk_ok hv2
  rw [hqv2]
  cases hE
  exact q_zret hX hbv2 hR (by decide) (by decide) dX7_isOne_11

set_option maxHeartbeats 4000000 in
theorem c_X7_setWage {Y : Lx} {o : Nat → Nat} {hn : Nat} {M : Mem} {G : Mel} {x1 : Int32} {x2 : Int32} {rr : Int32} {Mr : Mem} (hE : s_X7_setWage M x1 x2 = some (rr, Mr)) : MI Y yX7_setWage cX7_setWage 4 (some .int) 2 43 0 0 [.ref (o 1), .int x1, .int x2] o hn M G (.inl (some (.int rr))) Mr G := by
  refine MI.of (by decide +kernel) (Nat.le_of_ble_eq_true rfl) (fun X hY hX hE0 hR => ?_)
  change CxOK X RX7 cX7_setWage 4 2 43 0 0 (some .int) at hX
  show WM X o hn M G 0 0 0 4 [(0, .ref (o 1)), (1, .int x1), (2, .int x2)] []
  unfold s_X7_setWage at hE
  refine q_aload_n (pc := 0) hX 0 rfl rfl dX7_setWage_0 ?_
  refine q_aload_n (pc := 1) hX 0 rfl rfl dX7_setWage_1 ?_
  refine q_iload_n (pc := 2) hX 1 rfl rfl dX7_setWage_2 ?_
  obtain ⟨r1, hr1, hE⟩ := ob_bind hE
  refine q_callV (pc := 3) (id := 1) (As := [.int x1]) (rest := [.ref (o 1)]) (rv := some (.int r1)) (st' := [.int r1, .ref (o 1)]) hX (c_X7_isOne hr1) (vl_X7_102) (lt46 (by decide)) rfl rfl rfl pd_yX7_isOne rfl ⟨by decide, by decide⟩ ⟨by decide, by decide⟩ rfl (Nat.le_of_ble_eq_true rfl) rfl dX7_setWage_3 ?_
  obtain ⟨p4, hp4, hE⟩ := ob_bind hE
  suffices Jp4 : WM X o hn M G 0 0 28 4 [(0, .ref (o 1)), (1, .int x1), (2, .int x2)] [.int p4, .ref (o 1)] by
    refine q_if_ne (pc := 6) hX 13 (by decide) dX7_setWage_6 (fun c => ?_) (fun c => ?_)
    · rw [if_neg c] at hp4
      refine q_iload_n (pc := 13) hX 2 rfl rfl dX7_setWage_13 ?_
      refine q_iconst (pc := 14) hX (1) rfl dX7_setWage_14 ?_
      refine q_ldc (pc := 15) hX kw_143 dX7_setWage_15 ?_
      obtain ⟨r3, hr3, hp4⟩ := ob_bind hp4
      refine q_callS (pc := 17) (As := [.int x2, .int 1, .int 100000]) (rest := [.ref (o 1)]) (rv := some (.int r3)) (st' := [.int r3, .ref (o 1)]) hX (c_X7_in hr3) (sl_X7_97) pd_yX7_in rfl ⟨by decide, by decide⟩ ⟨by decide, by decide⟩ rfl (Nat.le_of_ble_eq_true rfl) rfl dX7_setWage_17 ?_
      refine q_if_eq (pc := 20) hX 27 (by decide) dX7_setWage_20 (fun c => ?_) (fun c => ?_)
      · rw [if_pos c] at hp4
        refine q_iconst (pc := 27) hX (2) rfl dX7_setWage_27 ?_
        cases hp4
        exact Jp4
      · rw [if_neg c] at hp4
        refine q_iconst (pc := 23) hX (0) rfl dX7_setWage_23 ?_
        refine q_goto (pc := 24) hX 28 (by decide) dX7_setWage_24 ?_
        cases hp4
        exact Jp4
    · rw [if_pos c] at hp4
      refine q_iconst (pc := 9) hX (1) rfl dX7_setWage_9 ?_
      refine q_goto (pc := 10) hX 28 (by decide) dX7_setWage_10 ?_
      cases hp4
      exact Jp4
  obtain ⟨M5, hM5⟩ : ∃ z : Mem, z = mst M 1 0 p4 := ⟨_, rfl⟩
  have hE := bnd_nm hM5 hE
  refine pu_M_thrown (pc := 28) hX hM5 (Or.inl kw_106) dX7_setWage_28 ?_
  refine q_aload_n (pc := 31) hX 0 rfl rfl dX7_setWage_31 ?_
  refine q_get (pc := 32) (id := 1) (ci := 7) (N := 34) (T := TX7) (C := RX7) hX 0 (lt46 (by decide)) rfl rfl in_X7 (by decide) (Or.inl kw_106) rfl dX7_setWage_32 ?_
  refine q_if_le (pc := 35) hX 40 (by decide) dX7_setWage_35 (fun c => ?_) (fun c => ?_)
  · rw [if_pos c] at hE
    refine q_aload_n (pc := 40) hX 0 rfl rfl dX7_setWage_40 ?_
    refine q_get (pc := 41) (id := 1) (ci := 7) (N := 34) (T := TX7) (C := RX7) hX 2 (lt46 (by decide)) rfl rfl in_X7 (by decide) (Or.inl kw_79) rfl dX7_setWage_41 ?_
    refine q_iload_n (pc := 44) hX 1 rfl rfl dX7_setWage_44 ?_
    obtain ⟨v6, hv6, hE⟩ := ob_bind hE
    refine r_iald (pc := 45) (id := 2) (n := 6) hX (lt46 (by decide)) (fun _ _ => rfl) hv6 dX7_setWage_45 ?_
    refine q_istore_n (pc := 46) (lo' := [(0, .ref (o 1)), (1, .int x1), (2, .int x2), (3, .int v6)]) hX [1, 2, 3, 0] rfl (by decide) rfl dX7_setWage_46 ?_
    refine q_aload_n (pc := 47) hX 0 rfl rfl dX7_setWage_47 ?_
    refine q_get (pc := 48) (id := 1) (ci := 7) (N := 34) (T := TX7) (C := RX7) hX 2 (lt46 (by decide)) rfl rfl in_X7 (by decide) (Or.inl kw_79) rfl dX7_setWage_48 ?_
    refine q_iload_n (pc := 51) hX 1 rfl rfl dX7_setWage_51 ?_
    refine q_iload_n (pc := 52) hX 2 rfl rfl dX7_setWage_52 ?_
    obtain ⟨M7, hM7, hE⟩ := ob_bind hE
    refine r_iast (pc := 53) (id := 2) (n := 6) hX (lt46 (by decide)) (fun _ _ => rfl) hM7 dX7_setWage_53 ?_
    refine q_iload_n (pc := 54) hX 3 rfl rfl dX7_setWage_54 ?_
    cases hE
    exact q_iret hX hR (by decide) (by decide) dX7_setWage_55
  · rw [if_neg c] at hE
    refine q_iconst (pc := 38) hX (0) rfl dX7_setWage_38 ?_
    cases hE
    exact q_iret hX hR (by decide) (by decide) dX7_setWage_39

set_option maxHeartbeats 4000000 in
theorem l_X7_placeOf_2 {X : Cx} (hX : CxOK X RX7 cX7_placeOf 4 0 0 0 0 (some .int)) (hE0 : CxE X []) {o : Nat → Nat} {hn : Nat} {M : Mem} {x1 : Int32} {x2 : Int32} {G : Mel} : ∀ (f : Nat) (y1 : Int32) (p5 : Int32), L_X7_placeOf_2 M x1 x2 f y1 = some p5 → WM X o hn M G 0 0 33 4 [(0, .ref (o 1)), (1, .int x1), (2, .int x2), (3, .int p5)] [] → WM X o hn M G 0 0 2 4 [(0, .ref (o 1)), (1, .int x1), (2, .int x2), (3, .int y1)] [] := by
  intro f
  induction f with
  | zero => intro y1 p5 hE; simp [L_X7_placeOf_2] at hE
  | succ f ih =>
    intro y1 p5 hE hx
    rw [L_X7_placeOf_2] at hE
    refine q_iload_n (pc := 2) hX 3 rfl rfl dX7_placeOf_2 ?_
    refine q_aload_n (pc := 3) hX 0 rfl rfl dX7_placeOf_3 ?_
    refine q_get (pc := 4) (id := 1) (ci := 7) (N := 34) (T := TX7) (C := RX7) hX 5 (lt46 (by decide)) rfl rfl in_X7 (by decide) (Or.inl kw_82) rfl dX7_placeOf_4 ?_
    refine q_iload_n (pc := 7) hX 1 rfl rfl dX7_placeOf_7 ?_
    obtain ⟨v2, hv2, hE⟩ := ob_bind hE
    refine r_iald (pc := 8) (id := 5) (n := 6) hX (lt46 (by decide)) (fun _ _ => rfl) hv2 dX7_placeOf_8 ?_
    refine q_icmp_ge (pc := 9) hX 33 (by decide) dX7_placeOf_9 (fun c => ?_) (fun c => ?_)
    · rw [if_pos c] at hE
      cases hE
      exact hx
    · rw [if_neg c] at hE
      refine q_aload_n (pc := 12) hX 0 rfl rfl dX7_placeOf_12 ?_
      refine q_get (pc := 13) (id := 1) (ci := 7) (N := 34) (T := TX7) (C := RX7) hX 6 (lt46 (by decide)) rfl rfl in_X7 (by decide) (Or.inl kw_83) rfl dX7_placeOf_13 ?_
      refine q_bipush (pc := 16) hX (41) (by decide) dX7_placeOf_16 ?_
      refine q_iload_n (pc := 18) hX 1 rfl rfl dX7_placeOf_18 ?_
      refine q_imul (pc := 19) hX dX7_placeOf_19 ?_
      refine q_iload_n (pc := 20) hX 3 rfl rfl dX7_placeOf_20 ?_
      refine q_iadd (pc := 21) hX dX7_placeOf_21 ?_
      obtain ⟨v3, hv3, hE⟩ := ob_bind hE
      refine r_iald (pc := 22) (id := 6) (n := 246) hX (lt46 (by decide)) (fun _ _ => rfl) hv3 dX7_placeOf_22 ?_
      refine q_iload_n (pc := 23) hX 2 rfl rfl dX7_placeOf_23 ?_
      refine q_icmp_ge (pc := 24) hX 33 (by decide) dX7_placeOf_24 (fun c => ?_) (fun c => ?_)
      · rw [if_pos c] at hE
        cases hE
        exact hx
      · rw [if_neg c] at hE
        obtain ⟨z4, hz4⟩ : ∃ z : Int32, z = y1 + 1 := ⟨_, rfl⟩
        have hE := bnd_nm hz4 hE
        refine q_iinc (pc := 27) (lo' := [(0, .ref (o 1)), (1, .int x1), (2, .int x2), (3, .int z4)]) hX 3 z4 [1, 2, 3, 0] rfl (by rw [hz4]; rfl) (by decide) rfl dX7_placeOf_27 ?_
        refine q_goto (pc := 30) hX 2 (by decide) dX7_placeOf_30 ?_
        exact ih _ p5 hE hx

set_option maxHeartbeats 4000000 in
theorem c_X7_placeOf {Y : Lx} {o : Nat → Nat} {hn : Nat} {M : Mem} {G : Mel} {x1 : Int32} {x2 : Int32} {rr : Int32} (hE : s_X7_placeOf M x1 x2 = some (rr)) : MI Y yX7_placeOf cX7_placeOf 4 (some .int) 0 0 0 0 [.ref (o 1), .int x1, .int x2] o hn M G (.inl (some (.int rr))) M G := by
  refine MI.of (by decide +kernel) (Nat.le_of_ble_eq_true rfl) (fun X hY hX hE0 hR => ?_)
  change CxOK X RX7 cX7_placeOf 4 0 0 0 0 (some .int) at hX
  show WM X o hn M G 0 0 0 4 [(0, .ref (o 1)), (1, .int x1), (2, .int x2)] []
  unfold s_X7_placeOf at hE
  refine q_iconst (pc := 0) hX (0) rfl dX7_placeOf_0 ?_
  refine q_istore_n (pc := 1) (lo' := [(0, .ref (o 1)), (1, .int x1), (2, .int x2), (3, .int 0)]) hX [1, 2, 3, 0] rfl (by decide) rfl dX7_placeOf_1 ?_
  obtain ⟨p5, hp5, hE⟩ := ob_bind hE
  refine l_X7_placeOf_2 hX hE0 FU _ p5 hp5 ?_
  refine q_iload_n (pc := 33) hX 3 rfl rfl dX7_placeOf_33 ?_
  cases hE
  exact q_iret hX hR (by decide) (by decide) dX7_placeOf_34

set_option maxHeartbeats 4000000 in
theorem c_X7_hasPunch {Y : Lx} {o : Nat → Nat} {hn : Nat} {M : Mem} {G : Mel} {x1 : Int32} {x2 : Int32} {rr : Int32} (hE : s_X7_hasPunch M x1 x2 = some (rr)) : MI Y yX7_hasPunch cX7_hasPunch 4 (some .boolean) 1 23 0 0 [.ref (o 1), .int x1, .int x2] o hn M G (.inl (some (.int rr))) M G := by
  refine MI.of (by decide +kernel) (Nat.le_of_ble_eq_true rfl) (fun X hY hX hE0 hR => ?_)
  change CxOK X RX7 cX7_hasPunch 4 1 23 0 0 (some .boolean) at hX
  show WM X o hn M G 0 0 0 4 [(0, .ref (o 1)), (1, .int x1), (2, .int x2)] []
  unfold s_X7_hasPunch at hE
  refine q_aload_n (pc := 0) hX 0 rfl rfl dX7_hasPunch_0 ?_
  refine q_iload_n (pc := 1) hX 1 rfl rfl dX7_hasPunch_1 ?_
  refine q_iload_n (pc := 2) hX 2 rfl rfl dX7_hasPunch_2 ?_
  obtain ⟨r1, hr1, hE⟩ := ob_bind hE
  refine q_callV (pc := 3) (id := 1) (As := [.int x1, .int x2]) (rest := []) (rv := some (.int r1)) (st' := [.int r1]) hX (c_X7_placeOf hr1) (vl_X7_106) (lt46 (by decide)) rfl rfl rfl pd_yX7_placeOf rfl ⟨by decide, by decide⟩ ⟨by decide, by decide⟩ rfl (Nat.le_of_ble_eq_true rfl) rfl dX7_hasPunch_3 ?_
  refine q_istore_n (pc := 6) (lo' := [(0, .ref (o 1)), (1, .int x1), (2, .int x2), (3, .int r1)]) hX [1, 2, 3, 0] rfl (by decide) rfl dX7_hasPunch_6 ?_
  refine q_iload_n (pc := 7) hX 3 rfl rfl dX7_hasPunch_7 ?_
  refine q_aload_n (pc := 8) hX 0 rfl rfl dX7_hasPunch_8 ?_
  refine q_get (pc := 9) (id := 1) (ci := 7) (N := 34) (T := TX7) (C := RX7) hX 5 (lt46 (by decide)) rfl rfl in_X7 (by decide) (Or.inl kw_82) rfl dX7_hasPunch_9 ?_
  refine q_iload_n (pc := 12) hX 1 rfl rfl dX7_hasPunch_12 ?_
  obtain ⟨v2, hv2, hE⟩ := ob_bind hE
  refine r_iald (pc := 13) (id := 5) (n := 6) hX (lt46 (by decide)) (fun _ _ => rfl) hv2 dX7_hasPunch_13 ?_
  refine q_icmp_ge (pc := 14) hX 36 (by decide) dX7_hasPunch_14 (fun c => ?_) (fun c => ?_)
  · rw [if_pos c] at hE
    refine q_iconst (pc := 36) hX (0) rfl dX7_hasPunch_36 ?_
    cases hE
    exact q_zret hX (Or.inl rfl) hR (by decide) (by decide) dX7_hasPunch_37
  · rw [if_neg c] at hE
    refine q_aload_n (pc := 17) hX 0 rfl rfl dX7_hasPunch_17 ?_
    refine q_get (pc := 18) (id := 1) (ci := 7) (N := 34) (T := TX7) (C := RX7) hX 6 (lt46 (by decide)) rfl rfl in_X7 (by decide) (Or.inl kw_83) rfl dX7_hasPunch_18 ?_
    refine q_bipush (pc := 21) hX (41) (by decide) dX7_hasPunch_21 ?_
    refine q_iload_n (pc := 23) hX 1 rfl rfl dX7_hasPunch_23 ?_
    refine q_imul (pc := 24) hX dX7_hasPunch_24 ?_
    refine q_iload_n (pc := 25) hX 3 rfl rfl dX7_hasPunch_25 ?_
    refine q_iadd (pc := 26) hX dX7_hasPunch_26 ?_
    obtain ⟨v3, hv3, hE⟩ := ob_bind hE
    refine r_iald (pc := 27) (id := 6) (n := 246) hX (lt46 (by decide)) (fun _ _ => rfl) hv3 dX7_hasPunch_27 ?_
    refine q_iload_n (pc := 28) hX 2 rfl rfl dX7_hasPunch_28 ?_
    refine q_icmp_ne (pc := 29) hX 36 (by decide) dX7_hasPunch_29 (fun c => ?_) (fun c => ?_)
    · rw [if_neg c] at hE
      refine q_iconst (pc := 36) hX (0) rfl dX7_hasPunch_36 ?_
      cases hE
      exact q_zret hX (Or.inl rfl) hR (by decide) (by decide) dX7_hasPunch_37
    · rw [if_pos c] at hE
      refine q_iconst (pc := 32) hX (1) rfl dX7_hasPunch_32 ?_
      refine q_goto (pc := 33) hX 37 (by decide) dX7_hasPunch_33 ?_
      cases hE
      exact q_zret hX (Or.inr rfl) hR (by decide) (by decide) dX7_hasPunch_37

set_option maxHeartbeats 4000000 in
theorem l_X7_punch_81 {X : Cx} (hX : CxOK X RX7 cX7_punch 6 2 46 0 0 (some .int)) (hE0 : CxE X []) {o : Nat → Nat} {hn : Nat} {x1 : Int32} {x2 : Int32} {x3 : Int32} {G : Mel} {r8 : Int32} : ∀ (f : Nat) (y10 : Int32) (M11 : Mem) (p17 : Int32 × Mem), L_X7_punch_81 x1 r8 f y10 M11 = some p17 → WM X o hn p17.2 G 0 0 146 6 [(0, .ref (o 1)), (1, .int x1), (2, .int x2), (3, .int x3), (4, .int r8), (5, .int p17.1)] [] → WM X o hn M11 G 0 0 81 6 [(0, .ref (o 1)), (1, .int x1), (2, .int x2), (3, .int x3), (4, .int r8), (5, .int y10)] [] := by
  intro f
  induction f with
  | zero => intro y10 M11 p17 hE; simp [L_X7_punch_81] at hE
  | succ f ih =>
    intro y10 M11 p17 hE hx
    rw [L_X7_punch_81] at hE
    refine q_iload (pc := 81) hX 5 rfl dX7_punch_81 ?_
    refine q_iload (pc := 83) hX 4 rfl dX7_punch_83 ?_
    refine q_icmp_le (pc := 85) hX 146 (by decide) dX7_punch_85 (fun c => ?_) (fun c => ?_)
    · rw [if_pos c] at hE
      cases hE
      exact hx
    · rw [if_neg c] at hE
      refine q_aload_n (pc := 88) hX 0 rfl rfl dX7_punch_88 ?_
      refine q_get (pc := 89) (id := 1) (ci := 7) (N := 34) (T := TX7) (C := RX7) hX 6 (lt46 (by decide)) rfl rfl in_X7 (by decide) (Or.inl kw_83) rfl dX7_punch_89 ?_
      refine q_bipush (pc := 92) hX (41) (by decide) dX7_punch_92 ?_
      refine q_iload_n (pc := 94) hX 1 rfl rfl dX7_punch_94 ?_
      refine q_imul (pc := 95) hX dX7_punch_95 ?_
      refine q_iload (pc := 96) hX 5 rfl dX7_punch_96 ?_
      refine q_iadd (pc := 98) hX dX7_punch_98 ?_
      refine q_aload_n (pc := 99) hX 0 rfl rfl dX7_punch_99 ?_
      refine q_get (pc := 100) (id := 1) (ci := 7) (N := 34) (T := TX7) (C := RX7) hX 6 (lt46 (by decide)) rfl rfl in_X7 (by decide) (Or.inl kw_83) rfl dX7_punch_100 ?_
      refine q_bipush (pc := 103) hX (41) (by decide) dX7_punch_103 ?_
      refine q_iload_n (pc := 105) hX 1 rfl rfl dX7_punch_105 ?_
      refine q_imul (pc := 106) hX dX7_punch_106 ?_
      refine q_iload (pc := 107) hX 5 rfl dX7_punch_107 ?_
      refine q_iadd (pc := 109) hX dX7_punch_109 ?_
      refine q_iconst (pc := 110) hX (1) rfl dX7_punch_110 ?_
      refine q_isub (pc := 111) hX dX7_punch_111 ?_
      obtain ⟨v12, hv12, hE⟩ := ob_bind hE
      refine r_iald (pc := 112) (id := 6) (n := 246) hX (lt46 (by decide)) (fun _ _ => rfl) hv12 dX7_punch_112 ?_
      obtain ⟨M13, hM13, hE⟩ := ob_bind hE
      refine r_iast (pc := 113) (id := 6) (n := 246) hX (lt46 (by decide)) (fun _ _ => rfl) hM13 dX7_punch_113 ?_
      refine q_aload_n (pc := 114) hX 0 rfl rfl dX7_punch_114 ?_
      refine q_get (pc := 115) (id := 1) (ci := 7) (N := 34) (T := TX7) (C := RX7) hX 7 (lt46 (by decide)) rfl rfl in_X7 (by decide) (Or.inl kw_85) rfl dX7_punch_115 ?_
      refine q_bipush (pc := 118) hX (41) (by decide) dX7_punch_118 ?_
      refine q_iload_n (pc := 120) hX 1 rfl rfl dX7_punch_120 ?_
      refine q_imul (pc := 121) hX dX7_punch_121 ?_
      refine q_iload (pc := 122) hX 5 rfl dX7_punch_122 ?_
      refine q_iadd (pc := 124) hX dX7_punch_124 ?_
      refine q_aload_n (pc := 125) hX 0 rfl rfl dX7_punch_125 ?_
      refine q_get (pc := 126) (id := 1) (ci := 7) (N := 34) (T := TX7) (C := RX7) hX 7 (lt46 (by decide)) rfl rfl in_X7 (by decide) (Or.inl kw_85) rfl dX7_punch_126 ?_
      refine q_bipush (pc := 129) hX (41) (by decide) dX7_punch_129 ?_
      refine q_iload_n (pc := 131) hX 1 rfl rfl dX7_punch_131 ?_
      refine q_imul (pc := 132) hX dX7_punch_132 ?_
      refine q_iload (pc := 133) hX 5 rfl dX7_punch_133 ?_
      refine q_iadd (pc := 135) hX dX7_punch_135 ?_
      refine q_iconst (pc := 136) hX (1) rfl dX7_punch_136 ?_
      refine q_isub (pc := 137) hX dX7_punch_137 ?_
      obtain ⟨v14, hv14, hE⟩ := ob_bind hE
      refine r_zald (pc := 138) (id := 7) (n := 246) hX (lt46 (by decide)) (fun _ _ => rfl) hv14 dX7_punch_138 ?_
      obtain ⟨M15, hM15, hE⟩ := ob_bind hE
      refine r_zast (pc := 139) (id := 7) (n := 246) hX (lt46 (by decide)) (fun _ _ => rfl) hM15 dX7_punch_139 ?_
      obtain ⟨z16, hz16⟩ : ∃ z : Int32, z = y10 + (-1) := ⟨_, rfl⟩
      have hE := bnd_nm hz16 hE
      refine q_iinc (pc := 140) (lo' := [(0, .ref (o 1)), (1, .int x1), (2, .int x2), (3, .int x3), (4, .int r8), (5, .int z16)]) hX 5 z16 [1, 2, 3, 4, 5, 0] rfl (by rw [hz16]; rfl) (by decide) rfl dX7_punch_140 ?_
      refine q_goto (pc := 143) hX 81 (by decide) dX7_punch_143 ?_
      exact ih _ _ p17 hE hx

set_option maxHeartbeats 4000000 in
theorem c_X7_punch {Y : Lx} {o : Nat → Nat} {hn : Nat} {M : Mem} {G : Mel} {x1 : Int32} {x2 : Int32} {x3 : Int32} {rr : Int32} {Mr : Mem} (hE : s_X7_punch M x1 x2 x3 = some (rr, Mr)) : MI Y yX7_punch cX7_punch 6 (some .int) 2 46 0 0 [.ref (o 1), .int x1, .int x2, .int x3] o hn M G (.inl (some (.int rr))) Mr G := by
  refine MI.of (by decide +kernel) (Nat.le_of_ble_eq_true rfl) (fun X hY hX hE0 hR => ?_)
  change CxOK X RX7 cX7_punch 6 2 46 0 0 (some .int) at hX
  show WM X o hn M G 0 0 0 6 [(0, .ref (o 1)), (1, .int x1), (2, .int x2), (3, .int x3)] []
  unfold s_X7_punch at hE
  refine q_aload_n (pc := 0) hX 0 rfl rfl dX7_punch_0 ?_
  refine q_aload_n (pc := 1) hX 0 rfl rfl dX7_punch_1 ?_
  refine q_iload_n (pc := 2) hX 1 rfl rfl dX7_punch_2 ?_
  obtain ⟨r1, hr1, hE⟩ := ob_bind hE
  refine q_callV (pc := 3) (id := 1) (As := [.int x1]) (rest := [.ref (o 1)]) (rv := some (.int r1)) (st' := [.int r1, .ref (o 1)]) hX (c_X7_isOne hr1) (vl_X7_102) (lt46 (by decide)) rfl rfl rfl pd_yX7_isOne rfl ⟨by decide, by decide⟩ ⟨by decide, by decide⟩ rfl (Nat.le_of_ble_eq_true rfl) rfl dX7_punch_3 ?_
  obtain ⟨p6, hp6, hE⟩ := ob_bind hE
  suffices Jp6 : WM X o hn M G 0 0 53 6 [(0, .ref (o 1)), (1, .int x1), (2, .int x2), (3, .int x3)] [.int p6, .ref (o 1)] by
    refine q_if_ne (pc := 6) hX 13 (by decide) dX7_punch_6 (fun c => ?_) (fun c => ?_)
    · rw [if_neg c] at hp6
      refine q_iload_n (pc := 13) hX 2 rfl rfl dX7_punch_13 ?_
      refine q_iconst (pc := 14) hX (0) rfl dX7_punch_14 ?_
      refine q_sipush (pc := 15) hX (10080) (by decide) dX7_punch_15 ?_
      obtain ⟨r3, hr3, hp6⟩ := ob_bind hp6
      refine q_callS (pc := 18) (As := [.int x2, .int 0, .int 10080]) (rest := [.ref (o 1)]) (rv := some (.int r3)) (st' := [.int r3, .ref (o 1)]) hX (c_X7_in hr3) (sl_X7_97) pd_yX7_in rfl ⟨by decide, by decide⟩ ⟨by decide, by decide⟩ rfl (Nat.le_of_ble_eq_true rfl) rfl dX7_punch_18 ?_
      refine q_if_ne (pc := 21) hX 28 (by decide) dX7_punch_21 (fun c => ?_) (fun c => ?_)
      · rw [if_neg c] at hp6
        refine q_aload_n (pc := 28) hX 0 rfl rfl dX7_punch_28 ?_
        refine q_iload_n (pc := 29) hX 1 rfl rfl dX7_punch_29 ?_
        refine q_iload_n (pc := 30) hX 2 rfl rfl dX7_punch_30 ?_
        obtain ⟨r4, hr4, hp6⟩ := ob_bind hp6
        refine q_callV (pc := 31) (id := 1) (As := [.int x1, .int x2]) (rest := [.ref (o 1)]) (rv := some (.int r4)) (st' := [.int r4, .ref (o 1)]) hX (c_X7_hasPunch hr4) (vl_X7_110) (lt46 (by decide)) rfl rfl rfl pd_yX7_hasPunch rfl ⟨by decide, by decide⟩ ⟨by decide, by decide⟩ rfl (Nat.le_of_ble_eq_true rfl) rfl dX7_punch_31 ?_
        refine q_if_ne (pc := 34) hX 48 (by decide) dX7_punch_34 (fun c => ?_) (fun c => ?_)
        · rw [if_neg c] at hp6
          refine q_iconst (pc := 48) hX (3) rfl dX7_punch_48 ?_
          refine q_goto (pc := 49) hX 53 (by decide) dX7_punch_49 ?_
          cases hp6
          exact Jp6
        · rw [if_pos c] at hp6
          refine q_aload_n (pc := 37) hX 0 rfl rfl dX7_punch_37 ?_
          refine q_get (pc := 38) (id := 1) (ci := 7) (N := 34) (T := TX7) (C := RX7) hX 5 (lt46 (by decide)) rfl rfl in_X7 (by decide) (Or.inl kw_82) rfl dX7_punch_38 ?_
          refine q_iload_n (pc := 41) hX 1 rfl rfl dX7_punch_41 ?_
          obtain ⟨v5, hv5, hp6⟩ := ob_bind hp6
          refine r_iald (pc := 42) (id := 5) (n := 6) hX (lt46 (by decide)) (fun _ _ => rfl) hv5 dX7_punch_42 ?_
          refine q_bipush (pc := 43) hX (40) (by decide) dX7_punch_43 ?_
          refine q_icmp_ne (pc := 45) hX 52 (by decide) dX7_punch_45 (fun c => ?_) (fun c => ?_)
          · rw [if_neg c] at hp6
            refine q_iconst (pc := 52) hX (0) rfl dX7_punch_52 ?_
            cases hp6
            exact Jp6
          · rw [if_pos c] at hp6
            refine q_iconst (pc := 48) hX (3) rfl dX7_punch_48 ?_
            refine q_goto (pc := 49) hX 53 (by decide) dX7_punch_49 ?_
            cases hp6
            exact Jp6
      · rw [if_pos c] at hp6
        refine q_iconst (pc := 24) hX (2) rfl dX7_punch_24 ?_
        refine q_goto (pc := 25) hX 53 (by decide) dX7_punch_25 ?_
        cases hp6
        exact Jp6
    · rw [if_pos c] at hp6
      refine q_iconst (pc := 9) hX (1) rfl dX7_punch_9 ?_
      refine q_goto (pc := 10) hX 53 (by decide) dX7_punch_10 ?_
      cases hp6
      exact Jp6
  obtain ⟨M7, hM7⟩ : ∃ z : Mem, z = mst M 1 0 p6 := ⟨_, rfl⟩
  have hE := bnd_nm hM7 hE
  refine pu_M_thrown (pc := 53) hX hM7 (Or.inl kw_106) dX7_punch_53 ?_
  refine q_aload_n (pc := 56) hX 0 rfl rfl dX7_punch_56 ?_
  refine q_get (pc := 57) (id := 1) (ci := 7) (N := 34) (T := TX7) (C := RX7) hX 0 (lt46 (by decide)) rfl rfl in_X7 (by decide) (Or.inl kw_106) rfl dX7_punch_57 ?_
  refine q_if_le (pc := 60) hX 65 (by decide) dX7_punch_60 (fun c => ?_) (fun c => ?_)
  · rw [if_pos c] at hE
    refine q_aload_n (pc := 65) hX 0 rfl rfl dX7_punch_65 ?_
    refine q_iload_n (pc := 66) hX 1 rfl rfl dX7_punch_66 ?_
    refine q_iload_n (pc := 67) hX 2 rfl rfl dX7_punch_67 ?_
    obtain ⟨r8, hr8, hE⟩ := ob_bind hE
    refine q_callV (pc := 68) (id := 1) (As := [.int x1, .int x2]) (rest := []) (rv := some (.int r8)) (st' := [.int r8]) hX (c_X7_placeOf hr8) (vl_X7_106) (lt46 (by decide)) rfl rfl rfl pd_yX7_placeOf rfl ⟨by decide, by decide⟩ ⟨by decide, by decide⟩ rfl (Nat.le_of_ble_eq_true rfl) rfl dX7_punch_68 ?_
    refine q_istore (pc := 71) (lo' := [(0, .ref (o 1)), (1, .int x1), (2, .int x2), (3, .int x3), (4, .int r8)]) hX [1, 2, 3, 4, 0] (by decide) rfl dX7_punch_71 ?_
    refine q_aload_n (pc := 73) hX 0 rfl rfl dX7_punch_73 ?_
    refine q_get (pc := 74) (id := 1) (ci := 7) (N := 34) (T := TX7) (C := RX7) hX 5 (lt46 (by decide)) rfl rfl in_X7 (by decide) (Or.inl kw_82) rfl dX7_punch_74 ?_
    refine q_iload_n (pc := 77) hX 1 rfl rfl dX7_punch_77 ?_
    obtain ⟨v9, hv9, hE⟩ := ob_bind hE
    refine r_iald (pc := 78) (id := 5) (n := 6) hX (lt46 (by decide)) (fun _ _ => rfl) hv9 dX7_punch_78 ?_
    refine q_istore (pc := 79) (lo' := [(0, .ref (o 1)), (1, .int x1), (2, .int x2), (3, .int x3), (4, .int r8), (5, .int v9)]) hX [1, 2, 3, 4, 5, 0] (by decide) rfl dX7_punch_79 ?_
    obtain ⟨p17, hp17, hE⟩ := ob_bind hE
    refine l_X7_punch_81 hX hE0 FU _ _ p17 hp17 ?_
    refine q_aload_n (pc := 146) hX 0 rfl rfl dX7_punch_146 ?_
    refine q_get (pc := 147) (id := 1) (ci := 7) (N := 34) (T := TX7) (C := RX7) hX 6 (lt46 (by decide)) rfl rfl in_X7 (by decide) (Or.inl kw_83) rfl dX7_punch_147 ?_
    refine q_bipush (pc := 150) hX (41) (by decide) dX7_punch_150 ?_
    refine q_iload_n (pc := 152) hX 1 rfl rfl dX7_punch_152 ?_
    refine q_imul (pc := 153) hX dX7_punch_153 ?_
    refine q_iload (pc := 154) hX 4 rfl dX7_punch_154 ?_
    refine q_iadd (pc := 156) hX dX7_punch_156 ?_
    refine q_iload_n (pc := 157) hX 2 rfl rfl dX7_punch_157 ?_
    obtain ⟨M18, hM18, hE⟩ := ob_bind hE
    refine r_iast (pc := 158) (id := 6) (n := 246) hX (lt46 (by decide)) (fun _ _ => rfl) hM18 dX7_punch_158 ?_
    refine q_aload_n (pc := 159) hX 0 rfl rfl dX7_punch_159 ?_
    refine q_get (pc := 160) (id := 1) (ci := 7) (N := 34) (T := TX7) (C := RX7) hX 7 (lt46 (by decide)) rfl rfl in_X7 (by decide) (Or.inl kw_85) rfl dX7_punch_160 ?_
    refine q_bipush (pc := 163) hX (41) (by decide) dX7_punch_163 ?_
    refine q_iload_n (pc := 165) hX 1 rfl rfl dX7_punch_165 ?_
    refine q_imul (pc := 166) hX dX7_punch_166 ?_
    refine q_iload (pc := 167) hX 4 rfl dX7_punch_167 ?_
    refine q_iadd (pc := 169) hX dX7_punch_169 ?_
    refine q_iload_n (pc := 170) hX 3 rfl rfl dX7_punch_170 ?_
    obtain ⟨M19, hM19, hE⟩ := ob_bind hE
    refine r_zast (pc := 171) (id := 7) (n := 246) hX (lt46 (by decide)) (fun _ _ => rfl) hM19 dX7_punch_171 ?_
    refine q_aload_n (pc := 172) hX 0 rfl rfl dX7_punch_172 ?_
    refine q_get (pc := 173) (id := 1) (ci := 7) (N := 34) (T := TX7) (C := RX7) hX 5 (lt46 (by decide)) rfl rfl in_X7 (by decide) (Or.inl kw_82) rfl dX7_punch_173 ?_
    refine q_iload_n (pc := 176) hX 1 rfl rfl dX7_punch_176 ?_
    refine q_dup2 (pc := 177) hX rfl rfl dX7_punch_177 ?_
    obtain ⟨v20, hv20, hE⟩ := ob_bind hE
    refine r_iald (pc := 178) (id := 5) (n := 6) hX (lt46 (by decide)) (fun _ _ => rfl) hv20 dX7_punch_178 ?_
    refine q_iconst (pc := 179) hX (1) rfl dX7_punch_179 ?_
    refine q_iadd (pc := 180) hX dX7_punch_180 ?_
    obtain ⟨M21, hM21, hE⟩ := ob_bind hE
    refine r_iast (pc := 181) (id := 5) (n := 6) hX (lt46 (by decide)) (fun _ _ => rfl) hM21 dX7_punch_181 ?_
    refine q_aload_n (pc := 182) hX 0 rfl rfl dX7_punch_182 ?_
    refine q_get (pc := 183) (id := 1) (ci := 7) (N := 34) (T := TX7) (C := RX7) hX 5 (lt46 (by decide)) rfl rfl in_X7 (by decide) (Or.inl kw_82) rfl dX7_punch_183 ?_
    refine q_iload_n (pc := 186) hX 1 rfl rfl dX7_punch_186 ?_
    obtain ⟨v22, hv22, hE⟩ := ob_bind hE
    refine r_iald (pc := 187) (id := 5) (n := 6) hX (lt46 (by decide)) (fun _ _ => rfl) hv22 dX7_punch_187 ?_
    cases hE
    exact q_iret hX hR (by decide) (by decide) dX7_punch_188
  · rw [if_neg c] at hE
    refine q_iconst (pc := 63) hX (0) rfl dX7_punch_63 ?_
    cases hE
    exact q_iret hX hR (by decide) (by decide) dX7_punch_64

set_option maxHeartbeats 4000000 in
theorem l_X7_removePunch_72 {X : Cx} (hX : CxOK X RX7 cX7_removePunch 6 2 46 0 0 (some .boolean)) (hE0 : CxE X []) {o : Nat → Nat} {hn : Nat} {x1 : Int32} {G : Mel} {v7 : Int32} : ∀ (f : Nat) (y10 : Int32) (M11 : Mem) (p18 : Int32 × Mem), L_X7_removePunch_72 x1 f y10 M11 = some p18 → WM X o hn p18.2 G 0 0 141 6 [(0, .ref (o 1)), (1, .int x1), (4, .int v7), (5, .int p18.1)] [] → WM X o hn M11 G 0 0 72 6 [(0, .ref (o 1)), (1, .int x1), (4, .int v7), (5, .int y10)] [] := by
  intro f
  induction f with
  | zero => intro y10 M11 p18 hE; simp [L_X7_removePunch_72] at hE
  | succ f ih =>
    intro y10 M11 p18 hE hx
    rw [L_X7_removePunch_72] at hE
    refine q_iload (pc := 72) hX 3 rfl dX7_removePunch_72 ?_
    refine q_aload_n (pc := 74) hX 0 rfl rfl dX7_removePunch_74 ?_
    refine q_get (pc := 75) (id := 1) (ci := 7) (N := 34) (T := TX7) (C := RX7) hX 5 (lt46 (by decide)) rfl rfl in_X7 (by decide) (Or.inl kw_82) rfl dX7_removePunch_75 ?_
    refine q_iload_n (pc := 78) hX 1 rfl rfl dX7_removePunch_78 ?_
    obtain ⟨v12, hv12, hE⟩ := ob_bind hE
    refine r_iald (pc := 79) (id := 5) (n := 6) hX (lt46 (by decide)) (fun _ _ => rfl) hv12 dX7_removePunch_79 ?_
    refine q_icmp_ge (pc := 80) hX 141 (by decide) dX7_removePunch_80 (fun c => ?_) (fun c => ?_)
    · rw [if_pos c] at hE
      cases hE
      exact hx
    · rw [if_neg c] at hE
      refine q_aload_n (pc := 83) hX 0 rfl rfl dX7_removePunch_83 ?_
      refine q_get (pc := 84) (id := 1) (ci := 7) (N := 34) (T := TX7) (C := RX7) hX 6 (lt46 (by decide)) rfl rfl in_X7 (by decide) (Or.inl kw_83) rfl dX7_removePunch_84 ?_
      refine q_bipush (pc := 87) hX (41) (by decide) dX7_removePunch_87 ?_
      refine q_iload_n (pc := 89) hX 1 rfl rfl dX7_removePunch_89 ?_
      refine q_imul (pc := 90) hX dX7_removePunch_90 ?_
      refine q_iload (pc := 91) hX 3 rfl dX7_removePunch_91 ?_
      refine q_iadd (pc := 93) hX dX7_removePunch_93 ?_
      refine q_aload_n (pc := 94) hX 0 rfl rfl dX7_removePunch_94 ?_
      refine q_get (pc := 95) (id := 1) (ci := 7) (N := 34) (T := TX7) (C := RX7) hX 6 (lt46 (by decide)) rfl rfl in_X7 (by decide) (Or.inl kw_83) rfl dX7_removePunch_95 ?_
      refine q_bipush (pc := 98) hX (41) (by decide) dX7_removePunch_98 ?_
      refine q_iload_n (pc := 100) hX 1 rfl rfl dX7_removePunch_100 ?_
      refine q_imul (pc := 101) hX dX7_removePunch_101 ?_
      refine q_iload (pc := 102) hX 3 rfl dX7_removePunch_102 ?_
      refine q_iadd (pc := 104) hX dX7_removePunch_104 ?_
      refine q_iconst (pc := 105) hX (1) rfl dX7_removePunch_105 ?_
      refine q_iadd (pc := 106) hX dX7_removePunch_106 ?_
      obtain ⟨v13, hv13, hE⟩ := ob_bind hE
      refine r_iald (pc := 107) (id := 6) (n := 246) hX (lt46 (by decide)) (fun _ _ => rfl) hv13 dX7_removePunch_107 ?_
      obtain ⟨M14, hM14, hE⟩ := ob_bind hE
      refine r_iast (pc := 108) (id := 6) (n := 246) hX (lt46 (by decide)) (fun _ _ => rfl) hM14 dX7_removePunch_108 ?_
      refine q_aload_n (pc := 109) hX 0 rfl rfl dX7_removePunch_109 ?_
      refine q_get (pc := 110) (id := 1) (ci := 7) (N := 34) (T := TX7) (C := RX7) hX 7 (lt46 (by decide)) rfl rfl in_X7 (by decide) (Or.inl kw_85) rfl dX7_removePunch_110 ?_
      refine q_bipush (pc := 113) hX (41) (by decide) dX7_removePunch_113 ?_
      refine q_iload_n (pc := 115) hX 1 rfl rfl dX7_removePunch_115 ?_
      refine q_imul (pc := 116) hX dX7_removePunch_116 ?_
      refine q_iload (pc := 117) hX 3 rfl dX7_removePunch_117 ?_
      refine q_iadd (pc := 119) hX dX7_removePunch_119 ?_
      refine q_aload_n (pc := 120) hX 0 rfl rfl dX7_removePunch_120 ?_
      refine q_get (pc := 121) (id := 1) (ci := 7) (N := 34) (T := TX7) (C := RX7) hX 7 (lt46 (by decide)) rfl rfl in_X7 (by decide) (Or.inl kw_85) rfl dX7_removePunch_121 ?_
      refine q_bipush (pc := 124) hX (41) (by decide) dX7_removePunch_124 ?_
      refine q_iload_n (pc := 126) hX 1 rfl rfl dX7_removePunch_126 ?_
      refine q_imul (pc := 127) hX dX7_removePunch_127 ?_
      refine q_iload (pc := 128) hX 3 rfl dX7_removePunch_128 ?_
      refine q_iadd (pc := 130) hX dX7_removePunch_130 ?_
      refine q_iconst (pc := 131) hX (1) rfl dX7_removePunch_131 ?_
      refine q_iadd (pc := 132) hX dX7_removePunch_132 ?_
      obtain ⟨v15, hv15, hE⟩ := ob_bind hE
      refine r_zald (pc := 133) (id := 7) (n := 246) hX (lt46 (by decide)) (fun _ _ => rfl) hv15 dX7_removePunch_133 ?_
      obtain ⟨M16, hM16, hE⟩ := ob_bind hE
      refine r_zast (pc := 134) (id := 7) (n := 246) hX (lt46 (by decide)) (fun _ _ => rfl) hM16 dX7_removePunch_134 ?_
      obtain ⟨z17, hz17⟩ : ∃ z : Int32, z = y10 + 1 := ⟨_, rfl⟩
      have hE := bnd_nm hz17 hE
      refine q_iinc (pc := 135) (lo' := [(0, .ref (o 1)), (1, .int x1), (4, .int v7), (5, .int z17)]) hX 3 z17 [1, 2, 3, 0] rfl (by rw [hz17]; rfl) (by decide) rfl dX7_removePunch_135 ?_
      refine q_goto (pc := 138) hX 72 (by decide) dX7_removePunch_138 ?_
      exact ih _ _ p18 hE hx

set_option maxHeartbeats 4000000 in
theorem c_X7_removePunch {Y : Lx} {o : Nat → Nat} {hn : Nat} {M : Mem} {G : Mel} {x1 : Int32} {x2 : Int32} {rr : Int32} {Mr : Mem} (hE : s_X7_removePunch M x1 x2 = some (rr, Mr)) : MI Y yX7_removePunch cX7_removePunch 6 (some .boolean) 2 46 0 0 [.ref (o 1), .int x1, .int x2] o hn M G (.inl (some (.int rr))) Mr G := by
  refine MI.of (by decide +kernel) (Nat.le_of_ble_eq_true rfl) (fun X hY hX hE0 hR => ?_)
  change CxOK X RX7 cX7_removePunch 6 2 46 0 0 (some .boolean) at hX
  show WM X o hn M G 0 0 0 6 [(0, .ref (o 1)), (1, .int x1), (2, .int x2)] []
  unfold s_X7_removePunch at hE
  refine q_aload_n (pc := 0) hX 0 rfl rfl dX7_removePunch_0 ?_
  refine q_aload_n (pc := 1) hX 0 rfl rfl dX7_removePunch_1 ?_
  refine q_iload_n (pc := 2) hX 1 rfl rfl dX7_removePunch_2 ?_
  obtain ⟨r1, hr1, hE⟩ := ob_bind hE
  refine q_callV (pc := 3) (id := 1) (As := [.int x1]) (rest := [.ref (o 1)]) (rv := some (.int r1)) (st' := [.int r1, .ref (o 1)]) hX (c_X7_isOne hr1) (vl_X7_102) (lt46 (by decide)) rfl rfl rfl pd_yX7_isOne rfl ⟨by decide, by decide⟩ ⟨by decide, by decide⟩ rfl (Nat.le_of_ble_eq_true rfl) rfl dX7_removePunch_3 ?_
  obtain ⟨p4, hp4, hE⟩ := ob_bind hE
  suffices Jp4 : WM X o hn M G 0 0 27 6 [(0, .ref (o 1)), (1, .int x1), (2, .int x2)] [.int p4, .ref (o 1)] by
    refine q_if_ne (pc := 6) hX 13 (by decide) dX7_removePunch_6 (fun c => ?_) (fun c => ?_)
    · rw [if_neg c] at hp4
      refine q_aload_n (pc := 13) hX 0 rfl rfl dX7_removePunch_13 ?_
      refine q_iload_n (pc := 14) hX 1 rfl rfl dX7_removePunch_14 ?_
      refine q_iload_n (pc := 15) hX 2 rfl rfl dX7_removePunch_15 ?_
      obtain ⟨r3, hr3, hp4⟩ := ob_bind hp4
      refine q_callV (pc := 16) (id := 1) (As := [.int x1, .int x2]) (rest := [.ref (o 1)]) (rv := some (.int r3)) (st' := [.int r3, .ref (o 1)]) hX (c_X7_hasPunch hr3) (vl_X7_110) (lt46 (by decide)) rfl rfl rfl pd_yX7_hasPunch rfl ⟨by decide, by decide⟩ ⟨by decide, by decide⟩ rfl (Nat.le_of_ble_eq_true rfl) rfl dX7_removePunch_16 ?_
      refine q_if_eq (pc := 19) hX 26 (by decide) dX7_removePunch_19 (fun c => ?_) (fun c => ?_)
      · rw [if_pos c] at hp4
        refine q_iconst (pc := 26) hX (2) rfl dX7_removePunch_26 ?_
        cases hp4
        exact Jp4
      · rw [if_neg c] at hp4
        refine q_iconst (pc := 22) hX (0) rfl dX7_removePunch_22 ?_
        refine q_goto (pc := 23) hX 27 (by decide) dX7_removePunch_23 ?_
        cases hp4
        exact Jp4
    · rw [if_pos c] at hp4
      refine q_iconst (pc := 9) hX (1) rfl dX7_removePunch_9 ?_
      refine q_goto (pc := 10) hX 27 (by decide) dX7_removePunch_10 ?_
      cases hp4
      exact Jp4
  obtain ⟨M5, hM5⟩ : ∃ z : Mem, z = mst M 1 0 p4 := ⟨_, rfl⟩
  have hE := bnd_nm hM5 hE
  refine pu_M_thrown (pc := 27) hX hM5 (Or.inl kw_106) dX7_removePunch_27 ?_
  refine q_aload_n (pc := 30) hX 0 rfl rfl dX7_removePunch_30 ?_
  refine q_get (pc := 31) (id := 1) (ci := 7) (N := 34) (T := TX7) (C := RX7) hX 0 (lt46 (by decide)) rfl rfl in_X7 (by decide) (Or.inl kw_106) rfl dX7_removePunch_31 ?_
  refine q_if_le (pc := 34) hX 39 (by decide) dX7_removePunch_34 (fun c => ?_) (fun c => ?_)
  · rw [if_pos c] at hE
    refine q_aload_n (pc := 39) hX 0 rfl rfl dX7_removePunch_39 ?_
    refine q_iload_n (pc := 40) hX 1 rfl rfl dX7_removePunch_40 ?_
    refine q_iload_n (pc := 41) hX 2 rfl rfl dX7_removePunch_41 ?_
    obtain ⟨r6, hr6, hE⟩ := ob_bind hE
    refine q_callV (pc := 42) (id := 1) (As := [.int x1, .int x2]) (rest := []) (rv := some (.int r6)) (st' := [.int r6]) hX (c_X7_placeOf hr6) (vl_X7_106) (lt46 (by decide)) rfl rfl rfl pd_yX7_placeOf rfl ⟨by decide, by decide⟩ ⟨by decide, by decide⟩ rfl (Nat.le_of_ble_eq_true rfl) rfl dX7_removePunch_42 ?_
    refine q_istore_n (pc := 45) (lo' := [(0, .ref (o 1)), (1, .int x1), (2, .int x2), (3, .int r6)]) hX [1, 2, 3, 0] rfl (by decide) rfl dX7_removePunch_45 ?_
    refine q_aload_n (pc := 46) hX 0 rfl rfl dX7_removePunch_46 ?_
    refine q_get (pc := 47) (id := 1) (ci := 7) (N := 34) (T := TX7) (C := RX7) hX 7 (lt46 (by decide)) rfl rfl in_X7 (by decide) (Or.inl kw_85) rfl dX7_removePunch_47 ?_
    refine q_bipush (pc := 50) hX (41) (by decide) dX7_removePunch_50 ?_
    refine q_iload_n (pc := 52) hX 1 rfl rfl dX7_removePunch_52 ?_
    refine q_imul (pc := 53) hX dX7_removePunch_53 ?_
    refine q_iload_n (pc := 54) hX 3 rfl rfl dX7_removePunch_54 ?_
    refine q_iadd (pc := 55) hX dX7_removePunch_55 ?_
    obtain ⟨v7, hv7, hE⟩ := ob_bind hE
    refine r_zald (pc := 56) (id := 7) (n := 246) hX (lt46 (by decide)) (fun _ _ => rfl) hv7 dX7_removePunch_56 ?_
    refine q_istore (pc := 57) (lo' := [(0, .ref (o 1)), (1, .int x1), (2, .int x2), (3, .int r6), (4, .int v7)]) hX [1, 2, 3, 4, 0] (by decide) rfl dX7_removePunch_57 ?_
    refine q_aload_n (pc := 59) hX 0 rfl rfl dX7_removePunch_59 ?_
    refine q_get (pc := 60) (id := 1) (ci := 7) (N := 34) (T := TX7) (C := RX7) hX 5 (lt46 (by decide)) rfl rfl in_X7 (by decide) (Or.inl kw_82) rfl dX7_removePunch_60 ?_
    refine q_iload_n (pc := 63) hX 1 rfl rfl dX7_removePunch_63 ?_
    refine q_dup2 (pc := 64) hX rfl rfl dX7_removePunch_64 ?_
    obtain ⟨v8, hv8, hE⟩ := ob_bind hE
    refine r_iald (pc := 65) (id := 5) (n := 6) hX (lt46 (by decide)) (fun _ _ => rfl) hv8 dX7_removePunch_65 ?_
    refine q_iconst (pc := 66) hX (1) rfl dX7_removePunch_66 ?_
    refine q_isub (pc := 67) hX dX7_removePunch_67 ?_
    obtain ⟨M9, hM9, hE⟩ := ob_bind hE
    refine r_iast (pc := 68) (id := 5) (n := 6) hX (lt46 (by decide)) (fun _ _ => rfl) hM9 dX7_removePunch_68 ?_
    refine q_iload_n (pc := 69) hX 3 rfl rfl dX7_removePunch_69 ?_
    refine q_istore (pc := 70) (lo' := [(0, .ref (o 1)), (1, .int x1), (2, .int x2), (3, .int r6), (4, .int v7), (5, .int r6)]) hX [1, 2, 3, 4, 5, 0] (by decide) rfl dX7_removePunch_70 ?_
    obtain ⟨p18, hp18, hE⟩ := ob_bind hE
    refine q_lo [0, 1, 4, 5] rfl ?_
    refine l_X7_removePunch_72 hX hE0 FU _ _ p18 hp18 ?_
    refine q_iload (pc := 141) hX 2 rfl dX7_removePunch_141 ?_
    obtain ⟨v19, hv19, hE⟩ := ob_bind hE
    obtain ⟨hqv19, hbv19⟩ := bchk_ok hv19
    rw [hqv19]
    cases hE
    exact q_zret hX hbv19 hR (by decide) (by decide) dX7_removePunch_143
  · rw [if_neg c] at hE
    refine q_iconst (pc := 37) hX (0) rfl dX7_removePunch_37 ?_
    cases hE
    exact q_zret hX (Or.inl rfl) hR (by decide) (by decide) dX7_removePunch_38

set_option maxHeartbeats 4000000 in
theorem c_X7_puts {Y : Lx} {o : Nat → Nat} {hn : Nat} {M : Mem} {G : Mel} {x1 : Int32} {x2 : Int32} {x3 : Int32} {q4 : Nat} {q5 : Nat} {q6 : Nat} {rr : Int32} {Mr : Mem} (hq4 : arr q4 6) (hq5 : arr q5 120) (hq6 : arr q6 120) (hE : s_X7_puts M x1 x2 x3 q4 q5 q6 = some (rr, Mr)) : MI Y yX7_puts cX7_puts 7 (some .int) 2 43 0 0 [.ref (o 1), .int x1, .int x2, .int x3, .ref (o q4), .ref (o q5), .ref (o q6)] o hn M G (.inl (some (.int rr))) Mr G := by
  refine MI.of (by decide +kernel) (Nat.le_of_ble_eq_true rfl) (fun X hY hX hE0 hR => ?_)
  change CxOK X RX7 cX7_puts 7 2 43 0 0 (some .int) at hX
  show WM X o hn M G 0 0 0 7 [(0, .ref (o 1)), (1, .int x1), (2, .int x2), (3, .int x3), (4, .ref (o q4)), (5, .ref (o q5)), (6, .ref (o q6))] []
  unfold s_X7_puts at hE
  refine q_aload_n (pc := 0) hX 0 rfl rfl dX7_puts_0 ?_
  refine q_aload_n (pc := 1) hX 0 rfl rfl dX7_puts_1 ?_
  refine q_iload_n (pc := 2) hX 1 rfl rfl dX7_puts_2 ?_
  obtain ⟨r1, hr1, hE⟩ := ob_bind hE
  refine q_callV (pc := 3) (id := 1) (As := [.int x1]) (rest := [.ref (o 1)]) (rv := some (.int r1)) (st' := [.int r1, .ref (o 1)]) hX (c_X7_isOne hr1) (vl_X7_102) (lt46 (by decide)) rfl rfl rfl pd_yX7_isOne rfl ⟨by decide, by decide⟩ ⟨by decide, by decide⟩ rfl (Nat.le_of_ble_eq_true rfl) rfl dX7_puts_3 ?_
  obtain ⟨p5, hp5, hE⟩ := ob_bind hE
  suffices Jp5 : WM X o hn M G 0 0 54 7 [(0, .ref (o 1)), (1, .int x1), (2, .int x2), (3, .int x3), (4, .ref (o q4)), (5, .ref (o q5)), (6, .ref (o q6))] [.int p5, .ref (o 1)] by
    refine q_if_ne (pc := 6) hX 13 (by decide) dX7_puts_6 (fun c => ?_) (fun c => ?_)
    · rw [if_neg c] at hp5
      refine q_iload_n (pc := 13) hX 2 rfl rfl dX7_puts_13 ?_
      refine q_iconst (pc := 14) hX (0) rfl dX7_puts_14 ?_
      refine q_sipush (pc := 15) hX (10079) (by decide) dX7_puts_15 ?_
      obtain ⟨r3, hr3, hp5⟩ := ob_bind hp5
      refine q_callS (pc := 18) (As := [.int x2, .int 0, .int 10079]) (rest := [.ref (o 1)]) (rv := some (.int r3)) (st' := [.int r3, .ref (o 1)]) hX (c_X7_in hr3) (sl_X7_97) pd_yX7_in rfl ⟨by decide, by decide⟩ ⟨by decide, by decide⟩ rfl (Nat.le_of_ble_eq_true rfl) rfl dX7_puts_18 ?_
      refine q_if_eq (pc := 21) hX 36 (by decide) dX7_puts_21 (fun c => ?_) (fun c => ?_)
      · rw [if_pos c] at hp5
        refine q_iconst (pc := 36) hX (2) rfl dX7_puts_36 ?_
        refine q_goto (pc := 37) hX 54 (by decide) dX7_puts_37 ?_
        cases hp5
        exact Jp5
      · rw [if_neg c] at hp5
        refine q_iload_n (pc := 24) hX 3 rfl rfl dX7_puts_24 ?_
        refine q_iload_n (pc := 25) hX 2 rfl rfl dX7_puts_25 ?_
        refine q_icmp_le (pc := 26) hX 36 (by decide) dX7_puts_26 (fun c => ?_) (fun c => ?_)
        · rw [if_pos c] at hp5
          refine q_iconst (pc := 36) hX (2) rfl dX7_puts_36 ?_
          refine q_goto (pc := 37) hX 54 (by decide) dX7_puts_37 ?_
          cases hp5
          exact Jp5
        · rw [if_neg c] at hp5
          refine q_iload_n (pc := 29) hX 3 rfl rfl dX7_puts_29 ?_
          refine q_sipush (pc := 30) hX (10080) (by decide) dX7_puts_30 ?_
          refine q_icmp_le (pc := 33) hX 40 (by decide) dX7_puts_33 (fun c => ?_) (fun c => ?_)
          · rw [if_pos c] at hp5
            refine q_aload (pc := 40) hX 4 rfl dX7_puts_40 ?_
            refine q_iload_n (pc := 42) hX 1 rfl rfl dX7_puts_42 ?_
            obtain ⟨v4, hv4, hp5⟩ := ob_bind hp5
            refine r_iald (pc := 43) (id := q4) (n := 6) hX (lt46 hq4.1) (fun f g => hq4.2 _ _ _ f g) hv4 dX7_puts_43 ?_
            refine q_bipush (pc := 44) hX (20) (by decide) dX7_puts_44 ?_
            refine q_icmp_ne (pc := 46) hX 53 (by decide) dX7_puts_46 (fun c => ?_) (fun c => ?_)
            · rw [if_neg c] at hp5
              refine q_iconst (pc := 53) hX (0) rfl dX7_puts_53 ?_
              cases hp5
              exact Jp5
            · rw [if_pos c] at hp5
              refine q_iconst (pc := 49) hX (3) rfl dX7_puts_49 ?_
              refine q_goto (pc := 50) hX 54 (by decide) dX7_puts_50 ?_
              cases hp5
              exact Jp5
          · rw [if_neg c] at hp5
            refine q_iconst (pc := 36) hX (2) rfl dX7_puts_36 ?_
            refine q_goto (pc := 37) hX 54 (by decide) dX7_puts_37 ?_
            cases hp5
            exact Jp5
    · rw [if_pos c] at hp5
      refine q_iconst (pc := 9) hX (1) rfl dX7_puts_9 ?_
      refine q_goto (pc := 10) hX 54 (by decide) dX7_puts_10 ?_
      cases hp5
      exact Jp5
  obtain ⟨M6, hM6⟩ : ∃ z : Mem, z = mst M 1 0 p5 := ⟨_, rfl⟩
  have hE := bnd_nm hM6 hE
  refine pu_M_thrown (pc := 54) hX hM6 (Or.inl kw_106) dX7_puts_54 ?_
  refine q_aload_n (pc := 57) hX 0 rfl rfl dX7_puts_57 ?_
  refine q_get (pc := 58) (id := 1) (ci := 7) (N := 34) (T := TX7) (C := RX7) hX 0 (lt46 (by decide)) rfl rfl in_X7 (by decide) (Or.inl kw_106) rfl dX7_puts_58 ?_
  refine q_if_le (pc := 61) hX 66 (by decide) dX7_puts_61 (fun c => ?_) (fun c => ?_)
  · rw [if_pos c] at hE
    refine q_aload (pc := 66) hX 5 rfl dX7_puts_66 ?_
    refine q_bipush (pc := 68) hX (20) (by decide) dX7_puts_68 ?_
    refine q_iload_n (pc := 70) hX 1 rfl rfl dX7_puts_70 ?_
    refine q_imul (pc := 71) hX dX7_puts_71 ?_
    refine q_aload (pc := 72) hX 4 rfl dX7_puts_72 ?_
    refine q_iload_n (pc := 74) hX 1 rfl rfl dX7_puts_74 ?_
    obtain ⟨v7, hv7, hE⟩ := ob_bind hE
    refine r_iald (pc := 75) (id := q4) (n := 6) hX (lt46 hq4.1) (fun f g => hq4.2 _ _ _ f g) hv7 dX7_puts_75 ?_
    refine q_iadd (pc := 76) hX dX7_puts_76 ?_
    refine q_iload_n (pc := 77) hX 2 rfl rfl dX7_puts_77 ?_
    obtain ⟨M8, hM8, hE⟩ := ob_bind hE
    refine r_iast (pc := 78) (id := q5) (n := 120) hX (lt46 hq5.1) (fun f g => hq5.2 _ _ _ f g) hM8 dX7_puts_78 ?_
    refine q_aload (pc := 79) hX 6 rfl dX7_puts_79 ?_
    refine q_bipush (pc := 81) hX (20) (by decide) dX7_puts_81 ?_
    refine q_iload_n (pc := 83) hX 1 rfl rfl dX7_puts_83 ?_
    refine q_imul (pc := 84) hX dX7_puts_84 ?_
    refine q_aload (pc := 85) hX 4 rfl dX7_puts_85 ?_
    refine q_iload_n (pc := 87) hX 1 rfl rfl dX7_puts_87 ?_
    obtain ⟨v9, hv9, hE⟩ := ob_bind hE
    refine r_iald (pc := 88) (id := q4) (n := 6) hX (lt46 hq4.1) (fun f g => hq4.2 _ _ _ f g) hv9 dX7_puts_88 ?_
    refine q_iadd (pc := 89) hX dX7_puts_89 ?_
    refine q_iload_n (pc := 90) hX 3 rfl rfl dX7_puts_90 ?_
    obtain ⟨M10, hM10, hE⟩ := ob_bind hE
    refine r_iast (pc := 91) (id := q6) (n := 120) hX (lt46 hq6.1) (fun f g => hq6.2 _ _ _ f g) hM10 dX7_puts_91 ?_
    refine q_aload (pc := 92) hX 4 rfl dX7_puts_92 ?_
    refine q_iload_n (pc := 94) hX 1 rfl rfl dX7_puts_94 ?_
    refine q_dup2 (pc := 95) hX rfl rfl dX7_puts_95 ?_
    obtain ⟨v11, hv11, hE⟩ := ob_bind hE
    refine r_iald (pc := 96) (id := q4) (n := 6) hX (lt46 hq4.1) (fun f g => hq4.2 _ _ _ f g) hv11 dX7_puts_96 ?_
    refine q_iconst (pc := 97) hX (1) rfl dX7_puts_97 ?_
    refine q_iadd (pc := 98) hX dX7_puts_98 ?_
    obtain ⟨M12, hM12, hE⟩ := ob_bind hE
    refine r_iast (pc := 99) (id := q4) (n := 6) hX (lt46 hq4.1) (fun f g => hq4.2 _ _ _ f g) hM12 dX7_puts_99 ?_
    refine q_aload (pc := 100) hX 4 rfl dX7_puts_100 ?_
    refine q_iload_n (pc := 102) hX 1 rfl rfl dX7_puts_102 ?_
    obtain ⟨v13, hv13, hE⟩ := ob_bind hE
    refine r_iald (pc := 103) (id := q4) (n := 6) hX (lt46 hq4.1) (fun f g => hq4.2 _ _ _ f g) hv13 dX7_puts_103 ?_
    refine q_iconst (pc := 104) hX (1) rfl dX7_puts_104 ?_
    refine q_isub (pc := 105) hX dX7_puts_105 ?_
    cases hE
    exact q_iret hX hR (by decide) (by decide) dX7_puts_106
  · rw [if_neg c] at hE
    refine q_iconst (pc := 64) hX (0) rfl dX7_puts_64 ?_
    cases hE
    exact q_iret hX hR (by decide) (by decide) dX7_puts_65

set_option maxHeartbeats 4000000 in
theorem c_X7_enter {Y : Lx} {o : Nat → Nat} {hn : Nat} {M : Mem} {G : Mel} {x1 : Int32} {x2 : Int32} {x3 : Int32} {rr : Int32} {Mr : Mem} (hE : s_X7_enter M x1 x2 x3 = some (rr, Mr)) : MI Y yX7_enter cX7_enter 4 (some .int) 3 69 0 0 [.ref (o 1), .int x1, .int x2, .int x3] o hn M G (.inl (some (.int rr))) Mr G := by
  refine MI.of (by decide +kernel) (Nat.le_of_ble_eq_true rfl) (fun X hY hX hE0 hR => ?_)
  change CxOK X RX7 cX7_enter 4 3 69 0 0 (some .int) at hX
  show WM X o hn M G 0 0 0 4 [(0, .ref (o 1)), (1, .int x1), (2, .int x2), (3, .int x3)] []
  unfold s_X7_enter at hE
  refine q_aload_n (pc := 0) hX 0 rfl rfl dX7_enter_0 ?_
  refine q_iload_n (pc := 1) hX 1 rfl rfl dX7_enter_1 ?_
  refine q_iload_n (pc := 2) hX 2 rfl rfl dX7_enter_2 ?_
  refine q_iload_n (pc := 3) hX 3 rfl rfl dX7_enter_3 ?_
  refine q_aload_n (pc := 4) hX 0 rfl rfl dX7_enter_4 ?_
  refine q_get (pc := 5) (id := 1) (ci := 7) (N := 34) (T := TX7) (C := RX7) hX 8 (lt46 (by decide)) rfl rfl in_X7 (by decide) (Or.inl kw_86) rfl dX7_enter_5 ?_
  refine q_aload_n (pc := 8) hX 0 rfl rfl dX7_enter_8 ?_
  refine q_get (pc := 9) (id := 1) (ci := 7) (N := 34) (T := TX7) (C := RX7) hX 9 (lt46 (by decide)) rfl rfl in_X7 (by decide) (Or.inl kw_87) rfl dX7_enter_9 ?_
  refine q_aload_n (pc := 12) hX 0 rfl rfl dX7_enter_12 ?_
  refine q_get (pc := 13) (id := 1) (ci := 7) (N := 34) (T := TX7) (C := RX7) hX 10 (lt46 (by decide)) rfl rfl in_X7 (by decide) (Or.inl kw_88) rfl dX7_enter_13 ?_
  obtain ⟨r1, hr1, hE⟩ := ob_bind hE
  refine q_callV (pc := 16) (id := 1) (As := [.int x1, .int x2, .int x3, .ref (o 8), .ref (o 9), .ref (o 10)]) (rest := []) (rv := some (.int r1.1)) (st' := [.int r1.1]) hX (c_X7_puts (arr_8) (arr_9) (arr_10) hr1) (vl_X7_114) (lt46 (by decide)) rfl rfl rfl pd_yX7_puts rfl ⟨by decide, by decide⟩ ⟨by decide, by decide⟩ rfl (Nat.le_of_ble_eq_true rfl) rfl dX7_enter_16 ?_
  cases hE
  exact q_iret hX hR (by decide) (by decide) dX7_enter_19

set_option maxHeartbeats 4000000 in
theorem l_X7_takes_54 {X : Cx} (hX : CxOK X RX7 cX7_takes 7 2 43 0 0 (some .int)) (hE0 : CxE X []) {o : Nat → Nat} {hn : Nat} {x1 : Int32} {q3 : Nat} {q4 : Nat} {q5 : Nat} {G : Mel} (hq3 : arr q3 6) (hq4 : arr q4 120) (hq5 : arr q5 120) : ∀ (f : Nat) (y10 : Int32) (M11 : Mem) (p18 : Int32 × Mem), L_X7_takes_54 x1 q3 q4 q5 f y10 M11 = some p18 → WM X o hn p18.2 G 0 0 97 7 [(1, .int x1), (3, .ref (o q3)), (4, .ref (o q4)), (5, .ref (o q5)), (6, .int p18.1)] [] → WM X o hn M11 G 0 0 54 7 [(1, .int x1), (3, .ref (o q3)), (4, .ref (o q4)), (5, .ref (o q5)), (6, .int y10)] [] := by
  intro f
  induction f with
  | zero => intro y10 M11 p18 hE; simp [L_X7_takes_54] at hE
  | succ f ih =>
    intro y10 M11 p18 hE hx
    rw [L_X7_takes_54] at hE
    refine q_iload (pc := 54) hX 4 rfl dX7_takes_54 ?_
    refine q_bipush (pc := 56) hX (20) (by decide) dX7_takes_56 ?_
    refine q_iload_n (pc := 58) hX 0 rfl rfl dX7_takes_58 ?_
    refine q_imul (pc := 59) hX dX7_takes_59 ?_
    refine q_aload_n (pc := 60) hX 1 rfl rfl dX7_takes_60 ?_
    refine q_iload_n (pc := 61) hX 0 rfl rfl dX7_takes_61 ?_
    obtain ⟨v12, hv12, hE⟩ := ob_bind hE
    refine r_iald (pc := 62) (id := q3) (n := 6) hX (lt46 hq3.1) (fun f g => hq3.2 _ _ _ f g) hv12 dX7_takes_62 ?_
    refine q_iadd (pc := 63) hX dX7_takes_63 ?_
    refine q_icmp_ge (pc := 64) hX 97 (by decide) dX7_takes_64 (fun c => ?_) (fun c => ?_)
    · rw [if_pos c] at hE
      cases hE
      exact hx
    · rw [if_neg c] at hE
      refine q_aload (pc := 67) hX 2 rfl dX7_takes_67 ?_
      refine q_iload (pc := 69) hX 4 rfl dX7_takes_69 ?_
      refine q_aload (pc := 71) hX 2 rfl dX7_takes_71 ?_
      refine q_iload (pc := 73) hX 4 rfl dX7_takes_73 ?_
      refine q_iconst (pc := 75) hX (1) rfl dX7_takes_75 ?_
      refine q_iadd (pc := 76) hX dX7_takes_76 ?_
      obtain ⟨v13, hv13, hE⟩ := ob_bind hE
      refine r_iald (pc := 77) (id := q4) (n := 120) hX (lt46 hq4.1) (fun f g => hq4.2 _ _ _ f g) hv13 dX7_takes_77 ?_
      obtain ⟨M14, hM14, hE⟩ := ob_bind hE
      refine r_iast (pc := 78) (id := q4) (n := 120) hX (lt46 hq4.1) (fun f g => hq4.2 _ _ _ f g) hM14 dX7_takes_78 ?_
      refine q_aload (pc := 79) hX 3 rfl dX7_takes_79 ?_
      refine q_iload (pc := 81) hX 4 rfl dX7_takes_81 ?_
      refine q_aload (pc := 83) hX 3 rfl dX7_takes_83 ?_
      refine q_iload (pc := 85) hX 4 rfl dX7_takes_85 ?_
      refine q_iconst (pc := 87) hX (1) rfl dX7_takes_87 ?_
      refine q_iadd (pc := 88) hX dX7_takes_88 ?_
      obtain ⟨v15, hv15, hE⟩ := ob_bind hE
      refine r_iald (pc := 89) (id := q5) (n := 120) hX (lt46 hq5.1) (fun f g => hq5.2 _ _ _ f g) hv15 dX7_takes_89 ?_
      obtain ⟨M16, hM16, hE⟩ := ob_bind hE
      refine r_iast (pc := 90) (id := q5) (n := 120) hX (lt46 hq5.1) (fun f g => hq5.2 _ _ _ f g) hM16 dX7_takes_90 ?_
      obtain ⟨z17, hz17⟩ : ∃ z : Int32, z = y10 + 1 := ⟨_, rfl⟩
      have hE := bnd_nm hz17 hE
      refine q_iinc (pc := 91) (lo' := [(1, .int x1), (3, .ref (o q3)), (4, .ref (o q4)), (5, .ref (o q5)), (6, .int z17)]) hX 4 z17 [1, 2, 3, 4, 0] rfl (by rw [hz17]; rfl) (by decide) rfl dX7_takes_91 ?_
      refine q_goto (pc := 94) hX 54 (by decide) dX7_takes_94 ?_
      exact ih _ _ p18 hE hx

set_option maxHeartbeats 4000000 in
theorem c_X7_takes {Y : Lx} {o : Nat → Nat} {hn : Nat} {M : Mem} {G : Mel} {x1 : Int32} {x2 : Int32} {q3 : Nat} {q4 : Nat} {q5 : Nat} {rr : Int32} {Mr : Mem} (hq3 : arr q3 6) (hq4 : arr q4 120) (hq5 : arr q5 120) (hE : s_X7_takes M x1 x2 q3 q4 q5 = some (rr, Mr)) : MI Y yX7_takes cX7_takes 7 (some .int) 2 43 0 0 [.ref (o 1), .int x1, .int x2, .ref (o q3), .ref (o q4), .ref (o q5)] o hn M G (.inl (some (.int rr))) Mr G := by
  refine MI.of (by decide +kernel) (Nat.le_of_ble_eq_true rfl) (fun X hY hX hE0 hR => ?_)
  change CxOK X RX7 cX7_takes 7 2 43 0 0 (some .int) at hX
  show WM X o hn M G 0 0 0 7 [(0, .ref (o 1)), (1, .int x1), (2, .int x2), (3, .ref (o q3)), (4, .ref (o q4)), (5, .ref (o q5))] []
  unfold s_X7_takes at hE
  refine q_aload_n (pc := 0) hX 0 rfl rfl dX7_takes_0 ?_
  refine q_aload_n (pc := 1) hX 0 rfl rfl dX7_takes_1 ?_
  refine q_iload_n (pc := 2) hX 1 rfl rfl dX7_takes_2 ?_
  obtain ⟨r1, hr1, hE⟩ := ob_bind hE
  refine q_callV (pc := 3) (id := 1) (As := [.int x1]) (rest := [.ref (o 1)]) (rv := some (.int r1)) (st' := [.int r1, .ref (o 1)]) hX (c_X7_isOne hr1) (vl_X7_102) (lt46 (by decide)) rfl rfl rfl pd_yX7_isOne rfl ⟨by decide, by decide⟩ ⟨by decide, by decide⟩ rfl (Nat.le_of_ble_eq_true rfl) rfl dX7_takes_3 ?_
  obtain ⟨p5, hp5, hE⟩ := ob_bind hE
  suffices Jp5 : WM X o hn M G 0 0 27 7 [(0, .ref (o 1)), (1, .int x1), (2, .int x2), (3, .ref (o q3)), (4, .ref (o q4)), (5, .ref (o q5))] [.int p5, .ref (o 1)] by
    refine q_if_eq (pc := 6) hX 26 (by decide) dX7_takes_6 (fun c => ?_) (fun c => ?_)
    · rw [if_pos c] at hp5
      refine q_iconst (pc := 26) hX (1) rfl dX7_takes_26 ?_
      cases hp5
      exact Jp5
    · rw [if_neg c] at hp5
      refine q_iload_n (pc := 9) hX 2 rfl rfl dX7_takes_9 ?_
      refine q_iconst (pc := 10) hX (0) rfl dX7_takes_10 ?_
      refine q_aload_n (pc := 11) hX 3 rfl rfl dX7_takes_11 ?_
      refine q_iload_n (pc := 12) hX 1 rfl rfl dX7_takes_12 ?_
      obtain ⟨v3, hv3, hp5⟩ := ob_bind hp5
      refine r_iald (pc := 13) (id := q3) (n := 6) hX (lt46 hq3.1) (fun f g => hq3.2 _ _ _ f g) hv3 dX7_takes_13 ?_
      refine q_iconst (pc := 14) hX (1) rfl dX7_takes_14 ?_
      refine q_isub (pc := 15) hX dX7_takes_15 ?_
      obtain ⟨r4, hr4, hp5⟩ := ob_bind hp5
      refine q_callS (pc := 16) (As := [.int x2, .int 0, .int (v3 - 1)]) (rest := [.ref (o 1)]) (rv := some (.int r4)) (st' := [.int r4, .ref (o 1)]) hX (c_X7_in hr4) (sl_X7_97) pd_yX7_in rfl ⟨by decide, by decide⟩ ⟨by decide, by decide⟩ rfl (Nat.le_of_ble_eq_true rfl) rfl dX7_takes_16 ?_
      refine q_if_eq (pc := 19) hX 26 (by decide) dX7_takes_19 (fun c => ?_) (fun c => ?_)
      · rw [if_pos c] at hp5
        refine q_iconst (pc := 26) hX (1) rfl dX7_takes_26 ?_
        cases hp5
        exact Jp5
      · rw [if_neg c] at hp5
        refine q_iconst (pc := 22) hX (0) rfl dX7_takes_22 ?_
        refine q_goto (pc := 23) hX 27 (by decide) dX7_takes_23 ?_
        cases hp5
        exact Jp5
  obtain ⟨M6, hM6⟩ : ∃ z : Mem, z = mst M 1 0 p5 := ⟨_, rfl⟩
  have hE := bnd_nm hM6 hE
  refine pu_M_thrown (pc := 27) hX hM6 (Or.inl kw_106) dX7_takes_27 ?_
  refine q_aload_n (pc := 30) hX 0 rfl rfl dX7_takes_30 ?_
  refine q_get (pc := 31) (id := 1) (ci := 7) (N := 34) (T := TX7) (C := RX7) hX 0 (lt46 (by decide)) rfl rfl in_X7 (by decide) (Or.inl kw_106) rfl dX7_takes_31 ?_
  refine q_if_le (pc := 34) hX 39 (by decide) dX7_takes_34 (fun c => ?_) (fun c => ?_)
  · rw [if_pos c] at hE
    refine q_aload_n (pc := 39) hX 3 rfl rfl dX7_takes_39 ?_
    refine q_iload_n (pc := 40) hX 1 rfl rfl dX7_takes_40 ?_
    refine q_dup2 (pc := 41) hX rfl rfl dX7_takes_41 ?_
    obtain ⟨v7, hv7, hE⟩ := ob_bind hE
    refine r_iald (pc := 42) (id := q3) (n := 6) hX (lt46 hq3.1) (fun f g => hq3.2 _ _ _ f g) hv7 dX7_takes_42 ?_
    refine q_iconst (pc := 43) hX (1) rfl dX7_takes_43 ?_
    refine q_isub (pc := 44) hX dX7_takes_44 ?_
    obtain ⟨M8, hM8, hE⟩ := ob_bind hE
    refine r_iast (pc := 45) (id := q3) (n := 6) hX (lt46 hq3.1) (fun f g => hq3.2 _ _ _ f g) hM8 dX7_takes_45 ?_
    refine q_bipush (pc := 46) hX (20) (by decide) dX7_takes_46 ?_
    refine q_iload_n (pc := 48) hX 1 rfl rfl dX7_takes_48 ?_
    refine q_imul (pc := 49) hX dX7_takes_49 ?_
    refine q_iload_n (pc := 50) hX 2 rfl rfl dX7_takes_50 ?_
    refine q_iadd (pc := 51) hX dX7_takes_51 ?_
    refine q_nm (fun z9 hz9 => ?_)
    have hE := bnd_nm hz9 hE
    refine q_istore (pc := 52) (lo' := [(0, .ref (o 1)), (1, .int x1), (2, .int x2), (3, .ref (o q3)), (4, .ref (o q4)), (5, .ref (o q5)), (6, .int z9)]) hX [1, 2, 3, 4, 5, 6, 0] (by decide) rfl dX7_takes_52 ?_
    obtain ⟨p18, hp18, hE⟩ := ob_bind hE
    refine q_lo [1, 3, 4, 5, 6] rfl ?_
    refine l_X7_takes_54 hX hE0 hq3 hq4 hq5 FU _ _ p18 hp18 ?_
    refine q_aload_n (pc := 97) hX 1 rfl rfl dX7_takes_97 ?_
    refine q_iload_n (pc := 98) hX 0 rfl rfl dX7_takes_98 ?_
    obtain ⟨v19, hv19, hE⟩ := ob_bind hE
    refine r_iald (pc := 99) (id := q3) (n := 6) hX (lt46 hq3.1) (fun f g => hq3.2 _ _ _ f g) hv19 dX7_takes_99 ?_
    cases hE
    exact q_iret hX hR (by decide) (by decide) dX7_takes_100
  · rw [if_neg c] at hE
    refine q_iconst (pc := 37) hX (0) rfl dX7_takes_37 ?_
    cases hE
    exact q_iret hX hR (by decide) (by decide) dX7_takes_38

set_option maxHeartbeats 4000000 in
theorem c_X7_removeEntry {Y : Lx} {o : Nat → Nat} {hn : Nat} {M : Mem} {G : Mel} {x1 : Int32} {x2 : Int32} {rr : Int32} {Mr : Mem} (hE : s_X7_removeEntry M x1 x2 = some (rr, Mr)) : MI Y yX7_removeEntry cX7_removeEntry 3 (some .int) 3 69 0 0 [.ref (o 1), .int x1, .int x2] o hn M G (.inl (some (.int rr))) Mr G := by
  refine MI.of (by decide +kernel) (Nat.le_of_ble_eq_true rfl) (fun X hY hX hE0 hR => ?_)
  change CxOK X RX7 cX7_removeEntry 3 3 69 0 0 (some .int) at hX
  show WM X o hn M G 0 0 0 3 [(0, .ref (o 1)), (1, .int x1), (2, .int x2)] []
  unfold s_X7_removeEntry at hE
  refine q_aload_n (pc := 0) hX 0 rfl rfl dX7_removeEntry_0 ?_
  refine q_iload_n (pc := 1) hX 1 rfl rfl dX7_removeEntry_1 ?_
  refine q_iload_n (pc := 2) hX 2 rfl rfl dX7_removeEntry_2 ?_
  refine q_aload_n (pc := 3) hX 0 rfl rfl dX7_removeEntry_3 ?_
  refine q_get (pc := 4) (id := 1) (ci := 7) (N := 34) (T := TX7) (C := RX7) hX 8 (lt46 (by decide)) rfl rfl in_X7 (by decide) (Or.inl kw_86) rfl dX7_removeEntry_4 ?_
  refine q_aload_n (pc := 7) hX 0 rfl rfl dX7_removeEntry_7 ?_
  refine q_get (pc := 8) (id := 1) (ci := 7) (N := 34) (T := TX7) (C := RX7) hX 9 (lt46 (by decide)) rfl rfl in_X7 (by decide) (Or.inl kw_87) rfl dX7_removeEntry_8 ?_
  refine q_aload_n (pc := 11) hX 0 rfl rfl dX7_removeEntry_11 ?_
  refine q_get (pc := 12) (id := 1) (ci := 7) (N := 34) (T := TX7) (C := RX7) hX 10 (lt46 (by decide)) rfl rfl in_X7 (by decide) (Or.inl kw_88) rfl dX7_removeEntry_12 ?_
  obtain ⟨r1, hr1, hE⟩ := ob_bind hE
  refine q_callV (pc := 15) (id := 1) (As := [.int x1, .int x2, .ref (o 8), .ref (o 9), .ref (o 10)]) (rest := []) (rv := some (.int r1.1)) (st' := [.int r1.1]) hX (c_X7_takes (arr_8) (arr_9) (arr_10) hr1) (vl_X7_118) (lt46 (by decide)) rfl rfl rfl pd_yX7_takes rfl ⟨by decide, by decide⟩ ⟨by decide, by decide⟩ rfl (Nat.le_of_ble_eq_true rfl) rfl dX7_removeEntry_15 ?_
  cases hE
  exact q_iret hX hR (by decide) (by decide) dX7_removeEntry_18

set_option maxHeartbeats 4000000 in
theorem c_X7_enterBreak {Y : Lx} {o : Nat → Nat} {hn : Nat} {M : Mem} {G : Mel} {x1 : Int32} {x2 : Int32} {x3 : Int32} {rr : Int32} {Mr : Mem} (hE : s_X7_enterBreak M x1 x2 x3 = some (rr, Mr)) : MI Y yX7_enterBreak cX7_enterBreak 4 (some .int) 3 69 0 0 [.ref (o 1), .int x1, .int x2, .int x3] o hn M G (.inl (some (.int rr))) Mr G := by
  refine MI.of (by decide +kernel) (Nat.le_of_ble_eq_true rfl) (fun X hY hX hE0 hR => ?_)
  change CxOK X RX7 cX7_enterBreak 4 3 69 0 0 (some .int) at hX
  show WM X o hn M G 0 0 0 4 [(0, .ref (o 1)), (1, .int x1), (2, .int x2), (3, .int x3)] []
  unfold s_X7_enterBreak at hE
  refine q_aload_n (pc := 0) hX 0 rfl rfl dX7_enterBreak_0 ?_
  refine q_iload_n (pc := 1) hX 1 rfl rfl dX7_enterBreak_1 ?_
  refine q_iload_n (pc := 2) hX 2 rfl rfl dX7_enterBreak_2 ?_
  refine q_iload_n (pc := 3) hX 3 rfl rfl dX7_enterBreak_3 ?_
  refine q_aload_n (pc := 4) hX 0 rfl rfl dX7_enterBreak_4 ?_
  refine q_get (pc := 5) (id := 1) (ci := 7) (N := 34) (T := TX7) (C := RX7) hX 11 (lt46 (by decide)) rfl rfl in_X7 (by decide) (Or.inl kw_89) rfl dX7_enterBreak_5 ?_
  refine q_aload_n (pc := 8) hX 0 rfl rfl dX7_enterBreak_8 ?_
  refine q_get (pc := 9) (id := 1) (ci := 7) (N := 34) (T := TX7) (C := RX7) hX 12 (lt46 (by decide)) rfl rfl in_X7 (by decide) (Or.inl kw_90) rfl dX7_enterBreak_9 ?_
  refine q_aload_n (pc := 12) hX 0 rfl rfl dX7_enterBreak_12 ?_
  refine q_get (pc := 13) (id := 1) (ci := 7) (N := 34) (T := TX7) (C := RX7) hX 13 (lt46 (by decide)) rfl rfl in_X7 (by decide) (Or.inl kw_91) rfl dX7_enterBreak_13 ?_
  obtain ⟨r1, hr1, hE⟩ := ob_bind hE
  refine q_callV (pc := 16) (id := 1) (As := [.int x1, .int x2, .int x3, .ref (o 11), .ref (o 12), .ref (o 13)]) (rest := []) (rv := some (.int r1.1)) (st' := [.int r1.1]) hX (c_X7_puts (arr_11) (arr_12) (arr_13) hr1) (vl_X7_114) (lt46 (by decide)) rfl rfl rfl pd_yX7_puts rfl ⟨by decide, by decide⟩ ⟨by decide, by decide⟩ rfl (Nat.le_of_ble_eq_true rfl) rfl dX7_enterBreak_16 ?_
  cases hE
  exact q_iret hX hR (by decide) (by decide) dX7_enterBreak_19

set_option maxHeartbeats 4000000 in
theorem c_X7_removeBreak {Y : Lx} {o : Nat → Nat} {hn : Nat} {M : Mem} {G : Mel} {x1 : Int32} {x2 : Int32} {rr : Int32} {Mr : Mem} (hE : s_X7_removeBreak M x1 x2 = some (rr, Mr)) : MI Y yX7_removeBreak cX7_removeBreak 3 (some .int) 3 69 0 0 [.ref (o 1), .int x1, .int x2] o hn M G (.inl (some (.int rr))) Mr G := by
  refine MI.of (by decide +kernel) (Nat.le_of_ble_eq_true rfl) (fun X hY hX hE0 hR => ?_)
  change CxOK X RX7 cX7_removeBreak 3 3 69 0 0 (some .int) at hX
  show WM X o hn M G 0 0 0 3 [(0, .ref (o 1)), (1, .int x1), (2, .int x2)] []
  unfold s_X7_removeBreak at hE
  refine q_aload_n (pc := 0) hX 0 rfl rfl dX7_removeBreak_0 ?_
  refine q_iload_n (pc := 1) hX 1 rfl rfl dX7_removeBreak_1 ?_
  refine q_iload_n (pc := 2) hX 2 rfl rfl dX7_removeBreak_2 ?_
  refine q_aload_n (pc := 3) hX 0 rfl rfl dX7_removeBreak_3 ?_
  refine q_get (pc := 4) (id := 1) (ci := 7) (N := 34) (T := TX7) (C := RX7) hX 11 (lt46 (by decide)) rfl rfl in_X7 (by decide) (Or.inl kw_89) rfl dX7_removeBreak_4 ?_
  refine q_aload_n (pc := 7) hX 0 rfl rfl dX7_removeBreak_7 ?_
  refine q_get (pc := 8) (id := 1) (ci := 7) (N := 34) (T := TX7) (C := RX7) hX 12 (lt46 (by decide)) rfl rfl in_X7 (by decide) (Or.inl kw_90) rfl dX7_removeBreak_8 ?_
  refine q_aload_n (pc := 11) hX 0 rfl rfl dX7_removeBreak_11 ?_
  refine q_get (pc := 12) (id := 1) (ci := 7) (N := 34) (T := TX7) (C := RX7) hX 13 (lt46 (by decide)) rfl rfl in_X7 (by decide) (Or.inl kw_91) rfl dX7_removeBreak_12 ?_
  obtain ⟨r1, hr1, hE⟩ := ob_bind hE
  refine q_callV (pc := 15) (id := 1) (As := [.int x1, .int x2, .ref (o 11), .ref (o 12), .ref (o 13)]) (rest := []) (rv := some (.int r1.1)) (st' := [.int r1.1]) hX (c_X7_takes (arr_11) (arr_12) (arr_13) hr1) (vl_X7_118) (lt46 (by decide)) rfl rfl rfl pd_yX7_takes rfl ⟨by decide, by decide⟩ ⟨by decide, by decide⟩ rfl (Nat.le_of_ble_eq_true rfl) rfl dX7_removeBreak_15 ?_
  cases hE
  exact q_iret hX hR (by decide) (by decide) dX7_removeBreak_18

set_option maxHeartbeats 4000000 in
theorem c_X7_addPremium {Y : Lx} {o : Nat → Nat} {hn : Nat} {M : Mem} {G : Mel} {x1 : Int32} {x2 : Int32} {x3 : Int32} {x4 : Int32} {rr : Int32} {Mr : Mem} (hE : s_X7_addPremium M x1 x2 x3 x4 = some (rr, Mr)) : MI Y yX7_addPremium cX7_addPremium 6 (some .int) 1 22 0 0 [.ref (o 1), .int x1, .int x2, .int x3, .int x4] o hn M G (.inl (some (.int rr))) Mr G := by
  refine MI.of (by decide +kernel) (Nat.le_of_ble_eq_true rfl) (fun X hY hX hE0 hR => ?_)
  change CxOK X RX7 cX7_addPremium 6 1 22 0 0 (some .int) at hX
  show WM X o hn M G 0 0 0 6 [(0, .ref (o 1)), (1, .int x1), (2, .int x2), (3, .int x3), (4, .int x4)] []
  unfold s_X7_addPremium at hE
  refine q_iload_n (pc := 0) hX 1 rfl rfl dX7_addPremium_0 ?_
  refine q_iconst (pc := 1) hX (1) rfl dX7_addPremium_1 ?_
  refine q_bipush (pc := 2) hX (127) (by decide) dX7_addPremium_2 ?_
  obtain ⟨r1, hr1, hE⟩ := ob_bind hE
  refine q_callS (pc := 4) (As := [.int x1, .int 1, .int 127]) (rest := []) (rv := some (.int r1)) (st' := [.int r1]) hX (c_X7_in hr1) (sl_X7_97) pd_yX7_in rfl ⟨by decide, by decide⟩ ⟨by decide, by decide⟩ rfl (Nat.le_of_ble_eq_true rfl) rfl dX7_addPremium_4 ?_
  obtain ⟨p6, hp6, hE⟩ := ob_bind hE
  suffices Jp6 : WM X o hn M G 0 0 49 6 [(0, .ref (o 1)), (1, .int x1), (2, .int x2), (3, .int x3), (4, .int x4)] [.int p6] by
    refine q_if_eq (pc := 7) hX 48 (by decide) dX7_addPremium_7 (fun c => ?_) (fun c => ?_)
    · rw [if_pos c] at hp6
      refine q_iconst (pc := 48) hX (0) rfl dX7_addPremium_48 ?_
      cases hp6
      exact Jp6
    · rw [if_neg c] at hp6
      refine q_iload_n (pc := 10) hX 2 rfl rfl dX7_addPremium_10 ?_
      refine q_iconst (pc := 11) hX (0) rfl dX7_addPremium_11 ?_
      refine q_sipush (pc := 12) hX (1439) (by decide) dX7_addPremium_12 ?_
      obtain ⟨r3, hr3, hp6⟩ := ob_bind hp6
      refine q_callS (pc := 15) (As := [.int x2, .int 0, .int 1439]) (rest := []) (rv := some (.int r3)) (st' := [.int r3]) hX (c_X7_in hr3) (sl_X7_97) pd_yX7_in rfl ⟨by decide, by decide⟩ ⟨by decide, by decide⟩ rfl (Nat.le_of_ble_eq_true rfl) rfl dX7_addPremium_15 ?_
      refine q_if_eq (pc := 18) hX 48 (by decide) dX7_addPremium_18 (fun c => ?_) (fun c => ?_)
      · rw [if_pos c] at hp6
        refine q_iconst (pc := 48) hX (0) rfl dX7_addPremium_48 ?_
        cases hp6
        exact Jp6
      · rw [if_neg c] at hp6
        refine q_iload_n (pc := 21) hX 3 rfl rfl dX7_addPremium_21 ?_
        refine q_iconst (pc := 22) hX (0) rfl dX7_addPremium_22 ?_
        refine q_sipush (pc := 23) hX (1439) (by decide) dX7_addPremium_23 ?_
        obtain ⟨r4, hr4, hp6⟩ := ob_bind hp6
        refine q_callS (pc := 26) (As := [.int x3, .int 0, .int 1439]) (rest := []) (rv := some (.int r4)) (st' := [.int r4]) hX (c_X7_in hr4) (sl_X7_97) pd_yX7_in rfl ⟨by decide, by decide⟩ ⟨by decide, by decide⟩ rfl (Nat.le_of_ble_eq_true rfl) rfl dX7_addPremium_26 ?_
        refine q_if_eq (pc := 29) hX 48 (by decide) dX7_addPremium_29 (fun c => ?_) (fun c => ?_)
        · rw [if_pos c] at hp6
          refine q_iconst (pc := 48) hX (0) rfl dX7_addPremium_48 ?_
          cases hp6
          exact Jp6
        · rw [if_neg c] at hp6
          refine q_iload (pc := 32) hX 4 rfl dX7_addPremium_32 ?_
          refine q_iconst (pc := 34) hX (1) rfl dX7_addPremium_34 ?_
          refine q_sipush (pc := 35) hX (10000) (by decide) dX7_addPremium_35 ?_
          obtain ⟨r5, hr5, hp6⟩ := ob_bind hp6
          refine q_callS (pc := 38) (As := [.int x4, .int 1, .int 10000]) (rest := []) (rv := some (.int r5)) (st' := [.int r5]) hX (c_X7_in hr5) (sl_X7_97) pd_yX7_in rfl ⟨by decide, by decide⟩ ⟨by decide, by decide⟩ rfl (Nat.le_of_ble_eq_true rfl) rfl dX7_addPremium_38 ?_
          refine q_if_eq (pc := 41) hX 48 (by decide) dX7_addPremium_41 (fun c => ?_) (fun c => ?_)
          · rw [if_pos c] at hp6
            refine q_iconst (pc := 48) hX (0) rfl dX7_addPremium_48 ?_
            cases hp6
            exact Jp6
          · rw [if_neg c] at hp6
            refine q_iconst (pc := 44) hX (1) rfl dX7_addPremium_44 ?_
            refine q_goto (pc := 45) hX 49 (by decide) dX7_addPremium_45 ?_
            cases hp6
            exact Jp6
  refine q_istore (pc := 49) (lo' := [(0, .ref (o 1)), (1, .int x1), (2, .int x2), (3, .int x3), (4, .int x4), (5, .int p6)]) hX [1, 2, 3, 4, 5, 0] (by decide) rfl dX7_addPremium_49 ?_
  refine q_aload_n (pc := 51) hX 0 rfl rfl dX7_addPremium_51 ?_
  refine q_iload (pc := 52) hX 5 rfl dX7_addPremium_52 ?_
  obtain ⟨p8, hp8, hE⟩ := bnd_ob hE
  suffices Jp8 : WM X o hn M G 0 0 75 6 [(0, .ref (o 1)), (1, .int x1), (2, .int x2), (3, .int x3), (4, .int x4)] [.int p8, .ref (o 1)] by
    refine q_if_ne (pc := 54) hX 61 (by decide) dX7_addPremium_54 (fun c => ?_) (fun c => ?_)
    · rw [if_neg c] at hp8
      refine q_aload_n (pc := 61) hX 0 rfl rfl dX7_addPremium_61 ?_
      refine q_get (pc := 62) (id := 1) (ci := 7) (N := 34) (T := TX7) (C := RX7) hX 14 (lt46 (by decide)) rfl rfl in_X7 (by decide) (Or.inl kw_321) rfl dX7_addPremium_62 ?_
      refine q_bipush (pc := 65) hX (6) (by decide) dX7_addPremium_65 ?_
      refine q_icmp_ne (pc := 67) hX 74 (by decide) dX7_addPremium_67 (fun c => ?_) (fun c => ?_)
      · rw [if_neg c] at hp8
        refine q_iconst (pc := 74) hX (0) rfl dX7_addPremium_74 ?_
        refine q_lo [0, 1, 2, 3, 4] rfl ?_
        cases hp8
        exact Jp8
      · rw [if_pos c] at hp8
        refine q_iconst (pc := 70) hX (2) rfl dX7_addPremium_70 ?_
        refine q_goto (pc := 71) hX 75 (by decide) dX7_addPremium_71 ?_
        refine q_lo [0, 1, 2, 3, 4] rfl ?_
        cases hp8
        exact Jp8
    · rw [if_pos c] at hp8
      refine q_iconst (pc := 57) hX (1) rfl dX7_addPremium_57 ?_
      refine q_goto (pc := 58) hX 75 (by decide) dX7_addPremium_58 ?_
      refine q_lo [0, 1, 2, 3, 4] rfl ?_
      cases hp8
      exact Jp8
  obtain ⟨M9, hM9⟩ : ∃ z : Mem, z = mst M 1 0 p8 := ⟨_, rfl⟩
  have hE := bnd_nm hM9 hE
  refine pu_M_thrown (pc := 75) hX hM9 (Or.inl kw_106) dX7_addPremium_75 ?_
  refine q_aload_n (pc := 78) hX 0 rfl rfl dX7_addPremium_78 ?_
  refine q_get (pc := 79) (id := 1) (ci := 7) (N := 34) (T := TX7) (C := RX7) hX 0 (lt46 (by decide)) rfl rfl in_X7 (by decide) (Or.inl kw_106) rfl dX7_addPremium_79 ?_
  refine q_if_le (pc := 82) hX 87 (by decide) dX7_addPremium_82 (fun c => ?_) (fun c => ?_)
  · rw [if_pos c] at hE
    refine q_aload_n (pc := 87) hX 0 rfl rfl dX7_addPremium_87 ?_
    refine q_get (pc := 88) (id := 1) (ci := 7) (N := 34) (T := TX7) (C := RX7) hX 15 (lt46 (by decide)) rfl rfl in_X7 (by decide) (Or.inl kw_92) rfl dX7_addPremium_88 ?_
    refine q_aload_n (pc := 91) hX 0 rfl rfl dX7_addPremium_91 ?_
    refine q_get (pc := 92) (id := 1) (ci := 7) (N := 34) (T := TX7) (C := RX7) hX 14 (lt46 (by decide)) rfl rfl in_X7 (by decide) (Or.inl kw_321) rfl dX7_addPremium_92 ?_
    refine q_iload_n (pc := 95) hX 1 rfl rfl dX7_addPremium_95 ?_
    obtain ⟨M10, hM10, hE⟩ := ob_bind hE
    refine r_iast (pc := 96) (id := 14) (n := 6) hX (lt46 (by decide)) (fun _ _ => rfl) hM10 dX7_addPremium_96 ?_
    refine q_aload_n (pc := 97) hX 0 rfl rfl dX7_addPremium_97 ?_
    refine q_get (pc := 98) (id := 1) (ci := 7) (N := 34) (T := TX7) (C := RX7) hX 16 (lt46 (by decide)) rfl rfl in_X7 (by decide) (Or.inl kw_93) rfl dX7_addPremium_98 ?_
    refine q_aload_n (pc := 101) hX 0 rfl rfl dX7_addPremium_101 ?_
    refine q_get (pc := 102) (id := 1) (ci := 7) (N := 34) (T := TX7) (C := RX7) hX 14 (lt46 (by decide)) rfl rfl in_X7 (by decide) (Or.inl kw_321) rfl dX7_addPremium_102 ?_
    refine q_iload_n (pc := 105) hX 2 rfl rfl dX7_addPremium_105 ?_
    obtain ⟨M11, hM11, hE⟩ := ob_bind hE
    refine r_iast (pc := 106) (id := 15) (n := 6) hX (lt46 (by decide)) (fun _ _ => rfl) hM11 dX7_addPremium_106 ?_
    refine q_aload_n (pc := 107) hX 0 rfl rfl dX7_addPremium_107 ?_
    refine q_get (pc := 108) (id := 1) (ci := 7) (N := 34) (T := TX7) (C := RX7) hX 17 (lt46 (by decide)) rfl rfl in_X7 (by decide) (Or.inl kw_94) rfl dX7_addPremium_108 ?_
    refine q_aload_n (pc := 111) hX 0 rfl rfl dX7_addPremium_111 ?_
    refine q_get (pc := 112) (id := 1) (ci := 7) (N := 34) (T := TX7) (C := RX7) hX 14 (lt46 (by decide)) rfl rfl in_X7 (by decide) (Or.inl kw_321) rfl dX7_addPremium_112 ?_
    refine q_iload_n (pc := 115) hX 3 rfl rfl dX7_addPremium_115 ?_
    obtain ⟨M12, hM12, hE⟩ := ob_bind hE
    refine r_iast (pc := 116) (id := 16) (n := 6) hX (lt46 (by decide)) (fun _ _ => rfl) hM12 dX7_addPremium_116 ?_
    refine q_aload_n (pc := 117) hX 0 rfl rfl dX7_addPremium_117 ?_
    refine q_get (pc := 118) (id := 1) (ci := 7) (N := 34) (T := TX7) (C := RX7) hX 18 (lt46 (by decide)) rfl rfl in_X7 (by decide) (Or.inl kw_95) rfl dX7_addPremium_118 ?_
    refine q_aload_n (pc := 121) hX 0 rfl rfl dX7_addPremium_121 ?_
    refine q_get (pc := 122) (id := 1) (ci := 7) (N := 34) (T := TX7) (C := RX7) hX 14 (lt46 (by decide)) rfl rfl in_X7 (by decide) (Or.inl kw_321) rfl dX7_addPremium_122 ?_
    refine q_iload (pc := 125) hX 4 rfl dX7_addPremium_125 ?_
    obtain ⟨M13, hM13, hE⟩ := ob_bind hE
    refine r_iast (pc := 127) (id := 17) (n := 6) hX (lt46 (by decide)) (fun _ _ => rfl) hM13 dX7_addPremium_127 ?_
    refine q_aload_n (pc := 128) hX 0 rfl rfl dX7_addPremium_128 ?_
    refine q_dup (pc := 129) hX rfl dX7_addPremium_129 ?_
    refine q_get (pc := 130) (id := 1) (ci := 7) (N := 34) (T := TX7) (C := RX7) hX 14 (lt46 (by decide)) rfl rfl in_X7 (by decide) (Or.inl kw_321) rfl dX7_addPremium_130 ?_
    refine q_iconst (pc := 133) hX (1) rfl dX7_addPremium_133 ?_
    refine q_iadd (pc := 134) hX dX7_addPremium_134 ?_
    obtain ⟨M14, hM14⟩ : ∃ z : Mem, z = mst M13 1 14 ((M13 1 14) + 1) := ⟨_, rfl⟩
    have hE := bnd_nm hM14 hE
    refine pu_M_rateMany (pc := 135) hX hM14 (Or.inl kw_321) dX7_addPremium_135 ?_
    refine q_aload_n (pc := 138) hX 0 rfl rfl dX7_addPremium_138 ?_
    refine q_get (pc := 139) (id := 1) (ci := 7) (N := 34) (T := TX7) (C := RX7) hX 14 (lt46 (by decide)) rfl rfl in_X7 (by decide) (Or.inl kw_321) rfl dX7_addPremium_139 ?_
    refine q_iconst (pc := 142) hX (1) rfl dX7_addPremium_142 ?_
    refine q_isub (pc := 143) hX dX7_addPremium_143 ?_
    cases hE
    exact q_iret hX hR (by decide) (by decide) dX7_addPremium_144
  · rw [if_neg c] at hE
    refine q_iconst (pc := 85) hX (0) rfl dX7_addPremium_85 ?_
    cases hE
    exact q_iret hX hR (by decide) (by decide) dX7_addPremium_86

set_option maxHeartbeats 4000000 in
theorem l_X7_removePremium_44 {X : Cx} (hX : CxOK X RX7 cX7_removePremium 3 1 22 0 0 (some .int)) (hE0 : CxE X []) {o : Nat → Nat} {hn : Nat} {G : Mel} : ∀ (f : Nat) (y6 : Int32) (M7 : Mem) (p17 : Int32 × Mem), L_X7_removePremium_44 f y6 M7 = some p17 → WM X o hn p17.2 G 0 0 114 3 [(0, .ref (o 1)), (2, .int p17.1)] [] → WM X o hn M7 G 0 0 44 3 [(0, .ref (o 1)), (2, .int y6)] [] := by
  intro f
  induction f with
  | zero => intro y6 M7 p17 hE; simp [L_X7_removePremium_44] at hE
  | succ f ih =>
    intro y6 M7 p17 hE hx
    rw [L_X7_removePremium_44] at hE
    refine q_iload_n (pc := 44) hX 1 rfl rfl dX7_removePremium_44 ?_
    refine q_aload_n (pc := 45) hX 0 rfl rfl dX7_removePremium_45 ?_
    refine q_get (pc := 46) (id := 1) (ci := 7) (N := 34) (T := TX7) (C := RX7) hX 14 (lt46 (by decide)) rfl rfl in_X7 (by decide) (Or.inl kw_321) rfl dX7_removePremium_46 ?_
    refine q_icmp_ge (pc := 49) hX 114 (by decide) dX7_removePremium_49 (fun c => ?_) (fun c => ?_)
    · rw [if_pos c] at hE
      cases hE
      exact hx
    · rw [if_neg c] at hE
      refine q_aload_n (pc := 52) hX 0 rfl rfl dX7_removePremium_52 ?_
      refine q_get (pc := 53) (id := 1) (ci := 7) (N := 34) (T := TX7) (C := RX7) hX 15 (lt46 (by decide)) rfl rfl in_X7 (by decide) (Or.inl kw_92) rfl dX7_removePremium_53 ?_
      refine q_iload_n (pc := 56) hX 1 rfl rfl dX7_removePremium_56 ?_
      refine q_aload_n (pc := 57) hX 0 rfl rfl dX7_removePremium_57 ?_
      refine q_get (pc := 58) (id := 1) (ci := 7) (N := 34) (T := TX7) (C := RX7) hX 15 (lt46 (by decide)) rfl rfl in_X7 (by decide) (Or.inl kw_92) rfl dX7_removePremium_58 ?_
      refine q_iload_n (pc := 61) hX 1 rfl rfl dX7_removePremium_61 ?_
      refine q_iconst (pc := 62) hX (1) rfl dX7_removePremium_62 ?_
      refine q_iadd (pc := 63) hX dX7_removePremium_63 ?_
      obtain ⟨v8, hv8, hE⟩ := ob_bind hE
      refine r_iald (pc := 64) (id := 14) (n := 6) hX (lt46 (by decide)) (fun _ _ => rfl) hv8 dX7_removePremium_64 ?_
      obtain ⟨M9, hM9, hE⟩ := ob_bind hE
      refine r_iast (pc := 65) (id := 14) (n := 6) hX (lt46 (by decide)) (fun _ _ => rfl) hM9 dX7_removePremium_65 ?_
      refine q_aload_n (pc := 66) hX 0 rfl rfl dX7_removePremium_66 ?_
      refine q_get (pc := 67) (id := 1) (ci := 7) (N := 34) (T := TX7) (C := RX7) hX 16 (lt46 (by decide)) rfl rfl in_X7 (by decide) (Or.inl kw_93) rfl dX7_removePremium_67 ?_
      refine q_iload_n (pc := 70) hX 1 rfl rfl dX7_removePremium_70 ?_
      refine q_aload_n (pc := 71) hX 0 rfl rfl dX7_removePremium_71 ?_
      refine q_get (pc := 72) (id := 1) (ci := 7) (N := 34) (T := TX7) (C := RX7) hX 16 (lt46 (by decide)) rfl rfl in_X7 (by decide) (Or.inl kw_93) rfl dX7_removePremium_72 ?_
      refine q_iload_n (pc := 75) hX 1 rfl rfl dX7_removePremium_75 ?_
      refine q_iconst (pc := 76) hX (1) rfl dX7_removePremium_76 ?_
      refine q_iadd (pc := 77) hX dX7_removePremium_77 ?_
      obtain ⟨v10, hv10, hE⟩ := ob_bind hE
      refine r_iald (pc := 78) (id := 15) (n := 6) hX (lt46 (by decide)) (fun _ _ => rfl) hv10 dX7_removePremium_78 ?_
      obtain ⟨M11, hM11, hE⟩ := ob_bind hE
      refine r_iast (pc := 79) (id := 15) (n := 6) hX (lt46 (by decide)) (fun _ _ => rfl) hM11 dX7_removePremium_79 ?_
      refine q_aload_n (pc := 80) hX 0 rfl rfl dX7_removePremium_80 ?_
      refine q_get (pc := 81) (id := 1) (ci := 7) (N := 34) (T := TX7) (C := RX7) hX 17 (lt46 (by decide)) rfl rfl in_X7 (by decide) (Or.inl kw_94) rfl dX7_removePremium_81 ?_
      refine q_iload_n (pc := 84) hX 1 rfl rfl dX7_removePremium_84 ?_
      refine q_aload_n (pc := 85) hX 0 rfl rfl dX7_removePremium_85 ?_
      refine q_get (pc := 86) (id := 1) (ci := 7) (N := 34) (T := TX7) (C := RX7) hX 17 (lt46 (by decide)) rfl rfl in_X7 (by decide) (Or.inl kw_94) rfl dX7_removePremium_86 ?_
      refine q_iload_n (pc := 89) hX 1 rfl rfl dX7_removePremium_89 ?_
      refine q_iconst (pc := 90) hX (1) rfl dX7_removePremium_90 ?_
      refine q_iadd (pc := 91) hX dX7_removePremium_91 ?_
      obtain ⟨v12, hv12, hE⟩ := ob_bind hE
      refine r_iald (pc := 92) (id := 16) (n := 6) hX (lt46 (by decide)) (fun _ _ => rfl) hv12 dX7_removePremium_92 ?_
      obtain ⟨M13, hM13, hE⟩ := ob_bind hE
      refine r_iast (pc := 93) (id := 16) (n := 6) hX (lt46 (by decide)) (fun _ _ => rfl) hM13 dX7_removePremium_93 ?_
      refine q_aload_n (pc := 94) hX 0 rfl rfl dX7_removePremium_94 ?_
      refine q_get (pc := 95) (id := 1) (ci := 7) (N := 34) (T := TX7) (C := RX7) hX 18 (lt46 (by decide)) rfl rfl in_X7 (by decide) (Or.inl kw_95) rfl dX7_removePremium_95 ?_
      refine q_iload_n (pc := 98) hX 1 rfl rfl dX7_removePremium_98 ?_
      refine q_aload_n (pc := 99) hX 0 rfl rfl dX7_removePremium_99 ?_
      refine q_get (pc := 100) (id := 1) (ci := 7) (N := 34) (T := TX7) (C := RX7) hX 18 (lt46 (by decide)) rfl rfl in_X7 (by decide) (Or.inl kw_95) rfl dX7_removePremium_100 ?_
      refine q_iload_n (pc := 103) hX 1 rfl rfl dX7_removePremium_103 ?_
      refine q_iconst (pc := 104) hX (1) rfl dX7_removePremium_104 ?_
      refine q_iadd (pc := 105) hX dX7_removePremium_105 ?_
      obtain ⟨v14, hv14, hE⟩ := ob_bind hE
      refine r_iald (pc := 106) (id := 17) (n := 6) hX (lt46 (by decide)) (fun _ _ => rfl) hv14 dX7_removePremium_106 ?_
      obtain ⟨M15, hM15, hE⟩ := ob_bind hE
      refine r_iast (pc := 107) (id := 17) (n := 6) hX (lt46 (by decide)) (fun _ _ => rfl) hM15 dX7_removePremium_107 ?_
      obtain ⟨z16, hz16⟩ : ∃ z : Int32, z = y6 + 1 := ⟨_, rfl⟩
      have hE := bnd_nm hz16 hE
      refine q_iinc (pc := 108) (lo' := [(0, .ref (o 1)), (2, .int z16)]) hX 1 z16 [1, 0] rfl (by rw [hz16]; rfl) (by decide) rfl dX7_removePremium_108 ?_
      refine q_goto (pc := 111) hX 44 (by decide) dX7_removePremium_111 ?_
      exact ih _ _ p17 hE hx

set_option maxHeartbeats 4000000 in
theorem c_X7_removePremium {Y : Lx} {o : Nat → Nat} {hn : Nat} {M : Mem} {G : Mel} {x1 : Int32} {rr : Int32} {Mr : Mem} (hE : s_X7_removePremium M x1 = some (rr, Mr)) : MI Y yX7_removePremium cX7_removePremium 3 (some .int) 1 22 0 0 [.ref (o 1), .int x1] o hn M G (.inl (some (.int rr))) Mr G := by
  refine MI.of (by decide +kernel) (Nat.le_of_ble_eq_true rfl) (fun X hY hX hE0 hR => ?_)
  change CxOK X RX7 cX7_removePremium 3 1 22 0 0 (some .int) at hX
  show WM X o hn M G 0 0 0 3 [(0, .ref (o 1)), (1, .int x1)] []
  unfold s_X7_removePremium at hE
  refine q_aload_n (pc := 0) hX 0 rfl rfl dX7_removePremium_0 ?_
  refine q_iload_n (pc := 1) hX 1 rfl rfl dX7_removePremium_1 ?_
  refine q_iconst (pc := 2) hX (0) rfl dX7_removePremium_2 ?_
  refine q_aload_n (pc := 3) hX 0 rfl rfl dX7_removePremium_3 ?_
  refine q_get (pc := 4) (id := 1) (ci := 7) (N := 34) (T := TX7) (C := RX7) hX 14 (lt46 (by decide)) rfl rfl in_X7 (by decide) (Or.inl kw_321) rfl dX7_removePremium_4 ?_
  refine q_iconst (pc := 7) hX (1) rfl dX7_removePremium_7 ?_
  refine q_isub (pc := 8) hX dX7_removePremium_8 ?_
  obtain ⟨r1, hr1, hE⟩ := ob_bind hE
  refine q_callS (pc := 9) (As := [.int x1, .int 0, .int ((M 1 14) - 1)]) (rest := [.ref (o 1)]) (rv := some (.int r1)) (st' := [.int r1, .ref (o 1)]) hX (c_X7_in hr1) (sl_X7_97) pd_yX7_in rfl ⟨by decide, by decide⟩ ⟨by decide, by decide⟩ rfl (Nat.le_of_ble_eq_true rfl) rfl dX7_removePremium_9 ?_
  obtain ⟨p3, hp3, hE⟩ := bnd_ob hE
  suffices Jp3 : WM X o hn M G 0 0 20 3 [(0, .ref (o 1)), (1, .int x1)] [.int p3, .ref (o 1)] by
    refine q_if_eq (pc := 12) hX 19 (by decide) dX7_removePremium_12 (fun c => ?_) (fun c => ?_)
    · rw [if_pos c] at hp3
      refine q_iconst (pc := 19) hX (1) rfl dX7_removePremium_19 ?_
      cases hp3
      exact Jp3
    · rw [if_neg c] at hp3
      refine q_iconst (pc := 15) hX (0) rfl dX7_removePremium_15 ?_
      refine q_goto (pc := 16) hX 20 (by decide) dX7_removePremium_16 ?_
      cases hp3
      exact Jp3
  obtain ⟨M4, hM4⟩ : ∃ z : Mem, z = mst M 1 0 p3 := ⟨_, rfl⟩
  have hE := bnd_nm hM4 hE
  refine pu_M_thrown (pc := 20) hX hM4 (Or.inl kw_106) dX7_removePremium_20 ?_
  refine q_aload_n (pc := 23) hX 0 rfl rfl dX7_removePremium_23 ?_
  refine q_get (pc := 24) (id := 1) (ci := 7) (N := 34) (T := TX7) (C := RX7) hX 0 (lt46 (by decide)) rfl rfl in_X7 (by decide) (Or.inl kw_106) rfl dX7_removePremium_24 ?_
  refine q_if_le (pc := 27) hX 32 (by decide) dX7_removePremium_27 (fun c => ?_) (fun c => ?_)
  · rw [if_pos c] at hE
    refine q_aload_n (pc := 32) hX 0 rfl rfl dX7_removePremium_32 ?_
    refine q_dup (pc := 33) hX rfl dX7_removePremium_33 ?_
    refine q_get (pc := 34) (id := 1) (ci := 7) (N := 34) (T := TX7) (C := RX7) hX 14 (lt46 (by decide)) rfl rfl in_X7 (by decide) (Or.inl kw_321) rfl dX7_removePremium_34 ?_
    refine q_iconst (pc := 37) hX (1) rfl dX7_removePremium_37 ?_
    refine q_isub (pc := 38) hX dX7_removePremium_38 ?_
    obtain ⟨M5, hM5⟩ : ∃ z : Mem, z = mst M4 1 14 ((M4 1 14) - 1) := ⟨_, rfl⟩
    have hE := bnd_nm hM5 hE
    refine pu_M_rateMany (pc := 39) hX hM5 (Or.inl kw_321) dX7_removePremium_39 ?_
    refine q_iload_n (pc := 42) hX 1 rfl rfl dX7_removePremium_42 ?_
    refine q_istore_n (pc := 43) (lo' := [(0, .ref (o 1)), (1, .int x1), (2, .int x1)]) hX [1, 2, 0] rfl (by decide) rfl dX7_removePremium_43 ?_
    obtain ⟨p17, hp17, hE⟩ := ob_bind hE
    refine q_lo [0, 2] rfl ?_
    refine l_X7_removePremium_44 hX hE0 FU _ _ p17 hp17 ?_
    refine q_aload_n (pc := 114) hX 0 rfl rfl dX7_removePremium_114 ?_
    refine q_get (pc := 115) (id := 1) (ci := 7) (N := 34) (T := TX7) (C := RX7) hX 14 (lt46 (by decide)) rfl rfl in_X7 (by decide) (Or.inl kw_321) rfl dX7_removePremium_115 ?_
    cases hE
    exact q_iret hX hR (by decide) (by decide) dX7_removePremium_118
  · rw [if_neg c] at hE
    refine q_iconst (pc := 30) hX (0) rfl dX7_removePremium_30 ?_
    cases hE
    exact q_iret hX hR (by decide) (by decide) dX7_removePremium_31

set_option maxHeartbeats 4000000 in
theorem c_X7_makes {Y : Lx} {o : Nat → Nat} {hn : Nat} {M : Mem} {G : Mel} {x1 : Int32} {x2 : Int32} {x3 : Int32} {Mr : Mem} (hE : s_X7_makes M x1 x2 x3 = some (Mr)) : MI Y yX7_makes cX7_makes 4 none 0 0 0 0 [.ref (o 1), .int x1, .int x2, .int x3] o hn M G (.inl (none)) Mr G := by
  refine MI.of (by decide +kernel) (Nat.le_of_ble_eq_true rfl) (fun X hY hX hE0 hR => ?_)
  change CxOK X RX7 cX7_makes 4 0 0 0 0 none at hX
  show WM X o hn M G 0 0 0 4 [(0, .ref (o 1)), (1, .int x1), (2, .int x2), (3, .int x3)] []
  unfold s_X7_makes at hE
  refine q_aload_n (pc := 0) hX 0 rfl rfl dX7_makes_0 ?_
  refine q_get (pc := 1) (id := 1) (ci := 7) (N := 34) (T := TX7) (C := RX7) hX 21 (lt46 (by decide)) rfl rfl in_X7 (by decide) (Or.inl kw_96) rfl dX7_makes_1 ?_
  refine q_aload_n (pc := 4) hX 0 rfl rfl dX7_makes_4 ?_
  refine q_get (pc := 5) (id := 1) (ci := 7) (N := 34) (T := TX7) (C := RX7) hX 19 (lt46 (by decide)) rfl rfl in_X7 (by decide) (Or.inl kw_483) rfl dX7_makes_5 ?_
  refine q_iload_n (pc := 8) hX 1 rfl rfl dX7_makes_8 ?_
  obtain ⟨M1, hM1, hE⟩ := ob_bind hE
  refine r_iast (pc := 9) (id := 18) (n := 41) hX (lt46 (by decide)) (fun _ _ => rfl) hM1 dX7_makes_9 ?_
  refine q_aload_n (pc := 10) hX 0 rfl rfl dX7_makes_10 ?_
  refine q_get (pc := 11) (id := 1) (ci := 7) (N := 34) (T := TX7) (C := RX7) hX 22 (lt46 (by decide)) rfl rfl in_X7 (by decide) (Or.inl kw_97) rfl dX7_makes_11 ?_
  refine q_aload_n (pc := 14) hX 0 rfl rfl dX7_makes_14 ?_
  refine q_get (pc := 15) (id := 1) (ci := 7) (N := 34) (T := TX7) (C := RX7) hX 19 (lt46 (by decide)) rfl rfl in_X7 (by decide) (Or.inl kw_483) rfl dX7_makes_15 ?_
  refine q_iload_n (pc := 18) hX 2 rfl rfl dX7_makes_18 ?_
  obtain ⟨M2, hM2, hE⟩ := ob_bind hE
  refine r_iast (pc := 19) (id := 19) (n := 41) hX (lt46 (by decide)) (fun _ _ => rfl) hM2 dX7_makes_19 ?_
  refine q_aload_n (pc := 20) hX 0 rfl rfl dX7_makes_20 ?_
  refine q_dup (pc := 21) hX rfl dX7_makes_21 ?_
  refine q_get (pc := 22) (id := 1) (ci := 7) (N := 34) (T := TX7) (C := RX7) hX 20 (lt46 (by decide)) rfl rfl in_X7 (by decide) (Or.inl kw_488) rfl dX7_makes_22 ?_
  refine q_iload_n (pc := 25) hX 3 rfl rfl dX7_makes_25 ?_
  obtain ⟨p4, hp4, hE⟩ := bnd_ob hE
  suffices Jp4 : WM X o hn M2 G 0 0 34 4 [(0, .ref (o 1))] [.int p4, .int (M2 1 20), .ref (o 1)] by
    refine q_if_eq (pc := 26) hX 33 (by decide) dX7_makes_26 (fun c => ?_) (fun c => ?_)
    · rw [if_pos c] at hp4
      refine q_iconst (pc := 33) hX (0) rfl dX7_makes_33 ?_
      refine q_lo [0] rfl ?_
      cases hp4
      exact Jp4
    · rw [if_neg c] at hp4
      refine q_iconst (pc := 29) hX (1) rfl dX7_makes_29 ?_
      refine q_goto (pc := 30) hX 34 (by decide) dX7_makes_30 ?_
      refine q_lo [0] rfl ?_
      cases hp4
      exact Jp4
  refine q_iadd (pc := 34) hX dX7_makes_34 ?_
  obtain ⟨M5, hM5⟩ : ∃ z : Mem, z = mst M2 1 20 ((M2 1 20) + p4) := ⟨_, rfl⟩
  have hE := bnd_nm hM5 hE
  refine pu_M_repairs (pc := 35) hX hM5 (Or.inl kw_488) dX7_makes_35 ?_
  refine q_aload_n (pc := 38) hX 0 rfl rfl dX7_makes_38 ?_
  refine q_dup (pc := 39) hX rfl dX7_makes_39 ?_
  refine q_get (pc := 40) (id := 1) (ci := 7) (N := 34) (T := TX7) (C := RX7) hX 19 (lt46 (by decide)) rfl rfl in_X7 (by decide) (Or.inl kw_483) rfl dX7_makes_40 ?_
  refine q_iconst (pc := 43) hX (1) rfl dX7_makes_43 ?_
  refine q_iadd (pc := 44) hX dX7_makes_44 ?_
  obtain ⟨M6, hM6⟩ : ∃ z : Mem, z = mst M5 1 19 ((M5 1 19) + 1) := ⟨_, rfl⟩
  have hE := bnd_nm hM6 hE
  refine pu_M_shiftMany (pc := 45) hX hM6 (Or.inl kw_483) dX7_makes_45 ?_
  cases hE
  exact q_vret hX hR (by decide) (by decide) dX7_makes_48

set_option maxHeartbeats 4000000 in
theorem l_X7_findsShifts_12 {X : Cx} (hX : CxOK X RX7 cX7_findsShifts 9 1 23 0 0 none) (hE0 : CxE X []) {o : Nat → Nat} {hn : Nat} {x1 : Int32} {G : Mel} : ∀ (f : Nat) (y3 : Int32) (M4 : Mem) (p37 : Int32 × Mem), L_X7_findsShifts_12 x1 f y3 M4 = some p37 → WM X o hn p37.2 G 0 0 252 9 [(0, .ref (o 1)), (1, .int x1), (2, .int p37.1)] [] → WM X o hn M4 G 0 0 12 9 [(0, .ref (o 1)), (1, .int x1), (2, .int y3)] [] := by
  intro f
  induction f with
  | zero => intro y3 M4 p37 hE; simp [L_X7_findsShifts_12] at hE
  | succ f ih =>
    intro y3 M4 p37 hE hx
    rw [L_X7_findsShifts_12] at hE
    refine q_iload_n (pc := 12) hX 2 rfl rfl dX7_findsShifts_12 ?_
    refine q_aload_n (pc := 13) hX 0 rfl rfl dX7_findsShifts_13 ?_
    refine q_get (pc := 14) (id := 1) (ci := 7) (N := 34) (T := TX7) (C := RX7) hX 5 (lt46 (by decide)) rfl rfl in_X7 (by decide) (Or.inl kw_82) rfl dX7_findsShifts_14 ?_
    refine q_iload_n (pc := 17) hX 1 rfl rfl dX7_findsShifts_17 ?_
    obtain ⟨v5, hv5, hE⟩ := ob_bind hE
    refine r_iald (pc := 18) (id := 5) (n := 6) hX (lt46 (by decide)) (fun _ _ => rfl) hv5 dX7_findsShifts_18 ?_
    refine q_icmp_ge (pc := 19) hX 252 (by decide) dX7_findsShifts_19 (fun c => ?_) (fun c => ?_)
    · rw [if_pos c] at hE
      cases hE
      exact hx
    · rw [if_neg c] at hE
      refine q_aload_n (pc := 22) hX 0 rfl rfl dX7_findsShifts_22 ?_
      refine q_get (pc := 23) (id := 1) (ci := 7) (N := 34) (T := TX7) (C := RX7) hX 6 (lt46 (by decide)) rfl rfl in_X7 (by decide) (Or.inl kw_83) rfl dX7_findsShifts_23 ?_
      refine q_bipush (pc := 26) hX (41) (by decide) dX7_findsShifts_26 ?_
      refine q_iload_n (pc := 28) hX 1 rfl rfl dX7_findsShifts_28 ?_
      refine q_imul (pc := 29) hX dX7_findsShifts_29 ?_
      refine q_iload_n (pc := 30) hX 2 rfl rfl dX7_findsShifts_30 ?_
      refine q_iadd (pc := 31) hX dX7_findsShifts_31 ?_
      obtain ⟨v6, hv6, hE⟩ := ob_bind hE
      refine r_iald (pc := 32) (id := 6) (n := 246) hX (lt46 (by decide)) (fun _ _ => rfl) hv6 dX7_findsShifts_32 ?_
      refine q_istore_n (pc := 33) (lo' := [(0, .ref (o 1)), (1, .int x1), (2, .int y3), (3, .int v6)]) hX [1, 2, 3, 0] rfl (by decide) rfl dX7_findsShifts_33 ?_
      refine q_iload_n (pc := 34) hX 2 rfl rfl dX7_findsShifts_34 ?_
      refine q_iconst (pc := 35) hX (1) rfl dX7_findsShifts_35 ?_
      refine q_iadd (pc := 36) hX dX7_findsShifts_36 ?_
      refine q_aload_n (pc := 37) hX 0 rfl rfl dX7_findsShifts_37 ?_
      refine q_get (pc := 38) (id := 1) (ci := 7) (N := 34) (T := TX7) (C := RX7) hX 5 (lt46 (by decide)) rfl rfl in_X7 (by decide) (Or.inl kw_82) rfl dX7_findsShifts_38 ?_
      refine q_iload_n (pc := 41) hX 1 rfl rfl dX7_findsShifts_41 ?_
      obtain ⟨v7, hv7, hE⟩ := ob_bind hE
      refine r_iald (pc := 42) (id := 5) (n := 6) hX (lt46 (by decide)) (fun _ _ => rfl) hv7 dX7_findsShifts_42 ?_
      obtain ⟨p9, hp9, hE⟩ := bnd_ob hE
      suffices Jp9 : WM X o hn M4 G 0 0 51 9 [(0, .ref (o 1)), (1, .int x1), (2, .int y3), (3, .int v6)] [.int p9] by
        refine q_icmp_ne (pc := 43) hX 50 (by decide) dX7_findsShifts_43 (fun c => ?_) (fun c => ?_)
        · rw [if_neg c] at hp9
          refine q_iconst (pc := 50) hX (0) rfl dX7_findsShifts_50 ?_
          cases hp9
          exact Jp9
        · rw [if_pos c] at hp9
          refine q_iconst (pc := 46) hX (1) rfl dX7_findsShifts_46 ?_
          refine q_goto (pc := 47) hX 51 (by decide) dX7_findsShifts_47 ?_
          cases hp9
          exact Jp9
      refine q_istore (pc := 51) (lo' := [(0, .ref (o 1)), (1, .int x1), (2, .int y3), (3, .int v6), (4, .int p9)]) hX [1, 2, 3, 4, 0] (by decide) rfl dX7_findsShifts_51 ?_
      refine q_iload (pc := 53) hX 4 rfl dX7_findsShifts_53 ?_
      obtain ⟨p12, hp12, hE⟩ := ob_bind hE
      suffices Jp12 : WM X o hn M4 G 0 0 77 9 [(0, .ref (o 1)), (1, .int x1), (2, .int y3), (3, .int v6), (4, .int p9)] [.int p12] by
        refine q_if_eq (pc := 55) hX 64 (by decide) dX7_findsShifts_55 (fun c => ?_) (fun c => ?_)
        · rw [if_pos c] at hp12
          refine q_aload_n (pc := 64) hX 0 rfl rfl dX7_findsShifts_64 ?_
          refine q_get (pc := 65) (id := 1) (ci := 7) (N := 34) (T := TX7) (C := RX7) hX 6 (lt46 (by decide)) rfl rfl in_X7 (by decide) (Or.inl kw_83) rfl dX7_findsShifts_65 ?_
          refine q_bipush (pc := 68) hX (41) (by decide) dX7_findsShifts_68 ?_
          refine q_iload_n (pc := 70) hX 1 rfl rfl dX7_findsShifts_70 ?_
          refine q_imul (pc := 71) hX dX7_findsShifts_71 ?_
          refine q_iload_n (pc := 72) hX 2 rfl rfl dX7_findsShifts_72 ?_
          refine q_iadd (pc := 73) hX dX7_findsShifts_73 ?_
          refine q_iconst (pc := 74) hX (1) rfl dX7_findsShifts_74 ?_
          refine q_iadd (pc := 75) hX dX7_findsShifts_75 ?_
          obtain ⟨v11, hv11, hp12⟩ := ob_bind hp12
          refine r_iald (pc := 76) (id := 6) (n := 246) hX (lt46 (by decide)) (fun _ _ => rfl) hv11 dX7_findsShifts_76 ?_
          cases hp12
          exact Jp12
        · rw [if_neg c] at hp12
          refine q_sipush (pc := 58) hX (10080) (by decide) dX7_findsShifts_58 ?_
          refine q_goto (pc := 61) hX 77 (by decide) dX7_findsShifts_61 ?_
          cases hp12
          exact Jp12
      refine q_istore (pc := 77) (lo' := [(0, .ref (o 1)), (1, .int x1), (2, .int y3), (3, .int v6), (4, .int p9), (5, .int p12)]) hX [1, 2, 3, 4, 5, 0] (by decide) rfl dX7_findsShifts_77 ?_
      refine q_iload_n (pc := 79) hX 2 rfl rfl dX7_findsShifts_79 ?_
      obtain ⟨p14, hp14, hE⟩ := bnd_ob hE
      suffices Jp14 : WM X o hn M4 G 0 0 88 9 [(0, .ref (o 1)), (1, .int x1), (2, .int y3), (3, .int v6), (4, .int p9), (5, .int p12)] [.int p14] by
        refine q_if_ne (pc := 80) hX 87 (by decide) dX7_findsShifts_80 (fun c => ?_) (fun c => ?_)
        · rw [if_neg c] at hp14
          refine q_iconst (pc := 87) hX (0) rfl dX7_findsShifts_87 ?_
          cases hp14
          exact Jp14
        · rw [if_pos c] at hp14
          refine q_iconst (pc := 83) hX (1) rfl dX7_findsShifts_83 ?_
          refine q_goto (pc := 84) hX 88 (by decide) dX7_findsShifts_84 ?_
          cases hp14
          exact Jp14
      refine q_istore (pc := 88) (lo' := [(0, .ref (o 1)), (1, .int x1), (2, .int y3), (3, .int v6), (4, .int p9), (5, .int p12), (6, .int p14)]) hX [1, 2, 3, 4, 5, 6, 0] (by decide) rfl dX7_findsShifts_88 ?_
      refine q_iload (pc := 90) hX 6 rfl dX7_findsShifts_90 ?_
      obtain ⟨p17, hp17, hE⟩ := ob_bind hE
      suffices Jp17 : WM X o hn M4 G 0 0 112 9 [(0, .ref (o 1)), (1, .int x1), (2, .int y3), (3, .int v6), (4, .int p9), (5, .int p12), (6, .int p14)] [.int p17] by
        refine q_if_eq (pc := 92) hX 99 (by decide) dX7_findsShifts_92 (fun c => ?_) (fun c => ?_)
        · rw [if_pos c] at hp17
          refine q_aload_n (pc := 99) hX 0 rfl rfl dX7_findsShifts_99 ?_
          refine q_get (pc := 100) (id := 1) (ci := 7) (N := 34) (T := TX7) (C := RX7) hX 6 (lt46 (by decide)) rfl rfl in_X7 (by decide) (Or.inl kw_83) rfl dX7_findsShifts_100 ?_
          refine q_bipush (pc := 103) hX (41) (by decide) dX7_findsShifts_103 ?_
          refine q_iload_n (pc := 105) hX 1 rfl rfl dX7_findsShifts_105 ?_
          refine q_imul (pc := 106) hX dX7_findsShifts_106 ?_
          refine q_iload_n (pc := 107) hX 2 rfl rfl dX7_findsShifts_107 ?_
          refine q_iadd (pc := 108) hX dX7_findsShifts_108 ?_
          refine q_iconst (pc := 109) hX (1) rfl dX7_findsShifts_109 ?_
          refine q_isub (pc := 110) hX dX7_findsShifts_110 ?_
          obtain ⟨v16, hv16, hp17⟩ := ob_bind hp17
          refine r_iald (pc := 111) (id := 6) (n := 246) hX (lt46 (by decide)) (fun _ _ => rfl) hv16 dX7_findsShifts_111 ?_
          cases hp17
          exact Jp17
        · rw [if_neg c] at hp17
          refine q_iconst (pc := 95) hX (0) rfl dX7_findsShifts_95 ?_
          refine q_goto (pc := 96) hX 112 (by decide) dX7_findsShifts_96 ?_
          cases hp17
          exact Jp17
      refine q_istore (pc := 112) (lo' := [(0, .ref (o 1)), (1, .int x1), (2, .int y3), (3, .int v6), (4, .int p9), (5, .int p12), (6, .int p14), (7, .int p17)]) hX [1, 2, 3, 4, 5, 6, 7, 0] (by decide) rfl dX7_findsShifts_112 ?_
      refine q_aload_n (pc := 114) hX 0 rfl rfl dX7_findsShifts_114 ?_
      refine q_get (pc := 115) (id := 1) (ci := 7) (N := 34) (T := TX7) (C := RX7) hX 7 (lt46 (by decide)) rfl rfl in_X7 (by decide) (Or.inl kw_85) rfl dX7_findsShifts_115 ?_
      refine q_bipush (pc := 118) hX (41) (by decide) dX7_findsShifts_118 ?_
      refine q_iload_n (pc := 120) hX 1 rfl rfl dX7_findsShifts_120 ?_
      refine q_imul (pc := 121) hX dX7_findsShifts_121 ?_
      refine q_iload_n (pc := 122) hX 2 rfl rfl dX7_findsShifts_122 ?_
      refine q_iadd (pc := 123) hX dX7_findsShifts_123 ?_
      obtain ⟨v18, hv18, hE⟩ := ob_bind hE
      refine r_zald (pc := 124) (id := 7) (n := 246) hX (lt46 (by decide)) (fun _ _ => rfl) hv18 dX7_findsShifts_124 ?_
      obtain ⟨p35, hp35, hE⟩ := ob_bind hE
      suffices Jp35 : WM X o hn p35 G 0 0 246 9 [(0, .ref (o 1)), (1, .int x1), (2, .int y3)] [] by
        refine q_if_eq (pc := 125) hX 199 (by decide) dX7_findsShifts_125 (fun c => ?_) (fun c => ?_)
        · rw [if_pos c] at hp35
          refine q_iload (pc := 199) hX 6 rfl dX7_findsShifts_199 ?_
          refine q_if_ne (pc := 201) hX 220 (by decide) dX7_findsShifts_201 (fun c => ?_) (fun c => ?_)
          · rw [if_neg c] at hp35
            refine q_aload_n (pc := 220) hX 0 rfl rfl dX7_findsShifts_220 ?_
            refine q_iload_n (pc := 221) hX 3 rfl rfl dX7_findsShifts_221 ?_
            refine q_iload (pc := 222) hX 7 rfl dX7_findsShifts_222 ?_
            refine q_isub (pc := 224) hX dX7_findsShifts_224 ?_
            refine q_sipush (pc := 225) hX (480) (by decide) dX7_findsShifts_225 ?_
            obtain ⟨p21, hp21, hp35⟩ := bnd_ob hp35
            suffices Jp21 : WM X o hn M4 G 0 0 241 9 [(0, .ref (o 1)), (1, .int x1), (2, .int y3), (3, .int v6)] [.int p21, .ref (o 1)] by
              refine q_icmp_ge (pc := 228) hX 236 (by decide) dX7_findsShifts_228 (fun c => ?_) (fun c => ?_)
              · rw [if_pos c] at hp21
                refine q_iload_n (pc := 236) hX 3 rfl rfl dX7_findsShifts_236 ?_
                refine q_sipush (pc := 237) hX (480) (by decide) dX7_findsShifts_237 ?_
                refine q_isub (pc := 240) hX dX7_findsShifts_240 ?_
                refine q_lo [0, 1, 2, 3] rfl ?_
                cases hp21
                exact Jp21
              · rw [if_neg c] at hp21
                refine q_iload (pc := 231) hX 7 rfl dX7_findsShifts_231 ?_
                refine q_goto (pc := 233) hX 241 (by decide) dX7_findsShifts_233 ?_
                refine q_lo [0, 1, 2, 3] rfl ?_
                cases hp21
                exact Jp21
            refine q_iload_n (pc := 241) hX 3 rfl rfl dX7_findsShifts_241 ?_
            refine q_iconst (pc := 242) hX (1) rfl dX7_findsShifts_242 ?_
            obtain ⟨r22, hr22, hp35⟩ := ob_bind hp35
            refine q_callV (pc := 243) (id := 1) (As := [.int p21, .int v6, .int 1]) (rest := []) (rv := none) (st' := []) hX (c_X7_makes hr22) (vl_X7_131) (lt46 (by decide)) rfl rfl rfl pd_yX7_makes rfl ⟨by decide, by decide⟩ ⟨by decide, by decide⟩ rfl (Nat.le_of_ble_eq_true rfl) rfl dX7_findsShifts_243 ?_
            refine q_lo [0, 1, 2] rfl ?_
            cases hp35
            exact Jp35
          · rw [if_pos c] at hp35
            refine q_aload_n (pc := 204) hX 0 rfl rfl dX7_findsShifts_204 ?_
            refine q_get (pc := 205) (id := 1) (ci := 7) (N := 34) (T := TX7) (C := RX7) hX 7 (lt46 (by decide)) rfl rfl in_X7 (by decide) (Or.inl kw_85) rfl dX7_findsShifts_205 ?_
            refine q_bipush (pc := 208) hX (41) (by decide) dX7_findsShifts_208 ?_
            refine q_iload_n (pc := 210) hX 1 rfl rfl dX7_findsShifts_210 ?_
            refine q_imul (pc := 211) hX dX7_findsShifts_211 ?_
            refine q_iload_n (pc := 212) hX 2 rfl rfl dX7_findsShifts_212 ?_
            refine q_iadd (pc := 213) hX dX7_findsShifts_213 ?_
            refine q_iconst (pc := 214) hX (1) rfl dX7_findsShifts_214 ?_
            refine q_isub (pc := 215) hX dX7_findsShifts_215 ?_
            obtain ⟨v23, hv23, hp35⟩ := ob_bind hp35
            refine r_zald (pc := 216) (id := 7) (n := 246) hX (lt46 (by decide)) (fun _ _ => rfl) hv23 dX7_findsShifts_216 ?_
            refine q_if_ne (pc := 217) hX 246 (by decide) dX7_findsShifts_217 (fun c => ?_) (fun c => ?_)
            · rw [if_neg c] at hp35
              refine q_lo [0, 1, 2] rfl ?_
              cases hp35
              exact Jp35
            · rw [if_pos c] at hp35
              refine q_aload_n (pc := 220) hX 0 rfl rfl dX7_findsShifts_220 ?_
              refine q_iload_n (pc := 221) hX 3 rfl rfl dX7_findsShifts_221 ?_
              refine q_iload (pc := 222) hX 7 rfl dX7_findsShifts_222 ?_
              refine q_isub (pc := 224) hX dX7_findsShifts_224 ?_
              refine q_sipush (pc := 225) hX (480) (by decide) dX7_findsShifts_225 ?_
              obtain ⟨p25, hp25, hp35⟩ := bnd_ob hp35
              suffices Jp25 : WM X o hn M4 G 0 0 241 9 [(0, .ref (o 1)), (1, .int x1), (2, .int y3), (3, .int v6)] [.int p25, .ref (o 1)] by
                refine q_icmp_ge (pc := 228) hX 236 (by decide) dX7_findsShifts_228 (fun c => ?_) (fun c => ?_)
                · rw [if_pos c] at hp25
                  refine q_iload_n (pc := 236) hX 3 rfl rfl dX7_findsShifts_236 ?_
                  refine q_sipush (pc := 237) hX (480) (by decide) dX7_findsShifts_237 ?_
                  refine q_isub (pc := 240) hX dX7_findsShifts_240 ?_
                  refine q_lo [0, 1, 2, 3] rfl ?_
                  cases hp25
                  exact Jp25
                · rw [if_neg c] at hp25
                  refine q_iload (pc := 231) hX 7 rfl dX7_findsShifts_231 ?_
                  refine q_goto (pc := 233) hX 241 (by decide) dX7_findsShifts_233 ?_
                  refine q_lo [0, 1, 2, 3] rfl ?_
                  cases hp25
                  exact Jp25
              refine q_iload_n (pc := 241) hX 3 rfl rfl dX7_findsShifts_241 ?_
              refine q_iconst (pc := 242) hX (1) rfl dX7_findsShifts_242 ?_
              obtain ⟨r26, hr26, hp35⟩ := ob_bind hp35
              refine q_callV (pc := 243) (id := 1) (As := [.int p25, .int v6, .int 1]) (rest := []) (rv := none) (st' := []) hX (c_X7_makes hr26) (vl_X7_131) (lt46 (by decide)) rfl rfl rfl pd_yX7_makes rfl ⟨by decide, by decide⟩ ⟨by decide, by decide⟩ rfl (Nat.le_of_ble_eq_true rfl) rfl dX7_findsShifts_243 ?_
              refine q_lo [0, 1, 2] rfl ?_
              cases hp35
              exact Jp35
        · rw [if_neg c] at hp35
          refine q_iload (pc := 128) hX 4 rfl dX7_findsShifts_128 ?_
          obtain ⟨p29, hp29, hp35⟩ := ob_bind hp35
          suffices Jp29 : WM X o hn M4 G 0 0 154 9 [(0, .ref (o 1)), (1, .int x1), (2, .int y3), (3, .int v6), (5, .int p12)] [.int p29] by
            refine q_if_ne (pc := 130) hX 153 (by decide) dX7_findsShifts_130 (fun c => ?_) (fun c => ?_)
            · rw [if_neg c] at hp29
              refine q_iconst (pc := 153) hX (0) rfl dX7_findsShifts_153 ?_
              refine q_lo [0, 1, 2, 3, 5] rfl ?_
              cases hp29
              exact Jp29
            · rw [if_pos c] at hp29
              refine q_aload_n (pc := 133) hX 0 rfl rfl dX7_findsShifts_133 ?_
              refine q_get (pc := 134) (id := 1) (ci := 7) (N := 34) (T := TX7) (C := RX7) hX 7 (lt46 (by decide)) rfl rfl in_X7 (by decide) (Or.inl kw_85) rfl dX7_findsShifts_134 ?_
              refine q_bipush (pc := 137) hX (41) (by decide) dX7_findsShifts_137 ?_
              refine q_iload_n (pc := 139) hX 1 rfl rfl dX7_findsShifts_139 ?_
              refine q_imul (pc := 140) hX dX7_findsShifts_140 ?_
              refine q_iload_n (pc := 141) hX 2 rfl rfl dX7_findsShifts_141 ?_
              refine q_iadd (pc := 142) hX dX7_findsShifts_142 ?_
              refine q_iconst (pc := 143) hX (1) rfl dX7_findsShifts_143 ?_
              refine q_iadd (pc := 144) hX dX7_findsShifts_144 ?_
              obtain ⟨v28, hv28, hp29⟩ := ob_bind hp29
              refine r_zald (pc := 145) (id := 7) (n := 246) hX (lt46 (by decide)) (fun _ _ => rfl) hv28 dX7_findsShifts_145 ?_
              refine q_if_ne (pc := 146) hX 153 (by decide) dX7_findsShifts_146 (fun c => ?_) (fun c => ?_)
              · rw [if_neg c] at hp29
                refine q_iconst (pc := 153) hX (0) rfl dX7_findsShifts_153 ?_
                refine q_lo [0, 1, 2, 3, 5] rfl ?_
                cases hp29
                exact Jp29
              · rw [if_pos c] at hp29
                refine q_iconst (pc := 149) hX (1) rfl dX7_findsShifts_149 ?_
                refine q_goto (pc := 150) hX 154 (by decide) dX7_findsShifts_150 ?_
                refine q_lo [0, 1, 2, 3, 5] rfl ?_
                cases hp29
                exact Jp29
          refine q_istore (pc := 154) (lo' := [(0, .ref (o 1)), (1, .int x1), (2, .int y3), (3, .int v6), (5, .int p12), (8, .int p29)]) hX [1, 2, 3, 4, 5, 0] (by decide) rfl dX7_findsShifts_154 ?_
          refine q_aload_n (pc := 156) hX 0 rfl rfl dX7_findsShifts_156 ?_
          refine q_iload_n (pc := 157) hX 3 rfl rfl dX7_findsShifts_157 ?_
          refine q_iload (pc := 158) hX 5 rfl dX7_findsShifts_158 ?_
          obtain ⟨p31, hp31, hp35⟩ := bnd_ob hp35
          suffices Jp31 : WM X o hn M4 G 0 0 183 9 [(0, .ref (o 1)), (1, .int x1), (2, .int y3), (8, .int p29)] [.int p31, .int v6, .ref (o 1)] by
            refine q_if_ne (pc := 160) hX 173 (by decide) dX7_findsShifts_160 (fun c => ?_) (fun c => ?_)
            · rw [if_neg c] at hp31
              refine q_iload (pc := 173) hX 4 rfl dX7_findsShifts_173 ?_
              refine q_goto (pc := 175) hX 183 (by decide) dX7_findsShifts_175 ?_
              refine q_lo [0, 1, 2, 5] rfl ?_
              cases hp31
              exact Jp31
            · rw [if_pos c] at hp31
              refine q_iload (pc := 163) hX 4 rfl dX7_findsShifts_163 ?_
              refine q_iload_n (pc := 165) hX 3 rfl rfl dX7_findsShifts_165 ?_
              refine q_isub (pc := 166) hX dX7_findsShifts_166 ?_
              refine q_sipush (pc := 167) hX (480) (by decide) dX7_findsShifts_167 ?_
              refine q_icmp_ge (pc := 170) hX 178 (by decide) dX7_findsShifts_170 (fun c => ?_) (fun c => ?_)
              · rw [if_pos c] at hp31
                refine q_iload_n (pc := 178) hX 3 rfl rfl dX7_findsShifts_178 ?_
                refine q_sipush (pc := 179) hX (480) (by decide) dX7_findsShifts_179 ?_
                refine q_iadd (pc := 182) hX dX7_findsShifts_182 ?_
                refine q_lo [0, 1, 2, 5] rfl ?_
                cases hp31
                exact Jp31
              · rw [if_neg c] at hp31
                refine q_iload (pc := 173) hX 4 rfl dX7_findsShifts_173 ?_
                refine q_goto (pc := 175) hX 183 (by decide) dX7_findsShifts_175 ?_
                refine q_lo [0, 1, 2, 5] rfl ?_
                cases hp31
                exact Jp31
          refine q_iload (pc := 183) hX 3 rfl dX7_findsShifts_183 ?_
          obtain ⟨p33, hp33, hp35⟩ := bnd_ob hp35
          suffices Jp33 : WM X o hn M4 G 0 0 193 9 [(0, .ref (o 1)), (1, .int x1), (2, .int y3)] [.int p33, .int p31, .int v6, .ref (o 1)] by
            refine q_if_ne (pc := 185) hX 192 (by decide) dX7_findsShifts_185 (fun c => ?_) (fun c => ?_)
            · rw [if_neg c] at hp33
              refine q_iconst (pc := 192) hX (0) rfl dX7_findsShifts_192 ?_
              refine q_lo [0, 1, 2] rfl ?_
              cases hp33
              exact Jp33
            · rw [if_pos c] at hp33
              refine q_iconst (pc := 188) hX (1) rfl dX7_findsShifts_188 ?_
              refine q_goto (pc := 189) hX 193 (by decide) dX7_findsShifts_189 ?_
              refine q_lo [0, 1, 2] rfl ?_
              cases hp33
              exact Jp33
          obtain ⟨r34, hr34, hp35⟩ := ob_bind hp35
          refine q_callV (pc := 193) (id := 1) (As := [.int v6, .int p31, .int p33]) (rest := []) (rv := none) (st' := []) hX (c_X7_makes hr34) (vl_X7_131) (lt46 (by decide)) rfl rfl rfl pd_yX7_makes rfl ⟨by decide, by decide⟩ ⟨by decide, by decide⟩ rfl (Nat.le_of_ble_eq_true rfl) rfl dX7_findsShifts_193 ?_
          refine q_goto (pc := 196) hX 246 (by decide) dX7_findsShifts_196 ?_
          cases hp35
          exact Jp35
      obtain ⟨z36, hz36⟩ : ∃ z : Int32, z = y3 + 1 := ⟨_, rfl⟩
      have hE := bnd_nm hz36 hE
      refine q_iinc (pc := 246) (lo' := [(0, .ref (o 1)), (1, .int x1), (2, .int z36)]) hX 2 z36 [1, 2, 0] rfl (by rw [hz36]; rfl) (by decide) rfl dX7_findsShifts_246 ?_
      refine q_goto (pc := 249) hX 12 (by decide) dX7_findsShifts_249 ?_
      exact ih _ _ p37 hE hx

set_option maxHeartbeats 4000000 in
theorem c_X7_findsShifts {Y : Lx} {o : Nat → Nat} {hn : Nat} {M : Mem} {G : Mel} {x1 : Int32} {Mr : Mem} (hE : s_X7_findsShifts M x1 = some (Mr)) : MI Y yX7_findsShifts cX7_findsShifts 9 none 1 23 0 0 [.ref (o 1), .int x1] o hn M G (.inl (none)) Mr G := by
  refine MI.of (by decide +kernel) (Nat.le_of_ble_eq_true rfl) (fun X hY hX hE0 hR => ?_)
  change CxOK X RX7 cX7_findsShifts 9 1 23 0 0 none at hX
  show WM X o hn M G 0 0 0 9 [(0, .ref (o 1)), (1, .int x1)] []
  unfold s_X7_findsShifts at hE
  refine q_aload_n (pc := 0) hX 0 rfl rfl dX7_findsShifts_0 ?_
  refine q_iconst (pc := 1) hX (0) rfl dX7_findsShifts_1 ?_
  obtain ⟨M1, hM1⟩ : ∃ z : Mem, z = mst M 1 19 0 := ⟨_, rfl⟩
  have hE := bnd_nm hM1 hE
  refine pu_M_shiftMany (pc := 2) hX hM1 (Or.inl kw_483) dX7_findsShifts_2 ?_
  refine q_aload_n (pc := 5) hX 0 rfl rfl dX7_findsShifts_5 ?_
  refine q_iconst (pc := 6) hX (0) rfl dX7_findsShifts_6 ?_
  obtain ⟨M2, hM2⟩ : ∃ z : Mem, z = mst M1 1 20 0 := ⟨_, rfl⟩
  have hE := bnd_nm hM2 hE
  refine pu_M_repairs (pc := 7) hX hM2 (Or.inl kw_488) dX7_findsShifts_7 ?_
  refine q_iconst (pc := 10) hX (0) rfl dX7_findsShifts_10 ?_
  refine q_istore_n (pc := 11) (lo' := [(0, .ref (o 1)), (1, .int x1), (2, .int 0)]) hX [1, 2, 0] rfl (by decide) rfl dX7_findsShifts_11 ?_
  obtain ⟨p37, hp37, hE⟩ := ob_bind hE
  refine l_X7_findsShifts_12 hX hE0 FU _ _ p37 hp37 ?_
  cases hE
  exact q_vret hX hR (by decide) (by decide) dX7_findsShifts_252

set_option maxHeartbeats 4000000 in
theorem c_X7_marks {Y : Lx} {o : Nat → Nat} {hn : Nat} {M : Mem} {G : Mel} {q1 : Nat} {x2 : Int32} {x3 : Int32} {Mr : Mem} (hq1 : arr q1 10081) (hE : s_X7_marks M q1 x2 x3 = some (Mr)) : MI Y yX7_marks cX7_marks 4 none 0 0 0 0 [.ref (o 1), .ref (o q1), .int x2, .int x3] o hn M G (.inl (none)) Mr G := by
  refine MI.of (by decide +kernel) (Nat.le_of_ble_eq_true rfl) (fun X hY hX hE0 hR => ?_)
  change CxOK X RX7 cX7_marks 4 0 0 0 0 none at hX
  show WM X o hn M G 0 0 0 4 [(0, .ref (o 1)), (1, .ref (o q1)), (2, .int x2), (3, .int x3)] []
  unfold s_X7_marks at hE
  refine q_aload_n (pc := 0) hX 1 rfl rfl dX7_marks_0 ?_
  refine q_iload_n (pc := 1) hX 2 rfl rfl dX7_marks_1 ?_
  refine q_dup2 (pc := 2) hX rfl rfl dX7_marks_2 ?_
  obtain ⟨v1, hv1, hE⟩ := ob_bind hE
  refine r_iald (pc := 3) (id := q1) (n := 10081) hX (lt46 hq1.1) (fun f g => hq1.2 _ _ _ f g) hv1 dX7_marks_3 ?_
  refine q_iconst (pc := 4) hX (1) rfl dX7_marks_4 ?_
  refine q_iadd (pc := 5) hX dX7_marks_5 ?_
  obtain ⟨M2, hM2, hE⟩ := ob_bind hE
  refine r_iast (pc := 6) (id := q1) (n := 10081) hX (lt46 hq1.1) (fun f g => hq1.2 _ _ _ f g) hM2 dX7_marks_6 ?_
  refine q_aload_n (pc := 7) hX 1 rfl rfl dX7_marks_7 ?_
  refine q_iload_n (pc := 8) hX 3 rfl rfl dX7_marks_8 ?_
  refine q_dup2 (pc := 9) hX rfl rfl dX7_marks_9 ?_
  obtain ⟨v3, hv3, hE⟩ := ob_bind hE
  refine r_iald (pc := 10) (id := q1) (n := 10081) hX (lt46 hq1.1) (fun f g => hq1.2 _ _ _ f g) hv3 dX7_marks_10 ?_
  refine q_iconst (pc := 11) hX (1) rfl dX7_marks_11 ?_
  refine q_isub (pc := 12) hX dX7_marks_12 ?_
  obtain ⟨M4, hM4, hE⟩ := ob_bind hE
  refine r_iast (pc := 13) (id := q1) (n := 10081) hX (lt46 hq1.1) (fun f g => hq1.2 _ _ _ f g) hM4 dX7_marks_13 ?_
  cases hE
  exact q_vret hX hR (by decide) (by decide) dX7_marks_14

set_option maxHeartbeats 4000000 in
theorem l_X7_findsPaid_17 {X : Cx} (hX : CxOK X RX7 cX7_findsPaid 5 1 22 0 0 none) (hE0 : CxE X []) {o : Nat → Nat} {hn : Nat} {G : Mel} : ∀ (f : Nat) (y4 : Int32) (M5 : Mem) (p9 : Int32 × Mem), L_X7_findsPaid_17 f y4 M5 = some p9 → WM X o hn p9.2 G 0 0 43 5 [(0, .ref (o 1)), (1, .int p9.1)] [] → WM X o hn M5 G 0 0 17 5 [(0, .ref (o 1)), (1, .int y4)] [] := by
  intro f
  induction f with
  | zero => intro y4 M5 p9 hE; simp [L_X7_findsPaid_17] at hE
  | succ f ih =>
    intro y4 M5 p9 hE hx
    rw [L_X7_findsPaid_17] at hE
    refine q_iload_n (pc := 17) hX 1 rfl rfl dX7_findsPaid_17 ?_
    refine q_bipush (pc := 18) hX (7) (by decide) dX7_findsPaid_18 ?_
    refine q_icmp_ge (pc := 20) hX 43 (by decide) dX7_findsPaid_20 (fun c => ?_) (fun c => ?_)
    · rw [if_pos c] at hE
      cases hE
      exact hx
    · rw [if_neg c] at hE
      refine q_aload_n (pc := 23) hX 0 rfl rfl dX7_findsPaid_23 ?_
      refine q_get (pc := 24) (id := 1) (ci := 7) (N := 34) (T := TX7) (C := RX7) hX 26 (lt46 (by decide)) rfl rfl in_X7 (by decide) (Or.inl kw_101) rfl dX7_findsPaid_24 ?_
      refine q_iload_n (pc := 27) hX 1 rfl rfl dX7_findsPaid_27 ?_
      refine q_iconst (pc := 28) hX (0) rfl dX7_findsPaid_28 ?_
      obtain ⟨M6, hM6, hE⟩ := ob_bind hE
      refine r_iast (pc := 29) (id := 23) (n := 7) hX (lt46 (by decide)) (fun _ _ => rfl) hM6 dX7_findsPaid_29 ?_
      refine q_aload_n (pc := 30) hX 0 rfl rfl dX7_findsPaid_30 ?_
      refine q_get (pc := 31) (id := 1) (ci := 7) (N := 34) (T := TX7) (C := RX7) hX 27 (lt46 (by decide)) rfl rfl in_X7 (by decide) (Or.inl kw_102) rfl dX7_findsPaid_31 ?_
      refine q_iload_n (pc := 34) hX 1 rfl rfl dX7_findsPaid_34 ?_
      refine q_iconst (pc := 35) hX (0) rfl dX7_findsPaid_35 ?_
      obtain ⟨M7, hM7, hE⟩ := ob_bind hE
      refine r_iast (pc := 36) (id := 24) (n := 7) hX (lt46 (by decide)) (fun _ _ => rfl) hM7 dX7_findsPaid_36 ?_
      obtain ⟨z8, hz8⟩ : ∃ z : Int32, z = y4 + 1 := ⟨_, rfl⟩
      have hE := bnd_nm hz8 hE
      refine q_iinc (pc := 37) (lo' := [(0, .ref (o 1)), (1, .int z8)]) hX 1 z8 [1, 0] rfl (by rw [hz8]; rfl) (by decide) rfl dX7_findsPaid_37 ?_
      refine q_goto (pc := 40) hX 17 (by decide) dX7_findsPaid_40 ?_
      exact ih _ _ p9 hE hx

set_option maxHeartbeats 4000000 in
theorem l_X7_findsPaid_47 {X : Cx} (hX : CxOK X RX7 cX7_findsPaid 5 1 22 0 0 none) (hE0 : CxE X []) {o : Nat → Nat} {hn : Nat} {G : Mel} : ∀ (f : Nat) (y10 : Int32) (y11 : Int32) (M12 : Mem) (p54 : Int32 × Int32 × Mem), L_X7_findsPaid_47 f y10 y11 M12 = some p54 → WM X o hn p54.2.2 G 0 0 294 5 [(0, .ref (o 1)), (1, .int p54.1), (2, .int p54.2.1)] [] → WM X o hn M12 G 0 0 47 5 [(0, .ref (o 1)), (1, .int y10), (2, .int y11)] [] := by
  intro f
  induction f with
  | zero => intro y10 y11 M12 p54 hE; simp [L_X7_findsPaid_47] at hE
  | succ f ih =>
    intro y10 y11 M12 p54 hE hx
    rw [L_X7_findsPaid_47] at hE
    refine q_iload_n (pc := 47) hX 2 rfl rfl dX7_findsPaid_47 ?_
    refine q_sipush (pc := 48) hX (10080) (by decide) dX7_findsPaid_48 ?_
    refine q_icmp_ge (pc := 51) hX 294 (by decide) dX7_findsPaid_51 (fun c => ?_) (fun c => ?_)
    · rw [if_pos c] at hE
      cases hE
      exact hx
    · rw [if_neg c] at hE
      refine q_aload_n (pc := 54) hX 0 rfl rfl dX7_findsPaid_54 ?_
      refine q_get (pc := 55) (id := 1) (ci := 7) (N := 34) (T := TX7) (C := RX7) hX 23 (lt46 (by decide)) rfl rfl in_X7 (by decide) (Or.inl kw_98) rfl dX7_findsPaid_55 ?_
      refine q_iload_n (pc := 58) hX 2 rfl rfl dX7_findsPaid_58 ?_
      refine q_dup2 (pc := 59) hX rfl rfl dX7_findsPaid_59 ?_
      obtain ⟨v13, hv13, hE⟩ := ob_bind hE
      refine r_iald (pc := 60) (id := 20) (n := 10081) hX (lt46 (by decide)) (fun _ _ => rfl) hv13 dX7_findsPaid_60 ?_
      refine q_iload_n (pc := 61) hX 2 rfl rfl dX7_findsPaid_61 ?_
      obtain ⟨p16, hp16, hE⟩ := ob_bind hE
      suffices Jp16 : WM X o hn M12 G 0 0 77 5 [(0, .ref (o 1)), (1, .int y10), (2, .int y11)] [.int p16, .int v13, .int y11, .ref (o 20)] by
        refine q_if_le (pc := 62) hX 76 (by decide) dX7_findsPaid_62 (fun c => ?_) (fun c => ?_)
        · rw [if_pos c] at hp16
          refine q_iconst (pc := 76) hX (0) rfl dX7_findsPaid_76 ?_
          cases hp16
          exact Jp16
        · rw [if_neg c] at hp16
          refine q_aload_n (pc := 65) hX 0 rfl rfl dX7_findsPaid_65 ?_
          refine q_get (pc := 66) (id := 1) (ci := 7) (N := 34) (T := TX7) (C := RX7) hX 23 (lt46 (by decide)) rfl rfl in_X7 (by decide) (Or.inl kw_98) rfl dX7_findsPaid_66 ?_
          refine q_iload_n (pc := 69) hX 2 rfl rfl dX7_findsPaid_69 ?_
          refine q_iconst (pc := 70) hX (1) rfl dX7_findsPaid_70 ?_
          refine q_isub (pc := 71) hX dX7_findsPaid_71 ?_
          obtain ⟨v15, hv15, hp16⟩ := ob_bind hp16
          refine r_iald (pc := 72) (id := 20) (n := 10081) hX (lt46 (by decide)) (fun _ _ => rfl) hv15 dX7_findsPaid_72 ?_
          refine q_goto (pc := 73) hX 77 (by decide) dX7_findsPaid_73 ?_
          cases hp16
          exact Jp16
      refine q_iadd (pc := 77) hX dX7_findsPaid_77 ?_
      obtain ⟨M17, hM17, hE⟩ := ob_bind hE
      refine r_iast (pc := 78) (id := 20) (n := 10081) hX (lt46 (by decide)) (fun _ _ => rfl) hM17 dX7_findsPaid_78 ?_
      refine q_aload_n (pc := 79) hX 0 rfl rfl dX7_findsPaid_79 ?_
      refine q_get (pc := 80) (id := 1) (ci := 7) (N := 34) (T := TX7) (C := RX7) hX 24 (lt46 (by decide)) rfl rfl in_X7 (by decide) (Or.inl kw_99) rfl dX7_findsPaid_80 ?_
      refine q_iload_n (pc := 83) hX 2 rfl rfl dX7_findsPaid_83 ?_
      refine q_dup2 (pc := 84) hX rfl rfl dX7_findsPaid_84 ?_
      obtain ⟨v18, hv18, hE⟩ := ob_bind hE
      refine r_iald (pc := 85) (id := 21) (n := 10081) hX (lt46 (by decide)) (fun _ _ => rfl) hv18 dX7_findsPaid_85 ?_
      refine q_iload_n (pc := 86) hX 2 rfl rfl dX7_findsPaid_86 ?_
      obtain ⟨p21, hp21, hE⟩ := ob_bind hE
      suffices Jp21 : WM X o hn M17 G 0 0 102 5 [(0, .ref (o 1)), (1, .int y10), (2, .int y11)] [.int p21, .int v18, .int y11, .ref (o 21)] by
        refine q_if_le (pc := 87) hX 101 (by decide) dX7_findsPaid_87 (fun c => ?_) (fun c => ?_)
        · rw [if_pos c] at hp21
          refine q_iconst (pc := 101) hX (0) rfl dX7_findsPaid_101 ?_
          cases hp21
          exact Jp21
        · rw [if_neg c] at hp21
          refine q_aload_n (pc := 90) hX 0 rfl rfl dX7_findsPaid_90 ?_
          refine q_get (pc := 91) (id := 1) (ci := 7) (N := 34) (T := TX7) (C := RX7) hX 24 (lt46 (by decide)) rfl rfl in_X7 (by decide) (Or.inl kw_99) rfl dX7_findsPaid_91 ?_
          refine q_iload_n (pc := 94) hX 2 rfl rfl dX7_findsPaid_94 ?_
          refine q_iconst (pc := 95) hX (1) rfl dX7_findsPaid_95 ?_
          refine q_isub (pc := 96) hX dX7_findsPaid_96 ?_
          obtain ⟨v20, hv20, hp21⟩ := ob_bind hp21
          refine r_iald (pc := 97) (id := 21) (n := 10081) hX (lt46 (by decide)) (fun _ _ => rfl) hv20 dX7_findsPaid_97 ?_
          refine q_goto (pc := 98) hX 102 (by decide) dX7_findsPaid_98 ?_
          cases hp21
          exact Jp21
      refine q_iadd (pc := 102) hX dX7_findsPaid_102 ?_
      obtain ⟨M22, hM22, hE⟩ := ob_bind hE
      refine r_iast (pc := 103) (id := 21) (n := 10081) hX (lt46 (by decide)) (fun _ _ => rfl) hM22 dX7_findsPaid_103 ?_
      refine q_aload_n (pc := 104) hX 0 rfl rfl dX7_findsPaid_104 ?_
      refine q_get (pc := 105) (id := 1) (ci := 7) (N := 34) (T := TX7) (C := RX7) hX 23 (lt46 (by decide)) rfl rfl in_X7 (by decide) (Or.inl kw_98) rfl dX7_findsPaid_105 ?_
      refine q_iload_n (pc := 108) hX 2 rfl rfl dX7_findsPaid_108 ?_
      obtain ⟨v23, hv23, hE⟩ := ob_bind hE
      refine r_iald (pc := 109) (id := 20) (n := 10081) hX (lt46 (by decide)) (fun _ _ => rfl) hv23 dX7_findsPaid_109 ?_
      obtain ⟨p26, hp26, hE⟩ := ob_bind hE
      suffices Jp26 : WM X o hn M22 G 0 0 127 5 [(0, .ref (o 1)), (1, .int y10), (2, .int y11)] [.int p26] by
        refine q_if_le (pc := 110) hX 126 (by decide) dX7_findsPaid_110 (fun c => ?_) (fun c => ?_)
        · rw [if_pos c] at hp26
          refine q_iconst (pc := 126) hX (0) rfl dX7_findsPaid_126 ?_
          cases hp26
          exact Jp26
        · rw [if_neg c] at hp26
          refine q_aload_n (pc := 113) hX 0 rfl rfl dX7_findsPaid_113 ?_
          refine q_get (pc := 114) (id := 1) (ci := 7) (N := 34) (T := TX7) (C := RX7) hX 24 (lt46 (by decide)) rfl rfl in_X7 (by decide) (Or.inl kw_99) rfl dX7_findsPaid_114 ?_
          refine q_iload_n (pc := 117) hX 2 rfl rfl dX7_findsPaid_117 ?_
          obtain ⟨v25, hv25, hp26⟩ := ob_bind hp26
          refine r_iald (pc := 118) (id := 21) (n := 10081) hX (lt46 (by decide)) (fun _ _ => rfl) hv25 dX7_findsPaid_118 ?_
          refine q_if_ne (pc := 119) hX 126 (by decide) dX7_findsPaid_119 (fun c => ?_) (fun c => ?_)
          · rw [if_neg c] at hp26
            refine q_iconst (pc := 126) hX (0) rfl dX7_findsPaid_126 ?_
            cases hp26
            exact Jp26
          · rw [if_pos c] at hp26
            refine q_iconst (pc := 122) hX (1) rfl dX7_findsPaid_122 ?_
            refine q_goto (pc := 123) hX 127 (by decide) dX7_findsPaid_123 ?_
            cases hp26
            exact Jp26
      refine q_istore_n (pc := 127) (lo' := [(0, .ref (o 1)), (1, .int y10), (2, .int y11), (3, .int p26)]) hX [1, 2, 3, 0] rfl (by decide) rfl dX7_findsPaid_127 ?_
      refine q_iload_n (pc := 128) hX 3 rfl rfl dX7_findsPaid_128 ?_
      obtain ⟨p28, hp28, hE⟩ := bnd_ob hE
      suffices Jp28 : WM X o hn M22 G 0 0 139 5 [(0, .ref (o 1)), (2, .int y11), (3, .int p26)] [.int p28] by
        refine q_if_eq (pc := 129) hX 138 (by decide) dX7_findsPaid_129 (fun c => ?_) (fun c => ?_)
        · rw [if_pos c] at hp28
          refine q_iconst (pc := 138) hX (0) rfl dX7_findsPaid_138 ?_
          refine q_lo [0, 2, 3] rfl ?_
          cases hp28
          exact Jp28
        · rw [if_neg c] at hp28
          refine q_iload_n (pc := 132) hX 1 rfl rfl dX7_findsPaid_132 ?_
          refine q_iconst (pc := 133) hX (1) rfl dX7_findsPaid_133 ?_
          refine q_iadd (pc := 134) hX dX7_findsPaid_134 ?_
          refine q_goto (pc := 135) hX 139 (by decide) dX7_findsPaid_135 ?_
          refine q_lo [0, 2, 3] rfl ?_
          cases hp28
          exact Jp28
      refine q_istore_n (pc := 139) (lo' := [(0, .ref (o 1)), (1, .int p28), (2, .int y11), (3, .int p26)]) hX [1, 0, 2, 3] rfl (by decide) rfl dX7_findsPaid_139 ?_
      refine q_aload_n (pc := 140) hX 0 rfl rfl dX7_findsPaid_140 ?_
      refine q_dup (pc := 141) hX rfl dX7_findsPaid_141 ?_
      refine q_get (pc := 142) (id := 1) (ci := 7) (N := 34) (T := TX7) (C := RX7) hX 31 (lt46 (by decide)) rfl rfl in_X7 (by decide) (Or.inl kw_501) rfl dX7_findsPaid_142 ?_
      refine q_aload_n (pc := 145) hX 0 rfl rfl dX7_findsPaid_145 ?_
      refine q_get (pc := 146) (id := 1) (ci := 7) (N := 34) (T := TX7) (C := RX7) hX 23 (lt46 (by decide)) rfl rfl in_X7 (by decide) (Or.inl kw_98) rfl dX7_findsPaid_146 ?_
      refine q_iload_n (pc := 149) hX 2 rfl rfl dX7_findsPaid_149 ?_
      obtain ⟨v29, hv29, hE⟩ := ob_bind hE
      refine r_iald (pc := 150) (id := 20) (n := 10081) hX (lt46 (by decide)) (fun _ _ => rfl) hv29 dX7_findsPaid_150 ?_
      refine q_iconst (pc := 151) hX (1) rfl dX7_findsPaid_151 ?_
      obtain ⟨p31, hp31, hE⟩ := bnd_ob hE
      suffices Jp31 : WM X o hn M22 G 0 0 160 5 [(0, .ref (o 1)), (1, .int p28), (2, .int y11), (3, .int p26)] [.int p31, .int (M22 1 31), .ref (o 1)] by
        refine q_icmp_le (pc := 152) hX 159 (by decide) dX7_findsPaid_152 (fun c => ?_) (fun c => ?_)
        · rw [if_pos c] at hp31
          refine q_iconst (pc := 159) hX (0) rfl dX7_findsPaid_159 ?_
          cases hp31
          exact Jp31
        · rw [if_neg c] at hp31
          refine q_iconst (pc := 155) hX (1) rfl dX7_findsPaid_155 ?_
          refine q_goto (pc := 156) hX 160 (by decide) dX7_findsPaid_156 ?_
          cases hp31
          exact Jp31
      refine q_iadd (pc := 160) hX dX7_findsPaid_160 ?_
      obtain ⟨M32, hM32⟩ : ∃ z : Mem, z = mst M22 1 31 ((M22 1 31) + p31) := ⟨_, rfl⟩
      have hE := bnd_nm hM32 hE
      refine pu_M_doubled (pc := 161) hX hM32 (Or.inl kw_501) dX7_findsPaid_161 ?_
      refine q_aload_n (pc := 164) hX 0 rfl rfl dX7_findsPaid_164 ?_
      refine q_dup (pc := 165) hX rfl dX7_findsPaid_165 ?_
      refine q_get (pc := 166) (id := 1) (ci := 7) (N := 34) (T := TX7) (C := RX7) hX 32 (lt46 (by decide)) rfl rfl in_X7 (by decide) (Or.inl kw_502) rfl dX7_findsPaid_166 ?_
      refine q_iload_n (pc := 169) hX 1 rfl rfl dX7_findsPaid_169 ?_
      refine q_iconst (pc := 170) hX (1) rfl dX7_findsPaid_170 ?_
      obtain ⟨p34, hp34, hE⟩ := bnd_ob hE
      suffices Jp34 : WM X o hn M32 G 0 0 179 5 [(0, .ref (o 1)), (1, .int p28), (2, .int y11), (3, .int p26)] [.int p34, .int (M32 1 32), .ref (o 1)] by
        refine q_icmp_ne (pc := 171) hX 178 (by decide) dX7_findsPaid_171 (fun c => ?_) (fun c => ?_)
        · rw [if_neg c] at hp34
          refine q_iconst (pc := 178) hX (0) rfl dX7_findsPaid_178 ?_
          cases hp34
          exact Jp34
        · rw [if_pos c] at hp34
          refine q_iconst (pc := 174) hX (1) rfl dX7_findsPaid_174 ?_
          refine q_goto (pc := 175) hX 179 (by decide) dX7_findsPaid_175 ?_
          cases hp34
          exact Jp34
      refine q_iadd (pc := 179) hX dX7_findsPaid_179 ?_
      obtain ⟨M35, hM35⟩ : ∃ z : Mem, z = mst M32 1 32 ((M32 1 32) + p34) := ⟨_, rfl⟩
      have hE := bnd_nm hM35 hE
      refine pu_M_runs (pc := 180) hX hM35 (Or.inl kw_502) dX7_findsPaid_180 ?_
      refine q_aload_n (pc := 183) hX 0 rfl rfl dX7_findsPaid_183 ?_
      refine q_iload_n (pc := 184) hX 1 rfl rfl dX7_findsPaid_184 ?_
      refine q_aload_n (pc := 185) hX 0 rfl rfl dX7_findsPaid_185 ?_
      refine q_get (pc := 186) (id := 1) (ci := 7) (N := 34) (T := TX7) (C := RX7) hX 33 (lt46 (by decide)) rfl rfl in_X7 (by decide) (Or.inl kw_503) rfl dX7_findsPaid_186 ?_
      obtain ⟨p37, hp37, hE⟩ := bnd_ob hE
      suffices Jp37 : WM X o hn M35 G 0 0 200 5 [(0, .ref (o 1)), (1, .int p28), (2, .int y11), (3, .int p26)] [.int p37, .ref (o 1)] by
        refine q_icmp_le (pc := 189) hX 196 (by decide) dX7_findsPaid_189 (fun c => ?_) (fun c => ?_)
        · rw [if_pos c] at hp37
          refine q_aload_n (pc := 196) hX 0 rfl rfl dX7_findsPaid_196 ?_
          refine q_get (pc := 197) (id := 1) (ci := 7) (N := 34) (T := TX7) (C := RX7) hX 33 (lt46 (by decide)) rfl rfl in_X7 (by decide) (Or.inl kw_503) rfl dX7_findsPaid_197 ?_
          cases hp37
          exact Jp37
        · rw [if_neg c] at hp37
          refine q_iload_n (pc := 192) hX 1 rfl rfl dX7_findsPaid_192 ?_
          refine q_goto (pc := 193) hX 200 (by decide) dX7_findsPaid_193 ?_
          cases hp37
          exact Jp37
      obtain ⟨M38, hM38⟩ : ∃ z : Mem, z = mst M35 1 33 p37 := ⟨_, rfl⟩
      have hE := bnd_nm hM38 hE
      refine pu_M_longest (pc := 200) hX hM38 (Or.inl kw_503) dX7_findsPaid_200 ?_
      refine q_aload_n (pc := 203) hX 0 rfl rfl dX7_findsPaid_203 ?_
      refine q_get (pc := 204) (id := 1) (ci := 7) (N := 34) (T := TX7) (C := RX7) hX 26 (lt46 (by decide)) rfl rfl in_X7 (by decide) (Or.inl kw_101) rfl dX7_findsPaid_204 ?_
      refine q_iload_n (pc := 207) hX 2 rfl rfl dX7_findsPaid_207 ?_
      refine q_sipush (pc := 208) hX (1440) (by decide) dX7_findsPaid_208 ?_
      refine q_idiv (pc := 211) hX (by decide) dX7_findsPaid_211 ?_
      refine q_dup2 (pc := 212) hX rfl rfl dX7_findsPaid_212 ?_
      obtain ⟨v39, hv39, hE⟩ := ob_bind hE
      refine r_iald (pc := 213) (id := 23) (n := 7) hX (lt46 (by decide)) (fun _ _ => rfl) hv39 dX7_findsPaid_213 ?_
      refine q_iload_n (pc := 214) hX 3 rfl rfl dX7_findsPaid_214 ?_
      obtain ⟨p41, hp41, hE⟩ := bnd_ob hE
      suffices Jp41 : WM X o hn M38 G 0 0 223 5 [(0, .ref (o 1)), (1, .int p28), (2, .int y11), (3, .int p26)] [.int p41, .int v39, .int (y11 / 1440), .ref (o 23)] by
        refine q_if_eq (pc := 215) hX 222 (by decide) dX7_findsPaid_215 (fun c => ?_) (fun c => ?_)
        · rw [if_pos c] at hp41
          refine q_iconst (pc := 222) hX (0) rfl dX7_findsPaid_222 ?_
          cases hp41
          exact Jp41
        · rw [if_neg c] at hp41
          refine q_iconst (pc := 218) hX (1) rfl dX7_findsPaid_218 ?_
          refine q_goto (pc := 219) hX 223 (by decide) dX7_findsPaid_219 ?_
          cases hp41
          exact Jp41
      refine q_iadd (pc := 223) hX dX7_findsPaid_223 ?_
      obtain ⟨M42, hM42, hE⟩ := ob_bind hE
      refine r_iast (pc := 224) (id := 23) (n := 7) hX (lt46 (by decide)) (fun _ _ => rfl) hM42 dX7_findsPaid_224 ?_
      refine q_iload_n (pc := 225) hX 3 rfl rfl dX7_findsPaid_225 ?_
      obtain ⟨p45, hp45, hE⟩ := ob_bind hE
      suffices Jp45 : WM X o hn M42 G 0 0 247 5 [(0, .ref (o 1)), (1, .int p28), (2, .int y11)] [.int p45] by
        refine q_if_eq (pc := 226) hX 246 (by decide) dX7_findsPaid_226 (fun c => ?_) (fun c => ?_)
        · rw [if_pos c] at hp45
          refine q_iconst (pc := 246) hX (0) rfl dX7_findsPaid_246 ?_
          refine q_lo [0, 1, 2] rfl ?_
          cases hp45
          exact Jp45
        · rw [if_neg c] at hp45
          refine q_iload_n (pc := 229) hX 1 rfl rfl dX7_findsPaid_229 ?_
          refine q_sipush (pc := 230) hX (361) (by decide) dX7_findsPaid_230 ?_
          refine q_sipush (pc := 233) hX (390) (by decide) dX7_findsPaid_233 ?_
          obtain ⟨r44, hr44, hp45⟩ := ob_bind hp45
          refine q_callS (pc := 236) (As := [.int p28, .int 361, .int 390]) (rest := []) (rv := some (.int r44)) (st' := [.int r44]) hX (c_X7_in hr44) (sl_X7_97) pd_yX7_in rfl ⟨by decide, by decide⟩ ⟨by decide, by decide⟩ rfl (Nat.le_of_ble_eq_true rfl) rfl dX7_findsPaid_236 ?_
          refine q_if_ne (pc := 239) hX 246 (by decide) dX7_findsPaid_239 (fun c => ?_) (fun c => ?_)
          · rw [if_neg c] at hp45
            refine q_iconst (pc := 246) hX (0) rfl dX7_findsPaid_246 ?_
            refine q_lo [0, 1, 2] rfl ?_
            cases hp45
            exact Jp45
          · rw [if_pos c] at hp45
            refine q_iconst (pc := 242) hX (1) rfl dX7_findsPaid_242 ?_
            refine q_goto (pc := 243) hX 247 (by decide) dX7_findsPaid_243 ?_
            refine q_lo [0, 1, 2] rfl ?_
            cases hp45
            exact Jp45
      refine q_istore (pc := 247) (lo' := [(0, .ref (o 1)), (1, .int p28), (2, .int y11), (4, .int p45)]) hX [1, 2, 3, 0] (by decide) rfl dX7_findsPaid_247 ?_
      refine q_aload_n (pc := 249) hX 0 rfl rfl dX7_findsPaid_249 ?_
      refine q_get (pc := 250) (id := 1) (ci := 7) (N := 34) (T := TX7) (C := RX7) hX 25 (lt46 (by decide)) rfl rfl in_X7 (by decide) (Or.inl kw_100) rfl dX7_findsPaid_250 ?_
      refine q_iload_n (pc := 253) hX 2 rfl rfl dX7_findsPaid_253 ?_
      refine q_iload (pc := 254) hX 3 rfl dX7_findsPaid_254 ?_
      obtain ⟨p47, hp47, hE⟩ := bnd_ob hE
      suffices Jp47 : WM X o hn M42 G 0 0 264 5 [(0, .ref (o 1)), (1, .int p28), (2, .int y11), (4, .int p45)] [.int p47, .int y11, .ref (o 22)] by
        refine q_if_eq (pc := 256) hX 263 (by decide) dX7_findsPaid_256 (fun c => ?_) (fun c => ?_)
        · rw [if_pos c] at hp47
          refine q_iconst (pc := 263) hX (-1) rfl dX7_findsPaid_263 ?_
          cases hp47
          exact Jp47
        · rw [if_neg c] at hp47
          refine q_iconst (pc := 259) hX (0) rfl dX7_findsPaid_259 ?_
          refine q_goto (pc := 260) hX 264 (by decide) dX7_findsPaid_260 ?_
          cases hp47
          exact Jp47
      obtain ⟨M48, hM48, hE⟩ := ob_bind hE
      refine r_iast (pc := 264) (id := 22) (n := 10080) hX (lt46 (by decide)) (fun _ _ => rfl) hM48 dX7_findsPaid_264 ?_
      refine q_aload_n (pc := 265) hX 0 rfl rfl dX7_findsPaid_265 ?_
      refine q_get (pc := 266) (id := 1) (ci := 7) (N := 34) (T := TX7) (C := RX7) hX 27 (lt46 (by decide)) rfl rfl in_X7 (by decide) (Or.inl kw_102) rfl dX7_findsPaid_266 ?_
      refine q_iload_n (pc := 269) hX 2 rfl rfl dX7_findsPaid_269 ?_
      refine q_sipush (pc := 270) hX (1440) (by decide) dX7_findsPaid_270 ?_
      refine q_idiv (pc := 273) hX (by decide) dX7_findsPaid_273 ?_
      refine q_dup2 (pc := 274) hX rfl rfl dX7_findsPaid_274 ?_
      obtain ⟨v49, hv49, hE⟩ := ob_bind hE
      refine r_iald (pc := 275) (id := 24) (n := 7) hX (lt46 (by decide)) (fun _ _ => rfl) hv49 dX7_findsPaid_275 ?_
      refine q_iload (pc := 276) hX 3 rfl dX7_findsPaid_276 ?_
      obtain ⟨p51, hp51, hE⟩ := bnd_ob hE
      suffices Jp51 : WM X o hn M48 G 0 0 286 5 [(0, .ref (o 1)), (1, .int p28), (2, .int y11)] [.int p51, .int v49, .int (y11 / 1440), .ref (o 24)] by
        refine q_if_eq (pc := 278) hX 285 (by decide) dX7_findsPaid_278 (fun c => ?_) (fun c => ?_)
        · rw [if_pos c] at hp51
          refine q_iconst (pc := 285) hX (0) rfl dX7_findsPaid_285 ?_
          refine q_lo [0, 1, 2] rfl ?_
          cases hp51
          exact Jp51
        · rw [if_neg c] at hp51
          refine q_iconst (pc := 281) hX (1) rfl dX7_findsPaid_281 ?_
          refine q_goto (pc := 282) hX 286 (by decide) dX7_findsPaid_282 ?_
          refine q_lo [0, 1, 2] rfl ?_
          cases hp51
          exact Jp51
      refine q_iadd (pc := 286) hX dX7_findsPaid_286 ?_
      obtain ⟨M52, hM52, hE⟩ := ob_bind hE
      refine r_iast (pc := 287) (id := 24) (n := 7) hX (lt46 (by decide)) (fun _ _ => rfl) hM52 dX7_findsPaid_287 ?_
      obtain ⟨z53, hz53⟩ : ∃ z : Int32, z = y11 + 1 := ⟨_, rfl⟩
      have hE := bnd_nm hz53 hE
      refine q_iinc (pc := 288) (lo' := [(0, .ref (o 1)), (1, .int p28), (2, .int z53)]) hX 2 z53 [1, 2, 0] rfl (by rw [hz53]; rfl) (by decide) rfl dX7_findsPaid_288 ?_
      refine q_goto (pc := 291) hX 47 (by decide) dX7_findsPaid_291 ?_
      exact ih _ _ _ p54 hE hx

set_option maxHeartbeats 4000000 in
theorem c_X7_findsPaid {Y : Lx} {o : Nat → Nat} {hn : Nat} {M : Mem} {G : Mel} {Mr : Mem} (hE : s_X7_findsPaid M = some (Mr)) : MI Y yX7_findsPaid cX7_findsPaid 5 none 1 22 0 0 [.ref (o 1)] o hn M G (.inl (none)) Mr G := by
  refine MI.of (by decide +kernel) (Nat.le_of_ble_eq_true rfl) (fun X hY hX hE0 hR => ?_)
  change CxOK X RX7 cX7_findsPaid 5 1 22 0 0 none at hX
  show WM X o hn M G 0 0 0 5 [(0, .ref (o 1))] []
  unfold s_X7_findsPaid at hE
  refine q_aload_n (pc := 0) hX 0 rfl rfl dX7_findsPaid_0 ?_
  refine q_iconst (pc := 1) hX (0) rfl dX7_findsPaid_1 ?_
  obtain ⟨M1, hM1⟩ : ∃ z : Mem, z = mst M 1 31 0 := ⟨_, rfl⟩
  have hE := bnd_nm hM1 hE
  refine pu_M_doubled (pc := 2) hX hM1 (Or.inl kw_501) dX7_findsPaid_2 ?_
  refine q_aload_n (pc := 5) hX 0 rfl rfl dX7_findsPaid_5 ?_
  refine q_iconst (pc := 6) hX (0) rfl dX7_findsPaid_6 ?_
  obtain ⟨M2, hM2⟩ : ∃ z : Mem, z = mst M1 1 32 0 := ⟨_, rfl⟩
  have hE := bnd_nm hM2 hE
  refine pu_M_runs (pc := 7) hX hM2 (Or.inl kw_502) dX7_findsPaid_7 ?_
  refine q_aload_n (pc := 10) hX 0 rfl rfl dX7_findsPaid_10 ?_
  refine q_iconst (pc := 11) hX (0) rfl dX7_findsPaid_11 ?_
  obtain ⟨M3, hM3⟩ : ∃ z : Mem, z = mst M2 1 33 0 := ⟨_, rfl⟩
  have hE := bnd_nm hM3 hE
  refine pu_M_longest (pc := 12) hX hM3 (Or.inl kw_503) dX7_findsPaid_12 ?_
  refine q_iconst (pc := 15) hX (0) rfl dX7_findsPaid_15 ?_
  refine q_istore_n (pc := 16) (lo' := [(0, .ref (o 1)), (1, .int 0)]) hX [1, 0] rfl (by decide) rfl dX7_findsPaid_16 ?_
  obtain ⟨p9, hp9, hE⟩ := ob_bind hE
  refine l_X7_findsPaid_17 hX hE0 FU _ _ p9 hp9 ?_
  refine q_iconst (pc := 43) hX (0) rfl dX7_findsPaid_43 ?_
  refine q_istore_n (pc := 44) (lo' := [(0, .ref (o 1)), (1, .int 0)]) hX [1, 0] rfl (by decide) rfl dX7_findsPaid_44 ?_
  refine q_iconst (pc := 45) hX (0) rfl dX7_findsPaid_45 ?_
  refine q_istore_n (pc := 46) (lo' := [(0, .ref (o 1)), (1, .int 0), (2, .int 0)]) hX [1, 2, 0] rfl (by decide) rfl dX7_findsPaid_46 ?_
  obtain ⟨p54, hp54, hE⟩ := ob_bind hE
  refine l_X7_findsPaid_47 hX hE0 FU _ _ _ p54 hp54 ?_
  cases hE
  exact q_vret hX hR (by decide) (by decide) dX7_findsPaid_294

set_option maxHeartbeats 4000000 in
theorem l_X7_findsKinds_4 {X : Cx} (hX : CxOK X RX7 cX7_findsKinds 7 0 0 0 0 none) (hE0 : CxE X []) {o : Nat → Nat} {hn : Nat} {M : Mem} {G : Mel} : ∀ (f : Nat) (y1 : Int32) (y2 : Int32) (p7 : Int32 × Int32), L_X7_findsKinds_4 M f y1 y2 = some p7 → WM X o hn M G 0 0 35 7 [(0, .ref (o 1)), (1, .int p7.1), (2, .int p7.2)] [] → WM X o hn M G 0 0 4 7 [(0, .ref (o 1)), (1, .int y1), (2, .int y2)] [] := by
  intro f
  induction f with
  | zero => intro y1 y2 p7 hE; simp [L_X7_findsKinds_4] at hE
  | succ f ih =>
    intro y1 y2 p7 hE hx
    rw [L_X7_findsKinds_4] at hE
    refine q_iload_n (pc := 4) hX 2 rfl rfl dX7_findsKinds_4 ?_
    refine q_bipush (pc := 5) hX (6) (by decide) dX7_findsKinds_5 ?_
    refine q_icmp_ge (pc := 7) hX 35 (by decide) dX7_findsKinds_7 (fun c => ?_) (fun c => ?_)
    · rw [if_pos c] at hE
      cases hE
      exact hx
    · rw [if_neg c] at hE
      refine q_iload_n (pc := 10) hX 1 rfl rfl dX7_findsKinds_10 ?_
      obtain ⟨p5, hp5, hE⟩ := ob_bind hE
      suffices Jp5 : WM X o hn M G 0 0 28 7 [(0, .ref (o 1)), (2, .int y2)] [.int p5] by
        refine q_if_eq (pc := 11) hX 27 (by decide) dX7_findsKinds_11 (fun c => ?_) (fun c => ?_)
        · rw [if_pos c] at hp5
          refine q_iconst (pc := 27) hX (0) rfl dX7_findsKinds_27 ?_
          refine q_lo [0, 2] rfl ?_
          cases hp5
          exact Jp5
        · rw [if_neg c] at hp5
          refine q_aload_n (pc := 14) hX 0 rfl rfl dX7_findsKinds_14 ?_
          refine q_get (pc := 15) (id := 1) (ci := 7) (N := 34) (T := TX7) (C := RX7) hX 27 (lt46 (by decide)) rfl rfl in_X7 (by decide) (Or.inl kw_102) rfl dX7_findsKinds_15 ?_
          refine q_iload_n (pc := 18) hX 2 rfl rfl dX7_findsKinds_18 ?_
          obtain ⟨v4, hv4, hp5⟩ := ob_bind hp5
          refine r_iald (pc := 19) (id := 24) (n := 7) hX (lt46 (by decide)) (fun _ _ => rfl) hv4 dX7_findsKinds_19 ?_
          refine q_if_le (pc := 20) hX 27 (by decide) dX7_findsKinds_20 (fun c => ?_) (fun c => ?_)
          · rw [if_pos c] at hp5
            refine q_iconst (pc := 27) hX (0) rfl dX7_findsKinds_27 ?_
            refine q_lo [0, 2] rfl ?_
            cases hp5
            exact Jp5
          · rw [if_neg c] at hp5
            refine q_iconst (pc := 23) hX (1) rfl dX7_findsKinds_23 ?_
            refine q_goto (pc := 24) hX 28 (by decide) dX7_findsKinds_24 ?_
            refine q_lo [0, 2] rfl ?_
            cases hp5
            exact Jp5
      refine q_istore_n (pc := 28) (lo' := [(0, .ref (o 1)), (1, .int p5), (2, .int y2)]) hX [1, 0, 2] rfl (by decide) rfl dX7_findsKinds_28 ?_
      obtain ⟨z6, hz6⟩ : ∃ z : Int32, z = y2 + 1 := ⟨_, rfl⟩
      have hE := bnd_nm hz6 hE
      refine q_iinc (pc := 29) (lo' := [(0, .ref (o 1)), (1, .int p5), (2, .int z6)]) hX 2 z6 [1, 2, 0] rfl (by rw [hz6]; rfl) (by decide) rfl dX7_findsKinds_29 ?_
      refine q_goto (pc := 32) hX 4 (by decide) dX7_findsKinds_32 ?_
      exact ih _ _ p7 hE hx

set_option maxHeartbeats 4000000 in
theorem l_X7_findsKinds_37 {X : Cx} (hX : CxOK X RX7 cX7_findsKinds 7 0 0 0 0 none) (hE0 : CxE X []) {o : Nat → Nat} {hn : Nat} {G : Mel} {p7 : Int32 × Int32} : ∀ (f : Nat) (y8 : Int32) (M9 : Mem) (p12 : Int32 × Mem), L_X7_findsKinds_37 f y8 M9 = some p12 → WM X o hn p12.2 G 0 0 56 7 [(0, .ref (o 1)), (1, .int p7.1), (2, .int p12.1)] [] → WM X o hn M9 G 0 0 37 7 [(0, .ref (o 1)), (1, .int p7.1), (2, .int y8)] [] := by
  intro f
  induction f with
  | zero => intro y8 M9 p12 hE; simp [L_X7_findsKinds_37] at hE
  | succ f ih =>
    intro y8 M9 p12 hE hx
    rw [L_X7_findsKinds_37] at hE
    refine q_iload_n (pc := 37) hX 2 rfl rfl dX7_findsKinds_37 ?_
    refine q_bipush (pc := 38) hX (21) (by decide) dX7_findsKinds_38 ?_
    refine q_icmp_ge (pc := 40) hX 56 (by decide) dX7_findsKinds_40 (fun c => ?_) (fun c => ?_)
    · rw [if_pos c] at hE
      cases hE
      exact hx
    · rw [if_neg c] at hE
      refine q_aload_n (pc := 43) hX 0 rfl rfl dX7_findsKinds_43 ?_
      refine q_get (pc := 44) (id := 1) (ci := 7) (N := 34) (T := TX7) (C := RX7) hX 28 (lt46 (by decide)) rfl rfl in_X7 (by decide) (Or.inl kw_103) rfl dX7_findsKinds_44 ?_
      refine q_iload_n (pc := 47) hX 2 rfl rfl dX7_findsKinds_47 ?_
      refine q_iconst (pc := 48) hX (0) rfl dX7_findsKinds_48 ?_
      obtain ⟨M10, hM10, hE⟩ := ob_bind hE
      refine r_iast (pc := 49) (id := 25) (n := 21) hX (lt46 (by decide)) (fun _ _ => rfl) hM10 dX7_findsKinds_49 ?_
      obtain ⟨z11, hz11⟩ : ∃ z : Int32, z = y8 + 1 := ⟨_, rfl⟩
      have hE := bnd_nm hz11 hE
      refine q_iinc (pc := 50) (lo' := [(0, .ref (o 1)), (1, .int p7.1), (2, .int z11)]) hX 2 z11 [1, 2, 0] rfl (by rw [hz11]; rfl) (by decide) rfl dX7_findsKinds_50 ?_
      refine q_goto (pc := 53) hX 37 (by decide) dX7_findsKinds_53 ?_
      exact ih _ _ p12 hE hx

set_option maxHeartbeats 4000000 in
theorem l_X7_findsKinds_63 {X : Cx} (hX : CxOK X RX7 cX7_findsKinds 7 0 0 0 0 none) (hE0 : CxE X []) {o : Nat → Nat} {hn : Nat} {G : Mel} {p7 : Int32 × Int32} : ∀ (f : Nat) (y13 : Int32) (y14 : Int32) (y15 : Int32) (M16 : Mem) (p35 : Int32 × Int32 × Int32 × Mem), L_X7_findsKinds_63 p7 f y13 y14 y15 M16 = some p35 → WM X o hn p35.2.2.2 G 0 0 222 7 [(0, .ref (o 1)), (1, .int p7.1), (2, .int p35.1), (3, .int p35.2.1), (4, .int p35.2.2.1)] [] → WM X o hn M16 G 0 0 63 7 [(0, .ref (o 1)), (1, .int p7.1), (2, .int y13), (3, .int y14), (4, .int y15)] [] := by
  intro f
  induction f with
  | zero => intro y13 y14 y15 M16 p35 hE; simp [L_X7_findsKinds_63] at hE
  | succ f ih =>
    intro y13 y14 y15 M16 p35 hE hx
    rw [L_X7_findsKinds_63] at hE
    refine q_iload (pc := 63) hX 4 rfl dX7_findsKinds_63 ?_
    refine q_sipush (pc := 65) hX (10080) (by decide) dX7_findsKinds_65 ?_
    refine q_icmp_ge (pc := 68) hX 222 (by decide) dX7_findsKinds_68 (fun c => ?_) (fun c => ?_)
    · rw [if_pos c] at hE
      cases hE
      exact hx
    · rw [if_neg c] at hE
      refine q_iload (pc := 71) hX 4 rfl dX7_findsKinds_71 ?_
      refine q_sipush (pc := 73) hX (1440) (by decide) dX7_findsKinds_73 ?_
      refine q_irem (pc := 76) hX (by decide) dX7_findsKinds_76 ?_
      obtain ⟨p18, hp18, hE⟩ := bnd_ob hE
      suffices Jp18 : WM X o hn M16 G 0 0 85 7 [(0, .ref (o 1)), (1, .int p7.1), (2, .int y13), (4, .int y15)] [.int p18] by
        refine q_if_ne (pc := 77) hX 84 (by decide) dX7_findsKinds_77 (fun c => ?_) (fun c => ?_)
        · rw [if_neg c] at hp18
          refine q_iload_n (pc := 84) hX 3 rfl rfl dX7_findsKinds_84 ?_
          refine q_lo [0, 1, 2, 4] rfl ?_
          cases hp18
          exact Jp18
        · rw [if_pos c] at hp18
          refine q_iconst (pc := 80) hX (0) rfl dX7_findsKinds_80 ?_
          refine q_goto (pc := 81) hX 85 (by decide) dX7_findsKinds_81 ?_
          refine q_lo [0, 1, 2, 4] rfl ?_
          cases hp18
          exact Jp18
      refine q_istore_n (pc := 85) (lo' := [(0, .ref (o 1)), (1, .int p7.1), (2, .int y13), (3, .int p18), (4, .int y15)]) hX [1, 2, 3, 0, 4] rfl (by decide) rfl dX7_findsKinds_85 ?_
      refine q_iload (pc := 86) hX 4 rfl dX7_findsKinds_86 ?_
      refine q_sipush (pc := 88) hX (1440) (by decide) dX7_findsKinds_88 ?_
      refine q_idiv (pc := 91) hX (by decide) dX7_findsKinds_91 ?_
      refine q_bipush (pc := 92) hX (6) (by decide) dX7_findsKinds_92 ?_
      obtain ⟨p20, hp20, hE⟩ := bnd_ob hE
      suffices Jp20 : WM X o hn M16 G 0 0 106 7 [(0, .ref (o 1)), (1, .int p7.1), (2, .int y13), (3, .int p18), (4, .int y15)] [.int p20] by
        refine q_icmp_ne (pc := 94) hX 105 (by decide) dX7_findsKinds_94 (fun c => ?_) (fun c => ?_)
        · rw [if_neg c] at hp20
          refine q_iconst (pc := 105) hX (0) rfl dX7_findsKinds_105 ?_
          cases hp20
          exact Jp20
        · rw [if_pos c] at hp20
          refine q_iload_n (pc := 97) hX 1 rfl rfl dX7_findsKinds_97 ?_
          refine q_if_eq (pc := 98) hX 105 (by decide) dX7_findsKinds_98 (fun c => ?_) (fun c => ?_)
          · rw [if_pos c] at hp20
            refine q_iconst (pc := 105) hX (0) rfl dX7_findsKinds_105 ?_
            cases hp20
            exact Jp20
          · rw [if_neg c] at hp20
            refine q_iconst (pc := 101) hX (1) rfl dX7_findsKinds_101 ?_
            refine q_goto (pc := 102) hX 106 (by decide) dX7_findsKinds_102 ?_
            cases hp20
            exact Jp20
      refine q_istore (pc := 106) (lo' := [(0, .ref (o 1)), (1, .int p7.1), (2, .int y13), (3, .int p18), (4, .int y15), (5, .int p20)]) hX [1, 2, 3, 4, 5, 0] (by decide) rfl dX7_findsKinds_106 ?_
      refine q_aload_n (pc := 108) hX 0 rfl rfl dX7_findsKinds_108 ?_
      refine q_get (pc := 109) (id := 1) (ci := 7) (N := 34) (T := TX7) (C := RX7) hX 25 (lt46 (by decide)) rfl rfl in_X7 (by decide) (Or.inl kw_100) rfl dX7_findsKinds_109 ?_
      refine q_iload (pc := 112) hX 4 rfl dX7_findsKinds_112 ?_
      obtain ⟨v21, hv21, hE⟩ := ob_bind hE
      refine r_iald (pc := 114) (id := 22) (n := 10080) hX (lt46 (by decide)) (fun _ _ => rfl) hv21 dX7_findsKinds_114 ?_
      refine q_iconst (pc := 115) hX (-1) rfl dX7_findsKinds_115 ?_
      obtain ⟨p33, hp33, hE⟩ := ob_bind hE
      suffices Jp33 : WM X o hn p33.2.2 G 0 0 216 7 [(0, .ref (o 1)), (1, .int p7.1), (2, .int p33.1), (3, .int p33.2.1), (4, .int y15)] [] by
        refine q_icmp_eq (pc := 116) hX 216 (by decide) dX7_findsKinds_116 (fun c => ?_) (fun c => ?_)
        · rw [if_pos c] at hp33
          refine q_lo [0, 1, 2, 3, 4] rfl ?_
          cases hp33
          exact Jp33
        · rw [if_neg c] at hp33
          refine q_iload_n (pc := 119) hX 3 rfl rfl dX7_findsKinds_119 ?_
          refine q_sipush (pc := 120) hX (720) (by decide) dX7_findsKinds_120 ?_
          obtain ⟨p24, hp24, hp33⟩ := bnd_ob hp33
          suffices Jp24 : WM X o hn M16 G 0 0 143 7 [(0, .ref (o 1)), (1, .int p7.1), (2, .int y13), (3, .int p18), (4, .int y15), (5, .int p20)] [.int p24] by
            refine q_icmp_ge (pc := 123) hX 138 (by decide) dX7_findsKinds_123 (fun c => ?_) (fun c => ?_)
            · rw [if_pos c] at hp24
              refine q_iconst (pc := 138) hX (1) rfl dX7_findsKinds_138 ?_
              refine q_goto (pc := 139) hX 143 (by decide) dX7_findsKinds_139 ?_
              cases hp24
              exact Jp24
            · rw [if_neg c] at hp24
              refine q_iload (pc := 126) hX 5 rfl dX7_findsKinds_126 ?_
              refine q_if_eq (pc := 128) hX 142 (by decide) dX7_findsKinds_128 (fun c => ?_) (fun c => ?_)
              · rw [if_pos c] at hp24
                refine q_iconst (pc := 142) hX (0) rfl dX7_findsKinds_142 ?_
                cases hp24
                exact Jp24
              · rw [if_neg c] at hp24
                refine q_iload_n (pc := 131) hX 3 rfl rfl dX7_findsKinds_131 ?_
                refine q_sipush (pc := 132) hX (480) (by decide) dX7_findsKinds_132 ?_
                refine q_icmp_lt (pc := 135) hX 142 (by decide) dX7_findsKinds_135 (fun c => ?_) (fun c => ?_)
                · rw [if_pos c] at hp24
                  refine q_iconst (pc := 142) hX (0) rfl dX7_findsKinds_142 ?_
                  cases hp24
                  exact Jp24
                · rw [if_neg c] at hp24
                  refine q_iconst (pc := 138) hX (1) rfl dX7_findsKinds_138 ?_
                  refine q_goto (pc := 139) hX 143 (by decide) dX7_findsKinds_139 ?_
                  cases hp24
                  exact Jp24
          refine q_istore (pc := 143) (lo' := [(0, .ref (o 1)), (1, .int p7.1), (2, .int y13), (3, .int p18), (4, .int y15), (5, .int p20), (6, .int p24)]) hX [1, 2, 3, 4, 5, 6, 0] (by decide) rfl dX7_findsKinds_143 ?_
          refine q_aload_n (pc := 145) hX 0 rfl rfl dX7_findsKinds_145 ?_
          refine q_get (pc := 146) (id := 1) (ci := 7) (N := 34) (T := TX7) (C := RX7) hX 25 (lt46 (by decide)) rfl rfl in_X7 (by decide) (Or.inl kw_100) rfl dX7_findsKinds_146 ?_
          refine q_iload (pc := 149) hX 4 rfl dX7_findsKinds_149 ?_
          refine q_iload (pc := 151) hX 6 rfl dX7_findsKinds_151 ?_
          obtain ⟨p26, hp26, hp33⟩ := bnd_ob hp33
          suffices Jp26 : WM X o hn M16 G 0 0 184 7 [(0, .ref (o 1)), (1, .int p7.1), (2, .int y13), (3, .int p18), (4, .int y15)] [.int p26, .int y15, .ref (o 22)] by
            refine q_if_eq (pc := 153) hX 160 (by decide) dX7_findsKinds_153 (fun c => ?_) (fun c => ?_)
            · rw [if_pos c] at hp26
              refine q_iload_n (pc := 160) hX 3 rfl rfl dX7_findsKinds_160 ?_
              refine q_sipush (pc := 161) hX (480) (by decide) dX7_findsKinds_161 ?_
              refine q_icmp_ge (pc := 164) hX 179 (by decide) dX7_findsKinds_164 (fun c => ?_) (fun c => ?_)
              · rw [if_pos c] at hp26
                refine q_iconst (pc := 179) hX (1) rfl dX7_findsKinds_179 ?_
                refine q_goto (pc := 180) hX 184 (by decide) dX7_findsKinds_180 ?_
                refine q_lo [0, 1, 2, 3, 4] rfl ?_
                cases hp26
                exact Jp26
              · rw [if_neg c] at hp26
                refine q_iload_n (pc := 167) hX 2 rfl rfl dX7_findsKinds_167 ?_
                refine q_sipush (pc := 168) hX (2400) (by decide) dX7_findsKinds_168 ?_
                refine q_icmp_ge (pc := 171) hX 179 (by decide) dX7_findsKinds_171 (fun c => ?_) (fun c => ?_)
                · rw [if_pos c] at hp26
                  refine q_iconst (pc := 179) hX (1) rfl dX7_findsKinds_179 ?_
                  refine q_goto (pc := 180) hX 184 (by decide) dX7_findsKinds_180 ?_
                  refine q_lo [0, 1, 2, 3, 4] rfl ?_
                  cases hp26
                  exact Jp26
                · rw [if_neg c] at hp26
                  refine q_iload (pc := 174) hX 5 rfl dX7_findsKinds_174 ?_
                  refine q_if_eq (pc := 176) hX 183 (by decide) dX7_findsKinds_176 (fun c => ?_) (fun c => ?_)
                  · rw [if_pos c] at hp26
                    refine q_iconst (pc := 183) hX (0) rfl dX7_findsKinds_183 ?_
                    refine q_lo [0, 1, 2, 3, 4] rfl ?_
                    cases hp26
                    exact Jp26
                  · rw [if_neg c] at hp26
                    refine q_iconst (pc := 179) hX (1) rfl dX7_findsKinds_179 ?_
                    refine q_goto (pc := 180) hX 184 (by decide) dX7_findsKinds_180 ?_
                    refine q_lo [0, 1, 2, 3, 4] rfl ?_
                    cases hp26
                    exact Jp26
            · rw [if_neg c] at hp26
              refine q_iconst (pc := 156) hX (2) rfl dX7_findsKinds_156 ?_
              refine q_goto (pc := 157) hX 184 (by decide) dX7_findsKinds_157 ?_
              refine q_lo [0, 1, 2, 3, 4] rfl ?_
              cases hp26
              exact Jp26
          obtain ⟨M27, hM27, hp33⟩ := ob_bind hp33
          refine r_iast (pc := 184) (id := 22) (n := 10080) hX (lt46 (by decide)) (fun _ _ => rfl) hM27 dX7_findsKinds_184 ?_
          refine q_aload_n (pc := 185) hX 0 rfl rfl dX7_findsKinds_185 ?_
          refine q_get (pc := 186) (id := 1) (ci := 7) (N := 34) (T := TX7) (C := RX7) hX 28 (lt46 (by decide)) rfl rfl in_X7 (by decide) (Or.inl kw_103) rfl dX7_findsKinds_186 ?_
          refine q_iconst (pc := 189) hX (3) rfl dX7_findsKinds_189 ?_
          refine q_iload (pc := 190) hX 4 rfl dX7_findsKinds_190 ?_
          refine q_sipush (pc := 192) hX (1440) (by decide) dX7_findsKinds_192 ?_
          refine q_idiv (pc := 195) hX (by decide) dX7_findsKinds_195 ?_
          refine q_imul (pc := 196) hX dX7_findsKinds_196 ?_
          refine q_aload_n (pc := 197) hX 0 rfl rfl dX7_findsKinds_197 ?_
          refine q_get (pc := 198) (id := 1) (ci := 7) (N := 34) (T := TX7) (C := RX7) hX 25 (lt46 (by decide)) rfl rfl in_X7 (by decide) (Or.inl kw_100) rfl dX7_findsKinds_198 ?_
          refine q_iload (pc := 201) hX 4 rfl dX7_findsKinds_201 ?_
          obtain ⟨v28, hv28, hp33⟩ := ob_bind hp33
          refine r_iald (pc := 203) (id := 22) (n := 10080) hX (lt46 (by decide)) (fun _ _ => rfl) hv28 dX7_findsKinds_203 ?_
          refine q_iadd (pc := 204) hX dX7_findsKinds_204 ?_
          refine q_dup2 (pc := 205) hX rfl rfl dX7_findsKinds_205 ?_
          obtain ⟨v29, hv29, hp33⟩ := ob_bind hp33
          refine r_iald (pc := 206) (id := 25) (n := 21) hX (lt46 (by decide)) (fun _ _ => rfl) hv29 dX7_findsKinds_206 ?_
          refine q_iconst (pc := 207) hX (1) rfl dX7_findsKinds_207 ?_
          refine q_iadd (pc := 208) hX dX7_findsKinds_208 ?_
          obtain ⟨M30, hM30, hp33⟩ := ob_bind hp33
          refine r_iast (pc := 209) (id := 25) (n := 21) hX (lt46 (by decide)) (fun _ _ => rfl) hM30 dX7_findsKinds_209 ?_
          obtain ⟨z31, hz31⟩ : ∃ z : Int32, z = p18 + 1 := ⟨_, rfl⟩
          have hp33 := bnd_nm hz31 hp33
          refine q_iinc (pc := 210) (lo' := [(0, .ref (o 1)), (1, .int p7.1), (2, .int y13), (3, .int z31), (4, .int y15)]) hX 3 z31 [1, 2, 3, 0, 4] rfl (by rw [hz31]; rfl) (by decide) rfl dX7_findsKinds_210 ?_
          obtain ⟨z32, hz32⟩ : ∃ z : Int32, z = y13 + 1 := ⟨_, rfl⟩
          have hp33 := bnd_nm hz32 hp33
          refine q_iinc (pc := 213) (lo' := [(0, .ref (o 1)), (1, .int p7.1), (2, .int z32), (3, .int z31), (4, .int y15)]) hX 2 z32 [1, 2, 0, 3, 4] rfl (by rw [hz32]; rfl) (by decide) rfl dX7_findsKinds_213 ?_
          cases hp33
          exact Jp33
      obtain ⟨z34, hz34⟩ : ∃ z : Int32, z = y15 + 1 := ⟨_, rfl⟩
      have hE := bnd_nm hz34 hE
      refine q_iinc (pc := 216) (lo' := [(0, .ref (o 1)), (1, .int p7.1), (2, .int p33.1), (3, .int p33.2.1), (4, .int z34)]) hX 4 z34 [1, 2, 3, 4, 0] rfl (by rw [hz34]; rfl) (by decide) rfl dX7_findsKinds_216 ?_
      refine q_goto (pc := 219) hX 63 (by decide) dX7_findsKinds_219 ?_
      exact ih _ _ _ _ p35 hE hx

set_option maxHeartbeats 4000000 in
theorem c_X7_findsKinds {Y : Lx} {o : Nat → Nat} {hn : Nat} {M : Mem} {G : Mel} {Mr : Mem} (hE : s_X7_findsKinds M = some (Mr)) : MI Y yX7_findsKinds cX7_findsKinds 7 none 0 0 0 0 [.ref (o 1)] o hn M G (.inl (none)) Mr G := by
  refine MI.of (by decide +kernel) (Nat.le_of_ble_eq_true rfl) (fun X hY hX hE0 hR => ?_)
  change CxOK X RX7 cX7_findsKinds 7 0 0 0 0 none at hX
  show WM X o hn M G 0 0 0 7 [(0, .ref (o 1))] []
  unfold s_X7_findsKinds at hE
  refine q_iconst (pc := 0) hX (1) rfl dX7_findsKinds_0 ?_
  refine q_istore_n (pc := 1) (lo' := [(0, .ref (o 1)), (1, .int 1)]) hX [1, 0] rfl (by decide) rfl dX7_findsKinds_1 ?_
  refine q_iconst (pc := 2) hX (0) rfl dX7_findsKinds_2 ?_
  refine q_istore_n (pc := 3) (lo' := [(0, .ref (o 1)), (1, .int 1), (2, .int 0)]) hX [1, 2, 0] rfl (by decide) rfl dX7_findsKinds_3 ?_
  obtain ⟨p7, hp7, hE⟩ := ob_bind hE
  refine l_X7_findsKinds_4 hX hE0 FU _ _ p7 hp7 ?_
  refine q_iconst (pc := 35) hX (0) rfl dX7_findsKinds_35 ?_
  refine q_istore_n (pc := 36) (lo' := [(0, .ref (o 1)), (1, .int p7.1), (2, .int 0)]) hX [1, 2, 0] rfl (by decide) rfl dX7_findsKinds_36 ?_
  obtain ⟨p12, hp12, hE⟩ := ob_bind hE
  refine l_X7_findsKinds_37 hX hE0 FU _ _ p12 hp12 ?_
  refine q_iconst (pc := 56) hX (0) rfl dX7_findsKinds_56 ?_
  refine q_istore_n (pc := 57) (lo' := [(0, .ref (o 1)), (1, .int p7.1), (2, .int 0)]) hX [1, 2, 0] rfl (by decide) rfl dX7_findsKinds_57 ?_
  refine q_iconst (pc := 58) hX (0) rfl dX7_findsKinds_58 ?_
  refine q_istore_n (pc := 59) (lo' := [(0, .ref (o 1)), (1, .int p7.1), (2, .int 0), (3, .int 0)]) hX [1, 2, 3, 0] rfl (by decide) rfl dX7_findsKinds_59 ?_
  refine q_iconst (pc := 60) hX (0) rfl dX7_findsKinds_60 ?_
  refine q_istore (pc := 61) (lo' := [(0, .ref (o 1)), (1, .int p7.1), (2, .int 0), (3, .int 0), (4, .int 0)]) hX [1, 2, 3, 4, 0] (by decide) rfl dX7_findsKinds_61 ?_
  obtain ⟨p35, hp35, hE⟩ := ob_bind hE
  refine l_X7_findsKinds_63 hX hE0 FU _ _ _ _ p35 hp35 ?_
  cases hE
  exact q_vret hX hR (by decide) (by decide) dX7_findsKinds_222

set_option maxHeartbeats 4000000 in
theorem l_X7_ahead_20 {X : Cx} (hX : CxOK X RX7 cX7_ahead 7 0 0 0 0 (some .int)) (hE0 : CxE X []) {o : Nat → Nat} {hn : Nat} {M : Mem} {x1 : Int32} {x2 : Int32} {G : Mel} {z2 : Int32} : ∀ (f : Nat) (y3 : Int32) (y4 : Int32) (p11 : Int32 × Int32), L_X7_ahead_20 M x1 x2 z2 f y3 y4 = some p11 → WM X o hn M G 0 0 77 7 [(0, .ref (o 1)), (1, .int x1), (2, .int x2), (3, .int z2), (4, .int p11.1), (5, .int p11.2)] [] → WM X o hn M G 0 0 20 7 [(0, .ref (o 1)), (1, .int x1), (2, .int x2), (3, .int z2), (4, .int y3), (5, .int y4)] [] := by
  intro f
  induction f with
  | zero => intro y3 y4 p11 hE; simp [L_X7_ahead_20] at hE
  | succ f ih =>
    intro y3 y4 p11 hE hx
    rw [L_X7_ahead_20] at hE
    refine q_iload (pc := 20) hX 5 rfl dX7_ahead_20 ?_
    refine q_bipush (pc := 22) hX (7) (by decide) dX7_ahead_22 ?_
    refine q_icmp_ge (pc := 24) hX 77 (by decide) dX7_ahead_24 (fun c => ?_) (fun c => ?_)
    · rw [if_pos c] at hE
      cases hE
      exact hx
    · rw [if_neg c] at hE
      refine q_aload_n (pc := 27) hX 0 rfl rfl dX7_ahead_27 ?_
      refine q_get (pc := 28) (id := 1) (ci := 7) (N := 34) (T := TX7) (C := RX7) hX 28 (lt46 (by decide)) rfl rfl in_X7 (by decide) (Or.inl kw_103) rfl dX7_ahead_28 ?_
      refine q_iconst (pc := 31) hX (3) rfl dX7_ahead_31 ?_
      refine q_iload (pc := 32) hX 5 rfl dX7_ahead_32 ?_
      refine q_imul (pc := 34) hX dX7_ahead_34 ?_
      refine q_iload_n (pc := 35) hX 2 rfl rfl dX7_ahead_35 ?_
      refine q_iadd (pc := 36) hX dX7_ahead_36 ?_
      obtain ⟨v5, hv5, hE⟩ := ob_bind hE
      refine r_iald (pc := 37) (id := 25) (n := 21) hX (lt46 (by decide)) (fun _ _ => rfl) hv5 dX7_ahead_37 ?_
      refine q_bipush (pc := 38) hX (15) (by decide) dX7_ahead_38 ?_
      refine q_irem (pc := 40) hX (by decide) dX7_ahead_40 ?_
      refine q_nm (fun z6 hz6 => ?_)
      have hE := bnd_nm hz6 hE
      refine q_istore (pc := 41) (lo' := [(0, .ref (o 1)), (1, .int x1), (2, .int x2), (3, .int z2), (4, .int y3), (5, .int y4), (6, .int z6)]) hX [1, 2, 3, 4, 5, 6, 0] (by decide) rfl dX7_ahead_41 ?_
      refine q_iload (pc := 43) hX 4 rfl dX7_ahead_43 ?_
      refine q_iload (pc := 45) hX 6 rfl dX7_ahead_45 ?_
      refine q_iload_n (pc := 47) hX 3 rfl rfl dX7_ahead_47 ?_
      obtain ⟨p8, hp8, hE⟩ := bnd_ob hE
      suffices Jp8 : WM X o hn M G 0 0 68 7 [(0, .ref (o 1)), (1, .int x1), (2, .int x2), (3, .int z2), (5, .int y4)] [.int p8, .int y3] by
        refine q_icmp_gt (pc := 48) hX 63 (by decide) dX7_ahead_48 (fun c => ?_) (fun c => ?_)
        · rw [if_pos c] at hp8
          refine q_iconst (pc := 63) hX (1) rfl dX7_ahead_63 ?_
          refine q_goto (pc := 64) hX 68 (by decide) dX7_ahead_64 ?_
          refine q_lo [0, 1, 2, 3, 5] rfl ?_
          cases hp8
          exact Jp8
        · rw [if_neg c] at hp8
          refine q_iload (pc := 51) hX 6 rfl dX7_ahead_51 ?_
          refine q_iload_n (pc := 53) hX 3 rfl rfl dX7_ahead_53 ?_
          refine q_icmp_ne (pc := 54) hX 67 (by decide) dX7_ahead_54 (fun c => ?_) (fun c => ?_)
          · rw [if_neg c] at hp8
            refine q_iconst (pc := 67) hX (0) rfl dX7_ahead_67 ?_
            refine q_lo [0, 1, 2, 3, 5] rfl ?_
            cases hp8
            exact Jp8
          · rw [if_pos c] at hp8
            refine q_iload (pc := 57) hX 5 rfl dX7_ahead_57 ?_
            refine q_iload_n (pc := 59) hX 1 rfl rfl dX7_ahead_59 ?_
            refine q_icmp_ge (pc := 60) hX 67 (by decide) dX7_ahead_60 (fun c => ?_) (fun c => ?_)
            · rw [if_pos c] at hp8
              refine q_iconst (pc := 67) hX (0) rfl dX7_ahead_67 ?_
              refine q_lo [0, 1, 2, 3, 5] rfl ?_
              cases hp8
              exact Jp8
            · rw [if_neg c] at hp8
              refine q_iconst (pc := 63) hX (1) rfl dX7_ahead_63 ?_
              refine q_goto (pc := 64) hX 68 (by decide) dX7_ahead_64 ?_
              refine q_lo [0, 1, 2, 3, 5] rfl ?_
              cases hp8
              exact Jp8
      refine q_iadd (pc := 68) hX dX7_ahead_68 ?_
      refine q_nm (fun z9 hz9 => ?_)
      have hE := bnd_nm hz9 hE
      refine q_istore (pc := 69) (lo' := [(0, .ref (o 1)), (1, .int x1), (2, .int x2), (3, .int z2), (4, .int z9), (5, .int y4)]) hX [1, 2, 3, 4, 0, 5] (by decide) rfl dX7_ahead_69 ?_
      obtain ⟨z10, hz10⟩ : ∃ z : Int32, z = y4 + 1 := ⟨_, rfl⟩
      have hE := bnd_nm hz10 hE
      refine q_iinc (pc := 71) (lo' := [(0, .ref (o 1)), (1, .int x1), (2, .int x2), (3, .int z2), (4, .int z9), (5, .int z10)]) hX 5 z10 [1, 2, 3, 4, 5, 0] rfl (by rw [hz10]; rfl) (by decide) rfl dX7_ahead_71 ?_
      refine q_goto (pc := 74) hX 20 (by decide) dX7_ahead_74 ?_
      exact ih _ _ p11 hE hx

set_option maxHeartbeats 4000000 in
theorem c_X7_ahead {Y : Lx} {o : Nat → Nat} {hn : Nat} {M : Mem} {G : Mel} {x1 : Int32} {x2 : Int32} {rr : Int32} (hE : s_X7_ahead M x1 x2 = some (rr)) : MI Y yX7_ahead cX7_ahead 7 (some .int) 0 0 0 0 [.ref (o 1), .int x1, .int x2] o hn M G (.inl (some (.int rr))) M G := by
  refine MI.of (by decide +kernel) (Nat.le_of_ble_eq_true rfl) (fun X hY hX hE0 hR => ?_)
  change CxOK X RX7 cX7_ahead 7 0 0 0 0 (some .int) at hX
  show WM X o hn M G 0 0 0 7 [(0, .ref (o 1)), (1, .int x1), (2, .int x2)] []
  unfold s_X7_ahead at hE
  refine q_aload_n (pc := 0) hX 0 rfl rfl dX7_ahead_0 ?_
  refine q_get (pc := 1) (id := 1) (ci := 7) (N := 34) (T := TX7) (C := RX7) hX 28 (lt46 (by decide)) rfl rfl in_X7 (by decide) (Or.inl kw_103) rfl dX7_ahead_1 ?_
  refine q_iconst (pc := 4) hX (3) rfl dX7_ahead_4 ?_
  refine q_iload_n (pc := 5) hX 1 rfl rfl dX7_ahead_5 ?_
  refine q_imul (pc := 6) hX dX7_ahead_6 ?_
  refine q_iload_n (pc := 7) hX 2 rfl rfl dX7_ahead_7 ?_
  refine q_iadd (pc := 8) hX dX7_ahead_8 ?_
  obtain ⟨v1, hv1, hE⟩ := ob_bind hE
  refine r_iald (pc := 9) (id := 25) (n := 21) hX (lt46 (by decide)) (fun _ _ => rfl) hv1 dX7_ahead_9 ?_
  refine q_bipush (pc := 10) hX (15) (by decide) dX7_ahead_10 ?_
  refine q_irem (pc := 12) hX (by decide) dX7_ahead_12 ?_
  refine q_nm (fun z2 hz2 => ?_)
  have hE := bnd_nm hz2 hE
  refine q_istore_n (pc := 13) (lo' := [(0, .ref (o 1)), (1, .int x1), (2, .int x2), (3, .int z2)]) hX [1, 2, 3, 0] rfl (by decide) rfl dX7_ahead_13 ?_
  refine q_iconst (pc := 14) hX (0) rfl dX7_ahead_14 ?_
  refine q_istore (pc := 15) (lo' := [(0, .ref (o 1)), (1, .int x1), (2, .int x2), (3, .int z2), (4, .int 0)]) hX [1, 2, 3, 4, 0] (by decide) rfl dX7_ahead_15 ?_
  refine q_iconst (pc := 17) hX (0) rfl dX7_ahead_17 ?_
  refine q_istore (pc := 18) (lo' := [(0, .ref (o 1)), (1, .int x1), (2, .int x2), (3, .int z2), (4, .int 0), (5, .int 0)]) hX [1, 2, 3, 4, 5, 0] (by decide) rfl dX7_ahead_18 ?_
  obtain ⟨p11, hp11, hE⟩ := ob_bind hE
  refine l_X7_ahead_20 hX hE0 FU _ _ p11 hp11 ?_
  refine q_iload (pc := 77) hX 4 rfl dX7_ahead_77 ?_
  cases hE
  exact q_iret hX hR (by decide) (by decide) dX7_ahead_79

set_option maxHeartbeats 4000000 in
theorem l_X7_findsShares_14 {X : Cx} (hX : CxOK X RX7 cX7_findsShares 5 1 26 0 0 none) (hE0 : CxE X []) {o : Nat → Nat} {hn : Nat} {G : Mel} {y1 : Int32} : ∀ (f : Nat) (y3 : Int32) (y4 : Int32) (y5 : Int32) (M6 : Mem) (p14 : Int32 × Int32 × Int32 × Mem), L_X7_findsShares_14 y1 f y3 y4 y5 M6 = some p14 → WM X o hn p14.2.2.2 G 0 0 83 5 [(0, .ref (o 1)), (1, .int y1), (2, .int p14.1), (3, .int p14.2.1), (4, .int p14.2.2.1)] [] → WM X o hn M6 G 0 0 14 5 [(0, .ref (o 1)), (1, .int y1), (2, .int y3), (3, .int y4), (4, .int y5)] [] := by
  intro f
  induction f with
  | zero => intro y3 y4 y5 M6 p14 hE; simp [L_X7_findsShares_14] at hE
  | succ f ih =>
    intro y3 y4 y5 M6 p14 hE hx
    rw [L_X7_findsShares_14] at hE
    refine q_iload (pc := 14) hX 4 rfl dX7_findsShares_14 ?_
    refine q_bipush (pc := 16) hX (7) (by decide) dX7_findsShares_16 ?_
    refine q_icmp_ge (pc := 18) hX 83 (by decide) dX7_findsShares_18 (fun c => ?_) (fun c => ?_)
    · rw [if_pos c] at hE
      cases hE
      exact hx
    · rw [if_neg c] at hE
      refine q_iload_n (pc := 21) hX 2 rfl rfl dX7_findsShares_21 ?_
      refine q_aload_n (pc := 22) hX 0 rfl rfl dX7_findsShares_22 ?_
      refine q_get (pc := 23) (id := 1) (ci := 7) (N := 34) (T := TX7) (C := RX7) hX 28 (lt46 (by decide)) rfl rfl in_X7 (by decide) (Or.inl kw_103) rfl dX7_findsShares_23 ?_
      refine q_iconst (pc := 26) hX (3) rfl dX7_findsShares_26 ?_
      refine q_iload (pc := 27) hX 4 rfl dX7_findsShares_27 ?_
      refine q_imul (pc := 29) hX dX7_findsShares_29 ?_
      refine q_iload_n (pc := 30) hX 1 rfl rfl dX7_findsShares_30 ?_
      refine q_iadd (pc := 31) hX dX7_findsShares_31 ?_
      obtain ⟨v7, hv7, hE⟩ := ob_bind hE
      refine r_iald (pc := 32) (id := 25) (n := 21) hX (lt46 (by decide)) (fun _ _ => rfl) hv7 dX7_findsShares_32 ?_
      refine q_iadd (pc := 33) hX dX7_findsShares_33 ?_
      refine q_nm (fun z8 hz8 => ?_)
      have hE := bnd_nm hz8 hE
      refine q_istore_n (pc := 34) (lo' := [(0, .ref (o 1)), (1, .int y1), (2, .int z8), (3, .int y4), (4, .int y5)]) hX [1, 2, 0, 3, 4] rfl (by decide) rfl dX7_findsShares_34 ?_
      refine q_aload_n (pc := 35) hX 0 rfl rfl dX7_findsShares_35 ?_
      refine q_get (pc := 36) (id := 1) (ci := 7) (N := 34) (T := TX7) (C := RX7) hX 29 (lt46 (by decide)) rfl rfl in_X7 (by decide) (Or.inl kw_104) rfl dX7_findsShares_36 ?_
      refine q_iconst (pc := 39) hX (3) rfl dX7_findsShares_39 ?_
      refine q_iload (pc := 40) hX 4 rfl dX7_findsShares_40 ?_
      refine q_imul (pc := 42) hX dX7_findsShares_42 ?_
      refine q_iload_n (pc := 43) hX 1 rfl rfl dX7_findsShares_43 ?_
      refine q_iadd (pc := 44) hX dX7_findsShares_44 ?_
      refine q_aload_n (pc := 45) hX 0 rfl rfl dX7_findsShares_45 ?_
      refine q_get (pc := 46) (id := 1) (ci := 7) (N := 34) (T := TX7) (C := RX7) hX 28 (lt46 (by decide)) rfl rfl in_X7 (by decide) (Or.inl kw_103) rfl dX7_findsShares_46 ?_
      refine q_iconst (pc := 49) hX (3) rfl dX7_findsShares_49 ?_
      refine q_iload (pc := 50) hX 4 rfl dX7_findsShares_50 ?_
      refine q_imul (pc := 52) hX dX7_findsShares_52 ?_
      refine q_iload_n (pc := 53) hX 1 rfl rfl dX7_findsShares_53 ?_
      refine q_iadd (pc := 54) hX dX7_findsShares_54 ?_
      obtain ⟨v9, hv9, hE⟩ := ob_bind hE
      refine r_iald (pc := 55) (id := 25) (n := 21) hX (lt46 (by decide)) (fun _ _ => rfl) hv9 dX7_findsShares_55 ?_
      refine q_bipush (pc := 56) hX (15) (by decide) dX7_findsShares_56 ?_
      refine q_idiv (pc := 58) hX (by decide) dX7_findsShares_58 ?_
      obtain ⟨M10, hM10, hE⟩ := ob_bind hE
      refine r_iast (pc := 59) (id := 26) (n := 21) hX (lt46 (by decide)) (fun _ _ => rfl) hM10 dX7_findsShares_59 ?_
      refine q_iload_n (pc := 60) hX 3 rfl rfl dX7_findsShares_60 ?_
      refine q_aload_n (pc := 61) hX 0 rfl rfl dX7_findsShares_61 ?_
      refine q_get (pc := 62) (id := 1) (ci := 7) (N := 34) (T := TX7) (C := RX7) hX 28 (lt46 (by decide)) rfl rfl in_X7 (by decide) (Or.inl kw_103) rfl dX7_findsShares_62 ?_
      refine q_iconst (pc := 65) hX (3) rfl dX7_findsShares_65 ?_
      refine q_iload (pc := 66) hX 4 rfl dX7_findsShares_66 ?_
      refine q_imul (pc := 68) hX dX7_findsShares_68 ?_
      refine q_iload_n (pc := 69) hX 1 rfl rfl dX7_findsShares_69 ?_
      refine q_iadd (pc := 70) hX dX7_findsShares_70 ?_
      obtain ⟨v11, hv11, hE⟩ := ob_bind hE
      refine r_iald (pc := 71) (id := 25) (n := 21) hX (lt46 (by decide)) (fun _ _ => rfl) hv11 dX7_findsShares_71 ?_
      refine q_bipush (pc := 72) hX (15) (by decide) dX7_findsShares_72 ?_
      refine q_idiv (pc := 74) hX (by decide) dX7_findsShares_74 ?_
      refine q_isub (pc := 75) hX dX7_findsShares_75 ?_
      refine q_nm (fun z12 hz12 => ?_)
      have hE := bnd_nm hz12 hE
      refine q_istore_n (pc := 76) (lo' := [(0, .ref (o 1)), (1, .int y1), (2, .int z8), (3, .int z12), (4, .int y5)]) hX [1, 2, 3, 0, 4] rfl (by decide) rfl dX7_findsShares_76 ?_
      obtain ⟨z13, hz13⟩ : ∃ z : Int32, z = y5 + 1 := ⟨_, rfl⟩
      have hE := bnd_nm hz13 hE
      refine q_iinc (pc := 77) (lo' := [(0, .ref (o 1)), (1, .int y1), (2, .int z8), (3, .int z12), (4, .int z13)]) hX 4 z13 [1, 2, 3, 4, 0] rfl (by rw [hz13]; rfl) (by decide) rfl dX7_findsShares_77 ?_
      refine q_goto (pc := 80) hX 14 (by decide) dX7_findsShares_80 ?_
      exact ih _ _ _ _ p14 hE hx

set_option maxHeartbeats 4000000 in
theorem l_X7_findsShares_108 {X : Cx} (hX : CxOK X RX7 cX7_findsShares 5 1 26 0 0 none) (hE0 : CxE X []) {o : Nat → Nat} {hn : Nat} {G : Mel} {y1 : Int32} {z17 : Int32} : ∀ (f : Nat) (y18 : Int32) (M19 : Mem) (p26 : Int32 × Mem), L_X7_findsShares_108 y1 z17 f y18 M19 = some p26 → WM X o hn p26.2 G 0 0 151 5 [(0, .ref (o 1)), (1, .int y1), (3, .int z17), (4, .int p26.1)] [] → WM X o hn M19 G 0 0 108 5 [(0, .ref (o 1)), (1, .int y1), (3, .int z17), (4, .int y18)] [] := by
  intro f
  induction f with
  | zero => intro y18 M19 p26 hE; simp [L_X7_findsShares_108] at hE
  | succ f ih =>
    intro y18 M19 p26 hE hx
    rw [L_X7_findsShares_108] at hE
    refine q_iload (pc := 108) hX 3 rfl dX7_findsShares_108 ?_
    refine q_bipush (pc := 110) hX (7) (by decide) dX7_findsShares_110 ?_
    refine q_icmp_ge (pc := 112) hX 151 (by decide) dX7_findsShares_112 (fun c => ?_) (fun c => ?_)
    · rw [if_pos c] at hE
      cases hE
      exact hx
    · rw [if_neg c] at hE
      refine q_aload_n (pc := 115) hX 0 rfl rfl dX7_findsShares_115 ?_
      refine q_get (pc := 116) (id := 1) (ci := 7) (N := 34) (T := TX7) (C := RX7) hX 29 (lt46 (by decide)) rfl rfl in_X7 (by decide) (Or.inl kw_104) rfl dX7_findsShares_116 ?_
      refine q_iconst (pc := 119) hX (3) rfl dX7_findsShares_119 ?_
      refine q_iload (pc := 120) hX 3 rfl dX7_findsShares_120 ?_
      refine q_imul (pc := 122) hX dX7_findsShares_122 ?_
      refine q_iload_n (pc := 123) hX 1 rfl rfl dX7_findsShares_123 ?_
      refine q_iadd (pc := 124) hX dX7_findsShares_124 ?_
      refine q_dup2 (pc := 125) hX rfl rfl dX7_findsShares_125 ?_
      obtain ⟨v20, hv20, hE⟩ := ob_bind hE
      refine r_iald (pc := 126) (id := 26) (n := 21) hX (lt46 (by decide)) (fun _ _ => rfl) hv20 dX7_findsShares_126 ?_
      refine q_aload_n (pc := 127) hX 0 rfl rfl dX7_findsShares_127 ?_
      refine q_iload (pc := 128) hX 3 rfl dX7_findsShares_128 ?_
      refine q_iload_n (pc := 130) hX 1 rfl rfl dX7_findsShares_130 ?_
      obtain ⟨r21, hr21, hE⟩ := ob_bind hE
      refine q_callV (pc := 131) (id := 1) (As := [.int y18, .int y1]) (rest := [.int v20, .int ((3 * y18) + y1), .ref (o 26)]) (rv := some (.int r21)) (st' := [.int r21, .int v20, .int ((3 * y18) + y1), .ref (o 26)]) hX (c_X7_ahead hr21) (vl_X7_161) (lt46 (by decide)) rfl rfl rfl pd_yX7_ahead rfl ⟨by decide, by decide⟩ ⟨by decide, by decide⟩ rfl (Nat.le_of_ble_eq_true rfl) rfl dX7_findsShares_131 ?_
      refine q_iload_n (pc := 134) hX 2 rfl rfl dX7_findsShares_134 ?_
      obtain ⟨p23, hp23, hE⟩ := bnd_ob hE
      suffices Jp23 : WM X o hn M19 G 0 0 143 5 [(0, .ref (o 1)), (1, .int y1), (3, .int z17), (4, .int y18)] [.int p23, .int v20, .int ((3 * y18) + y1), .ref (o 26)] by
        refine q_icmp_ge (pc := 135) hX 142 (by decide) dX7_findsShares_135 (fun c => ?_) (fun c => ?_)
        · rw [if_pos c] at hp23
          refine q_iconst (pc := 142) hX (0) rfl dX7_findsShares_142 ?_
          cases hp23
          exact Jp23
        · rw [if_neg c] at hp23
          refine q_iconst (pc := 138) hX (1) rfl dX7_findsShares_138 ?_
          refine q_goto (pc := 139) hX 143 (by decide) dX7_findsShares_139 ?_
          cases hp23
          exact Jp23
      refine q_iadd (pc := 143) hX dX7_findsShares_143 ?_
      obtain ⟨M24, hM24, hE⟩ := ob_bind hE
      refine r_iast (pc := 144) (id := 26) (n := 21) hX (lt46 (by decide)) (fun _ _ => rfl) hM24 dX7_findsShares_144 ?_
      obtain ⟨z25, hz25⟩ : ∃ z : Int32, z = y18 + 1 := ⟨_, rfl⟩
      have hE := bnd_nm hz25 hE
      refine q_iinc (pc := 145) (lo' := [(0, .ref (o 1)), (1, .int y1), (3, .int z17), (4, .int z25)]) hX 3 z25 [1, 2, 3, 0] rfl (by rw [hz25]; rfl) (by decide) rfl dX7_findsShares_145 ?_
      refine q_goto (pc := 148) hX 108 (by decide) dX7_findsShares_148 ?_
      exact ih _ _ p26 hE hx

set_option maxHeartbeats 4000000 in
theorem l_X7_findsShares_2 {X : Cx} (hX : CxOK X RX7 cX7_findsShares 5 1 26 0 0 none) (hE0 : CxE X []) {o : Nat → Nat} {hn : Nat} {G : Mel} : ∀ (f : Nat) (y1 : Int32) (M2 : Mem) (p28 : Int32 × Mem), L_X7_findsShares_2 f y1 M2 = some p28 → WM X o hn p28.2 G 0 0 157 5 [(0, .ref (o 1)), (1, .int p28.1)] [] → WM X o hn M2 G 0 0 2 5 [(0, .ref (o 1)), (1, .int y1)] [] := by
  intro f
  induction f with
  | zero => intro y1 M2 p28 hE; simp [L_X7_findsShares_2] at hE
  | succ f ih =>
    intro y1 M2 p28 hE hx
    rw [L_X7_findsShares_2] at hE
    refine q_iload_n (pc := 2) hX 1 rfl rfl dX7_findsShares_2 ?_
    refine q_iconst (pc := 3) hX (3) rfl dX7_findsShares_3 ?_
    refine q_icmp_ge (pc := 4) hX 157 (by decide) dX7_findsShares_4 (fun c => ?_) (fun c => ?_)
    · rw [if_pos c] at hE
      cases hE
      exact hx
    · rw [if_neg c] at hE
      refine q_iconst (pc := 7) hX (0) rfl dX7_findsShares_7 ?_
      refine q_istore_n (pc := 8) (lo' := [(0, .ref (o 1)), (1, .int y1), (2, .int 0)]) hX [1, 2, 0] rfl (by decide) rfl dX7_findsShares_8 ?_
      refine q_iconst (pc := 9) hX (0) rfl dX7_findsShares_9 ?_
      refine q_istore_n (pc := 10) (lo' := [(0, .ref (o 1)), (1, .int y1), (2, .int 0), (3, .int 0)]) hX [1, 2, 3, 0] rfl (by decide) rfl dX7_findsShares_10 ?_
      refine q_iconst (pc := 11) hX (0) rfl dX7_findsShares_11 ?_
      refine q_istore (pc := 12) (lo' := [(0, .ref (o 1)), (1, .int y1), (2, .int 0), (3, .int 0), (4, .int 0)]) hX [1, 2, 3, 4, 0] (by decide) rfl dX7_findsShares_12 ?_
      obtain ⟨p14, hp14, hE⟩ := ob_bind hE
      refine l_X7_findsShares_14 hX hE0 FU _ _ _ _ p14 hp14 ?_
      refine q_aload_n (pc := 83) hX 0 rfl rfl dX7_findsShares_83 ?_
      refine q_get (pc := 84) (id := 1) (ci := 7) (N := 34) (T := TX7) (C := RX7) hX 30 (lt46 (by decide)) rfl rfl in_X7 (by decide) (Or.inl kw_105) rfl dX7_findsShares_84 ?_
      refine q_iload_n (pc := 87) hX 1 rfl rfl dX7_findsShares_87 ?_
      refine q_iload_n (pc := 88) hX 2 rfl rfl dX7_findsShares_88 ?_
      refine q_bipush (pc := 89) hX (7) (by decide) dX7_findsShares_89 ?_
      refine q_iadd (pc := 91) hX dX7_findsShares_91 ?_
      refine q_bipush (pc := 92) hX (15) (by decide) dX7_findsShares_92 ?_
      refine q_idiv (pc := 94) hX (by decide) dX7_findsShares_94 ?_
      obtain ⟨M15, hM15, hE⟩ := ob_bind hE
      refine r_iast (pc := 95) (id := 27) (n := 3) hX (lt46 (by decide)) (fun _ _ => rfl) hM15 dX7_findsShares_95 ?_
      refine q_iload_n (pc := 96) hX 3 rfl rfl dX7_findsShares_96 ?_
      refine q_aload_n (pc := 97) hX 0 rfl rfl dX7_findsShares_97 ?_
      refine q_get (pc := 98) (id := 1) (ci := 7) (N := 34) (T := TX7) (C := RX7) hX 30 (lt46 (by decide)) rfl rfl in_X7 (by decide) (Or.inl kw_105) rfl dX7_findsShares_98 ?_
      refine q_iload_n (pc := 101) hX 1 rfl rfl dX7_findsShares_101 ?_
      obtain ⟨v16, hv16, hE⟩ := ob_bind hE
      refine r_iald (pc := 102) (id := 27) (n := 3) hX (lt46 (by decide)) (fun _ _ => rfl) hv16 dX7_findsShares_102 ?_
      refine q_iadd (pc := 103) hX dX7_findsShares_103 ?_
      refine q_nm (fun z17 hz17 => ?_)
      have hE := bnd_nm hz17 hE
      refine q_istore_n (pc := 104) (lo' := [(0, .ref (o 1)), (1, .int y1), (2, .int p14.1), (3, .int z17), (4, .int p14.2.2.1)]) hX [1, 2, 3, 0, 4] rfl (by decide) rfl dX7_findsShares_104 ?_
      refine q_iconst (pc := 105) hX (0) rfl dX7_findsShares_105 ?_
      refine q_istore (pc := 106) (lo' := [(0, .ref (o 1)), (1, .int y1), (2, .int p14.1), (3, .int z17), (4, .int 0)]) hX [1, 2, 3, 4, 0] (by decide) rfl dX7_findsShares_106 ?_
      obtain ⟨p26, hp26, hE⟩ := ob_bind hE
      refine q_lo [0, 1, 3, 4] rfl ?_
      refine l_X7_findsShares_108 hX hE0 FU _ _ p26 hp26 ?_
      obtain ⟨z27, hz27⟩ : ∃ z : Int32, z = y1 + 1 := ⟨_, rfl⟩
      have hE := bnd_nm hz27 hE
      refine q_iinc (pc := 151) (lo' := [(0, .ref (o 1)), (1, .int z27), (3, .int z17), (4, .int p26.1)]) hX 1 z27 [1, 0, 2, 3] rfl (by rw [hz27]; rfl) (by decide) rfl dX7_findsShares_151 ?_
      refine q_goto (pc := 154) hX 2 (by decide) dX7_findsShares_154 ?_
      refine q_lo [0, 1] rfl ?_
      exact ih _ _ p28 hE hx

set_option maxHeartbeats 4000000 in
theorem c_X7_findsShares {Y : Lx} {o : Nat → Nat} {hn : Nat} {M : Mem} {G : Mel} {Mr : Mem} (hE : s_X7_findsShares M = some (Mr)) : MI Y yX7_findsShares cX7_findsShares 5 none 1 26 0 0 [.ref (o 1)] o hn M G (.inl (none)) Mr G := by
  refine MI.of (by decide +kernel) (Nat.le_of_ble_eq_true rfl) (fun X hY hX hE0 hR => ?_)
  change CxOK X RX7 cX7_findsShares 5 1 26 0 0 none at hX
  show WM X o hn M G 0 0 0 5 [(0, .ref (o 1))] []
  unfold s_X7_findsShares at hE
  refine q_iconst (pc := 0) hX (0) rfl dX7_findsShares_0 ?_
  refine q_istore_n (pc := 1) (lo' := [(0, .ref (o 1)), (1, .int 0)]) hX [1, 0] rfl (by decide) rfl dX7_findsShares_1 ?_
  obtain ⟨p28, hp28, hE⟩ := ob_bind hE
  refine l_X7_findsShares_2 hX hE0 FU _ _ p28 hp28 ?_
  cases hE
  exact q_vret hX hR (by decide) (by decide) dX7_findsShares_157

set_option maxHeartbeats 4000000 in
theorem l_X7_lays_7 {X : Cx} (hX : CxOK X RX7 cX7_lays 3 2 51 0 0 none) (hE0 : CxE X []) {o : Nat → Nat} {hn : Nat} {x1 : Int32} {G : Mel} : ∀ (f : Nat) (y2 : Int32) (M3 : Mem) (p7 : Int32 × Mem), L_X7_lays_7 f y2 M3 = some p7 → WM X o hn p7.2 G 0 0 34 3 [(0, .ref (o 1)), (1, .int x1), (2, .int p7.1)] [] → WM X o hn M3 G 0 0 7 3 [(0, .ref (o 1)), (1, .int x1), (2, .int y2)] [] := by
  intro f
  induction f with
  | zero => intro y2 M3 p7 hE; simp [L_X7_lays_7] at hE
  | succ f ih =>
    intro y2 M3 p7 hE hx
    rw [L_X7_lays_7] at hE
    refine q_iload_n (pc := 7) hX 2 rfl rfl dX7_lays_7 ?_
    refine q_sipush (pc := 8) hX (10080) (by decide) dX7_lays_8 ?_
    refine q_icmp_gt (pc := 11) hX 34 (by decide) dX7_lays_11 (fun c => ?_) (fun c => ?_)
    · rw [if_pos c] at hE
      cases hE
      exact hx
    · rw [if_neg c] at hE
      refine q_aload_n (pc := 14) hX 0 rfl rfl dX7_lays_14 ?_
      refine q_get (pc := 15) (id := 1) (ci := 7) (N := 34) (T := TX7) (C := RX7) hX 23 (lt46 (by decide)) rfl rfl in_X7 (by decide) (Or.inl kw_98) rfl dX7_lays_15 ?_
      refine q_iload_n (pc := 18) hX 2 rfl rfl dX7_lays_18 ?_
      refine q_iconst (pc := 19) hX (0) rfl dX7_lays_19 ?_
      obtain ⟨M4, hM4, hE⟩ := ob_bind hE
      refine r_iast (pc := 20) (id := 20) (n := 10081) hX (lt46 (by decide)) (fun _ _ => rfl) hM4 dX7_lays_20 ?_
      refine q_aload_n (pc := 21) hX 0 rfl rfl dX7_lays_21 ?_
      refine q_get (pc := 22) (id := 1) (ci := 7) (N := 34) (T := TX7) (C := RX7) hX 24 (lt46 (by decide)) rfl rfl in_X7 (by decide) (Or.inl kw_99) rfl dX7_lays_22 ?_
      refine q_iload_n (pc := 25) hX 2 rfl rfl dX7_lays_25 ?_
      refine q_iconst (pc := 26) hX (0) rfl dX7_lays_26 ?_
      obtain ⟨M5, hM5, hE⟩ := ob_bind hE
      refine r_iast (pc := 27) (id := 21) (n := 10081) hX (lt46 (by decide)) (fun _ _ => rfl) hM5 dX7_lays_27 ?_
      obtain ⟨z6, hz6⟩ : ∃ z : Int32, z = y2 + 1 := ⟨_, rfl⟩
      have hE := bnd_nm hz6 hE
      refine q_iinc (pc := 28) (lo' := [(0, .ref (o 1)), (1, .int x1), (2, .int z6)]) hX 2 z6 [1, 2, 0] rfl (by rw [hz6]; rfl) (by decide) rfl dX7_lays_28 ?_
      refine q_goto (pc := 31) hX 7 (by decide) dX7_lays_31 ?_
      exact ih _ _ p7 hE hx

set_option maxHeartbeats 4000000 in
theorem l_X7_lays_36 {X : Cx} (hX : CxOK X RX7 cX7_lays 3 2 51 0 0 none) (hE0 : CxE X []) {o : Nat → Nat} {hn : Nat} {x1 : Int32} {G : Mel} : ∀ (f : Nat) (y8 : Int32) (M9 : Mem) (p14 : Int32 × Mem), L_X7_lays_36 f y8 M9 = some p14 → WM X o hn p14.2 G 0 0 70 3 [(0, .ref (o 1)), (1, .int x1), (2, .int p14.1)] [] → WM X o hn M9 G 0 0 36 3 [(0, .ref (o 1)), (1, .int x1), (2, .int y8)] [] := by
  intro f
  induction f with
  | zero => intro y8 M9 p14 hE; simp [L_X7_lays_36] at hE
  | succ f ih =>
    intro y8 M9 p14 hE hx
    rw [L_X7_lays_36] at hE
    refine q_iload_n (pc := 36) hX 2 rfl rfl dX7_lays_36 ?_
    refine q_aload_n (pc := 37) hX 0 rfl rfl dX7_lays_37 ?_
    refine q_get (pc := 38) (id := 1) (ci := 7) (N := 34) (T := TX7) (C := RX7) hX 19 (lt46 (by decide)) rfl rfl in_X7 (by decide) (Or.inl kw_483) rfl dX7_lays_38 ?_
    refine q_icmp_ge (pc := 41) hX 70 (by decide) dX7_lays_41 (fun c => ?_) (fun c => ?_)
    · rw [if_pos c] at hE
      cases hE
      exact hx
    · rw [if_neg c] at hE
      refine q_aload_n (pc := 44) hX 0 rfl rfl dX7_lays_44 ?_
      refine q_aload_n (pc := 45) hX 0 rfl rfl dX7_lays_45 ?_
      refine q_get (pc := 46) (id := 1) (ci := 7) (N := 34) (T := TX7) (C := RX7) hX 23 (lt46 (by decide)) rfl rfl in_X7 (by decide) (Or.inl kw_98) rfl dX7_lays_46 ?_
      refine q_aload_n (pc := 49) hX 0 rfl rfl dX7_lays_49 ?_
      refine q_get (pc := 50) (id := 1) (ci := 7) (N := 34) (T := TX7) (C := RX7) hX 21 (lt46 (by decide)) rfl rfl in_X7 (by decide) (Or.inl kw_96) rfl dX7_lays_50 ?_
      refine q_iload_n (pc := 53) hX 2 rfl rfl dX7_lays_53 ?_
      obtain ⟨v10, hv10, hE⟩ := ob_bind hE
      refine r_iald (pc := 54) (id := 18) (n := 41) hX (lt46 (by decide)) (fun _ _ => rfl) hv10 dX7_lays_54 ?_
      refine q_aload_n (pc := 55) hX 0 rfl rfl dX7_lays_55 ?_
      refine q_get (pc := 56) (id := 1) (ci := 7) (N := 34) (T := TX7) (C := RX7) hX 22 (lt46 (by decide)) rfl rfl in_X7 (by decide) (Or.inl kw_97) rfl dX7_lays_56 ?_
      refine q_iload_n (pc := 59) hX 2 rfl rfl dX7_lays_59 ?_
      obtain ⟨v11, hv11, hE⟩ := ob_bind hE
      refine r_iald (pc := 60) (id := 19) (n := 41) hX (lt46 (by decide)) (fun _ _ => rfl) hv11 dX7_lays_60 ?_
      obtain ⟨r12, hr12, hE⟩ := ob_bind hE
      refine q_callV (pc := 61) (id := 1) (As := [.ref (o 20), .int v10, .int v11]) (rest := []) (rv := none) (st' := []) hX (c_X7_marks (arr_20) hr12) (vl_X7_139) (lt46 (by decide)) rfl rfl rfl pd_yX7_marks rfl ⟨by decide, by decide⟩ ⟨by decide, by decide⟩ rfl (Nat.le_of_ble_eq_true rfl) rfl dX7_lays_61 ?_
      obtain ⟨z13, hz13⟩ : ∃ z : Int32, z = y8 + 1 := ⟨_, rfl⟩
      have hE := bnd_nm hz13 hE
      refine q_iinc (pc := 64) (lo' := [(0, .ref (o 1)), (1, .int x1), (2, .int z13)]) hX 2 z13 [1, 2, 0] rfl (by rw [hz13]; rfl) (by decide) rfl dX7_lays_64 ?_
      refine q_goto (pc := 67) hX 36 (by decide) dX7_lays_67 ?_
      exact ih _ _ p14 hE hx

set_option maxHeartbeats 4000000 in
theorem l_X7_lays_75 {X : Cx} (hX : CxOK X RX7 cX7_lays 3 2 51 0 0 none) (hE0 : CxE X []) {o : Nat → Nat} {hn : Nat} {x1 : Int32} {G : Mel} : ∀ (f : Nat) (y16 : Int32) (M17 : Mem) (p23 : Int32 × Mem), L_X7_lays_75 x1 f y16 M17 = some p23 → WM X o hn p23.2 G 0 0 116 3 [(0, .ref (o 1)), (1, .int x1), (2, .int p23.1)] [] → WM X o hn M17 G 0 0 75 3 [(0, .ref (o 1)), (1, .int x1), (2, .int y16)] [] := by
  intro f
  induction f with
  | zero => intro y16 M17 p23 hE; simp [L_X7_lays_75] at hE
  | succ f ih =>
    intro y16 M17 p23 hE hx
    rw [L_X7_lays_75] at hE
    refine q_iload_n (pc := 75) hX 2 rfl rfl dX7_lays_75 ?_
    refine q_bipush (pc := 76) hX (20) (by decide) dX7_lays_76 ?_
    refine q_iload_n (pc := 78) hX 1 rfl rfl dX7_lays_78 ?_
    refine q_imul (pc := 79) hX dX7_lays_79 ?_
    refine q_aload_n (pc := 80) hX 0 rfl rfl dX7_lays_80 ?_
    refine q_get (pc := 81) (id := 1) (ci := 7) (N := 34) (T := TX7) (C := RX7) hX 8 (lt46 (by decide)) rfl rfl in_X7 (by decide) (Or.inl kw_86) rfl dX7_lays_81 ?_
    refine q_iload_n (pc := 84) hX 1 rfl rfl dX7_lays_84 ?_
    obtain ⟨v18, hv18, hE⟩ := ob_bind hE
    refine r_iald (pc := 85) (id := 8) (n := 6) hX (lt46 (by decide)) (fun _ _ => rfl) hv18 dX7_lays_85 ?_
    refine q_iadd (pc := 86) hX dX7_lays_86 ?_
    refine q_icmp_ge (pc := 87) hX 116 (by decide) dX7_lays_87 (fun c => ?_) (fun c => ?_)
    · rw [if_pos c] at hE
      cases hE
      exact hx
    · rw [if_neg c] at hE
      refine q_aload_n (pc := 90) hX 0 rfl rfl dX7_lays_90 ?_
      refine q_aload_n (pc := 91) hX 0 rfl rfl dX7_lays_91 ?_
      refine q_get (pc := 92) (id := 1) (ci := 7) (N := 34) (T := TX7) (C := RX7) hX 23 (lt46 (by decide)) rfl rfl in_X7 (by decide) (Or.inl kw_98) rfl dX7_lays_92 ?_
      refine q_aload_n (pc := 95) hX 0 rfl rfl dX7_lays_95 ?_
      refine q_get (pc := 96) (id := 1) (ci := 7) (N := 34) (T := TX7) (C := RX7) hX 9 (lt46 (by decide)) rfl rfl in_X7 (by decide) (Or.inl kw_87) rfl dX7_lays_96 ?_
      refine q_iload_n (pc := 99) hX 2 rfl rfl dX7_lays_99 ?_
      obtain ⟨v19, hv19, hE⟩ := ob_bind hE
      refine r_iald (pc := 100) (id := 9) (n := 120) hX (lt46 (by decide)) (fun _ _ => rfl) hv19 dX7_lays_100 ?_
      refine q_aload_n (pc := 101) hX 0 rfl rfl dX7_lays_101 ?_
      refine q_get (pc := 102) (id := 1) (ci := 7) (N := 34) (T := TX7) (C := RX7) hX 10 (lt46 (by decide)) rfl rfl in_X7 (by decide) (Or.inl kw_88) rfl dX7_lays_102 ?_
      refine q_iload_n (pc := 105) hX 2 rfl rfl dX7_lays_105 ?_
      obtain ⟨v20, hv20, hE⟩ := ob_bind hE
      refine r_iald (pc := 106) (id := 10) (n := 120) hX (lt46 (by decide)) (fun _ _ => rfl) hv20 dX7_lays_106 ?_
      obtain ⟨r21, hr21, hE⟩ := ob_bind hE
      refine q_callV (pc := 107) (id := 1) (As := [.ref (o 20), .int v19, .int v20]) (rest := []) (rv := none) (st' := []) hX (c_X7_marks (arr_20) hr21) (vl_X7_139) (lt46 (by decide)) rfl rfl rfl pd_yX7_marks rfl ⟨by decide, by decide⟩ ⟨by decide, by decide⟩ rfl (Nat.le_of_ble_eq_true rfl) rfl dX7_lays_107 ?_
      obtain ⟨z22, hz22⟩ : ∃ z : Int32, z = y16 + 1 := ⟨_, rfl⟩
      have hE := bnd_nm hz22 hE
      refine q_iinc (pc := 110) (lo' := [(0, .ref (o 1)), (1, .int x1), (2, .int z22)]) hX 2 z22 [1, 2, 0] rfl (by rw [hz22]; rfl) (by decide) rfl dX7_lays_110 ?_
      refine q_goto (pc := 113) hX 75 (by decide) dX7_lays_113 ?_
      exact ih _ _ p23 hE hx

set_option maxHeartbeats 4000000 in
theorem l_X7_lays_121 {X : Cx} (hX : CxOK X RX7 cX7_lays 3 2 51 0 0 none) (hE0 : CxE X []) {o : Nat → Nat} {hn : Nat} {x1 : Int32} {G : Mel} : ∀ (f : Nat) (y25 : Int32) (M26 : Mem) (p32 : Int32 × Mem), L_X7_lays_121 x1 f y25 M26 = some p32 → WM X o hn p32.2 G 0 0 162 3 [(0, .ref (o 1)), (1, .int x1), (2, .int p32.1)] [] → WM X o hn M26 G 0 0 121 3 [(0, .ref (o 1)), (1, .int x1), (2, .int y25)] [] := by
  intro f
  induction f with
  | zero => intro y25 M26 p32 hE; simp [L_X7_lays_121] at hE
  | succ f ih =>
    intro y25 M26 p32 hE hx
    rw [L_X7_lays_121] at hE
    refine q_iload_n (pc := 121) hX 2 rfl rfl dX7_lays_121 ?_
    refine q_bipush (pc := 122) hX (20) (by decide) dX7_lays_122 ?_
    refine q_iload_n (pc := 124) hX 1 rfl rfl dX7_lays_124 ?_
    refine q_imul (pc := 125) hX dX7_lays_125 ?_
    refine q_aload_n (pc := 126) hX 0 rfl rfl dX7_lays_126 ?_
    refine q_get (pc := 127) (id := 1) (ci := 7) (N := 34) (T := TX7) (C := RX7) hX 11 (lt46 (by decide)) rfl rfl in_X7 (by decide) (Or.inl kw_89) rfl dX7_lays_127 ?_
    refine q_iload_n (pc := 130) hX 1 rfl rfl dX7_lays_130 ?_
    obtain ⟨v27, hv27, hE⟩ := ob_bind hE
    refine r_iald (pc := 131) (id := 11) (n := 6) hX (lt46 (by decide)) (fun _ _ => rfl) hv27 dX7_lays_131 ?_
    refine q_iadd (pc := 132) hX dX7_lays_132 ?_
    refine q_icmp_ge (pc := 133) hX 162 (by decide) dX7_lays_133 (fun c => ?_) (fun c => ?_)
    · rw [if_pos c] at hE
      cases hE
      exact hx
    · rw [if_neg c] at hE
      refine q_aload_n (pc := 136) hX 0 rfl rfl dX7_lays_136 ?_
      refine q_aload_n (pc := 137) hX 0 rfl rfl dX7_lays_137 ?_
      refine q_get (pc := 138) (id := 1) (ci := 7) (N := 34) (T := TX7) (C := RX7) hX 24 (lt46 (by decide)) rfl rfl in_X7 (by decide) (Or.inl kw_99) rfl dX7_lays_138 ?_
      refine q_aload_n (pc := 141) hX 0 rfl rfl dX7_lays_141 ?_
      refine q_get (pc := 142) (id := 1) (ci := 7) (N := 34) (T := TX7) (C := RX7) hX 12 (lt46 (by decide)) rfl rfl in_X7 (by decide) (Or.inl kw_90) rfl dX7_lays_142 ?_
      refine q_iload_n (pc := 145) hX 2 rfl rfl dX7_lays_145 ?_
      obtain ⟨v28, hv28, hE⟩ := ob_bind hE
      refine r_iald (pc := 146) (id := 12) (n := 120) hX (lt46 (by decide)) (fun _ _ => rfl) hv28 dX7_lays_146 ?_
      refine q_aload_n (pc := 147) hX 0 rfl rfl dX7_lays_147 ?_
      refine q_get (pc := 148) (id := 1) (ci := 7) (N := 34) (T := TX7) (C := RX7) hX 13 (lt46 (by decide)) rfl rfl in_X7 (by decide) (Or.inl kw_91) rfl dX7_lays_148 ?_
      refine q_iload_n (pc := 151) hX 2 rfl rfl dX7_lays_151 ?_
      obtain ⟨v29, hv29, hE⟩ := ob_bind hE
      refine r_iald (pc := 152) (id := 13) (n := 120) hX (lt46 (by decide)) (fun _ _ => rfl) hv29 dX7_lays_152 ?_
      obtain ⟨r30, hr30, hE⟩ := ob_bind hE
      refine q_callV (pc := 153) (id := 1) (As := [.ref (o 21), .int v28, .int v29]) (rest := []) (rv := none) (st' := []) hX (c_X7_marks (arr_21) hr30) (vl_X7_139) (lt46 (by decide)) rfl rfl rfl pd_yX7_marks rfl ⟨by decide, by decide⟩ ⟨by decide, by decide⟩ rfl (Nat.le_of_ble_eq_true rfl) rfl dX7_lays_153 ?_
      obtain ⟨z31, hz31⟩ : ∃ z : Int32, z = y25 + 1 := ⟨_, rfl⟩
      have hE := bnd_nm hz31 hE
      refine q_iinc (pc := 156) (lo' := [(0, .ref (o 1)), (1, .int x1), (2, .int z31)]) hX 2 z31 [1, 2, 0] rfl (by rw [hz31]; rfl) (by decide) rfl dX7_lays_156 ?_
      refine q_goto (pc := 159) hX 121 (by decide) dX7_lays_159 ?_
      exact ih _ _ p32 hE hx

set_option maxHeartbeats 4000000 in
theorem c_X7_lays {Y : Lx} {o : Nat → Nat} {hn : Nat} {M : Mem} {G : Mel} {x1 : Int32} {Mr : Mem} (hE : s_X7_lays M x1 = some (Mr)) : MI Y yX7_lays cX7_lays 3 none 2 51 0 0 [.ref (o 1), .int x1] o hn M G (.inl (none)) Mr G := by
  refine MI.of (by decide +kernel) (Nat.le_of_ble_eq_true rfl) (fun X hY hX hE0 hR => ?_)
  change CxOK X RX7 cX7_lays 3 2 51 0 0 none at hX
  show WM X o hn M G 0 0 0 3 [(0, .ref (o 1)), (1, .int x1)] []
  unfold s_X7_lays at hE
  refine q_aload_n (pc := 0) hX 0 rfl rfl dX7_lays_0 ?_
  refine q_iload_n (pc := 1) hX 1 rfl rfl dX7_lays_1 ?_
  obtain ⟨r1, hr1, hE⟩ := ob_bind hE
  refine q_callV (pc := 2) (id := 1) (As := [.int x1]) (rest := []) (rv := none) (st' := []) hX (c_X7_findsShifts hr1) (vl_X7_135) (lt46 (by decide)) rfl rfl rfl pd_yX7_findsShifts rfl ⟨by decide, by decide⟩ ⟨by decide, by decide⟩ rfl (Nat.le_of_ble_eq_true rfl) rfl dX7_lays_2 ?_
  refine q_iconst (pc := 5) hX (0) rfl dX7_lays_5 ?_
  refine q_istore_n (pc := 6) (lo' := [(0, .ref (o 1)), (1, .int x1), (2, .int 0)]) hX [1, 2, 0] rfl (by decide) rfl dX7_lays_6 ?_
  obtain ⟨p7, hp7, hE⟩ := ob_bind hE
  refine l_X7_lays_7 hX hE0 FU _ _ p7 hp7 ?_
  refine q_iconst (pc := 34) hX (0) rfl dX7_lays_34 ?_
  refine q_istore_n (pc := 35) (lo' := [(0, .ref (o 1)), (1, .int x1), (2, .int 0)]) hX [1, 2, 0] rfl (by decide) rfl dX7_lays_35 ?_
  obtain ⟨p14, hp14, hE⟩ := ob_bind hE
  refine l_X7_lays_36 hX hE0 FU _ _ p14 hp14 ?_
  refine q_bipush (pc := 70) hX (20) (by decide) dX7_lays_70 ?_
  refine q_iload_n (pc := 72) hX 1 rfl rfl dX7_lays_72 ?_
  refine q_imul (pc := 73) hX dX7_lays_73 ?_
  refine q_nm (fun z15 hz15 => ?_)
  have hE := bnd_nm hz15 hE
  refine q_istore_n (pc := 74) (lo' := [(0, .ref (o 1)), (1, .int x1), (2, .int z15)]) hX [1, 2, 0] rfl (by decide) rfl dX7_lays_74 ?_
  obtain ⟨p23, hp23, hE⟩ := ob_bind hE
  refine l_X7_lays_75 hX hE0 FU _ _ p23 hp23 ?_
  refine q_bipush (pc := 116) hX (20) (by decide) dX7_lays_116 ?_
  refine q_iload_n (pc := 118) hX 1 rfl rfl dX7_lays_118 ?_
  refine q_imul (pc := 119) hX dX7_lays_119 ?_
  refine q_nm (fun z24 hz24 => ?_)
  have hE := bnd_nm hz24 hE
  refine q_istore_n (pc := 120) (lo' := [(0, .ref (o 1)), (1, .int x1), (2, .int z24)]) hX [1, 2, 0] rfl (by decide) rfl dX7_lays_120 ?_
  obtain ⟨p32, hp32, hE⟩ := ob_bind hE
  refine l_X7_lays_121 hX hE0 FU _ _ p32 hp32 ?_
  refine q_aload_n (pc := 162) hX 0 rfl rfl dX7_lays_162 ?_
  obtain ⟨r33, hr33, hE⟩ := ob_bind hE
  refine q_callV (pc := 163) (id := 1) (As := []) (rest := []) (rv := none) (st' := []) hX (c_X7_findsPaid hr33) (vl_X7_143) (lt46 (by decide)) rfl rfl rfl pd_yX7_findsPaid rfl ⟨by decide, by decide⟩ ⟨by decide, by decide⟩ rfl (Nat.le_of_ble_eq_true rfl) rfl dX7_lays_163 ?_
  refine q_aload_n (pc := 166) hX 0 rfl rfl dX7_lays_166 ?_
  obtain ⟨r34, hr34, hE⟩ := ob_bind hE
  refine q_callV (pc := 167) (id := 1) (As := []) (rest := []) (rv := none) (st' := []) hX (c_X7_findsKinds hr34) (vl_X7_146) (lt46 (by decide)) rfl rfl rfl pd_yX7_findsKinds rfl ⟨by decide, by decide⟩ ⟨by decide, by decide⟩ rfl (Nat.le_of_ble_eq_true rfl) rfl dX7_lays_167 ?_
  refine q_aload_n (pc := 170) hX 0 rfl rfl dX7_lays_170 ?_
  obtain ⟨r35, hr35, hE⟩ := ob_bind hE
  refine q_callV (pc := 171) (id := 1) (As := []) (rest := []) (rv := none) (st' := []) hX (c_X7_findsShares hr35) (vl_X7_149) (lt46 (by decide)) rfl rfl rfl pd_yX7_findsShares rfl ⟨by decide, by decide⟩ ⟨by decide, by decide⟩ rfl (Nat.le_of_ble_eq_true rfl) rfl dX7_lays_171 ?_
  cases hE
  exact q_vret hX hR (by decide) (by decide) dX7_lays_174

set_option maxHeartbeats 4000000 in
theorem c_X7_applies {Y : Lx} {o : Nat → Nat} {hn : Nat} {M : Mem} {G : Mel} {x1 : Int32} {x2 : Int32} {rr : Int32} (hE : s_X7_applies M x1 x2 = some (rr)) : MI Y yX7_applies cX7_applies 7 (some .boolean) 1 22 0 0 [.ref (o 1), .int x1, .int x2] o hn M G (.inl (some (.int rr))) M G := by
  refine MI.of (by decide +kernel) (Nat.le_of_ble_eq_true rfl) (fun X hY hX hE0 hR => ?_)
  change CxOK X RX7 cX7_applies 7 1 22 0 0 (some .boolean) at hX
  show WM X o hn M G 0 0 0 7 [(0, .ref (o 1)), (1, .int x1), (2, .int x2)] []
  unfold s_X7_applies at hE
  refine q_iload_n (pc := 0) hX 2 rfl rfl dX7_applies_0 ?_
  refine q_sipush (pc := 1) hX (1440) (by decide) dX7_applies_1 ?_
  refine q_irem (pc := 4) hX (by decide) dX7_applies_4 ?_
  refine q_nm (fun z1 hz1 => ?_)
  have hE := bnd_nm hz1 hE
  refine q_istore_n (pc := 5) (lo' := [(0, .ref (o 1)), (1, .int x1), (2, .int x2), (3, .int z1)]) hX [1, 2, 3, 0] rfl (by decide) rfl dX7_applies_5 ?_
  refine q_aload_n (pc := 6) hX 0 rfl rfl dX7_applies_6 ?_
  refine q_get (pc := 7) (id := 1) (ci := 7) (N := 34) (T := TX7) (C := RX7) hX 16 (lt46 (by decide)) rfl rfl in_X7 (by decide) (Or.inl kw_93) rfl dX7_applies_7 ?_
  refine q_iload_n (pc := 10) hX 1 rfl rfl dX7_applies_10 ?_
  obtain ⟨v2, hv2, hE⟩ := ob_bind hE
  refine r_iald (pc := 11) (id := 15) (n := 6) hX (lt46 (by decide)) (fun _ _ => rfl) hv2 dX7_applies_11 ?_
  refine q_istore (pc := 12) (lo' := [(0, .ref (o 1)), (1, .int x1), (2, .int x2), (3, .int z1), (4, .int v2)]) hX [1, 2, 3, 4, 0] (by decide) rfl dX7_applies_12 ?_
  refine q_aload_n (pc := 14) hX 0 rfl rfl dX7_applies_14 ?_
  refine q_get (pc := 15) (id := 1) (ci := 7) (N := 34) (T := TX7) (C := RX7) hX 17 (lt46 (by decide)) rfl rfl in_X7 (by decide) (Or.inl kw_94) rfl dX7_applies_15 ?_
  refine q_iload_n (pc := 18) hX 1 rfl rfl dX7_applies_18 ?_
  obtain ⟨v3, hv3, hE⟩ := ob_bind hE
  refine r_iald (pc := 19) (id := 16) (n := 6) hX (lt46 (by decide)) (fun _ _ => rfl) hv3 dX7_applies_19 ?_
  refine q_istore (pc := 20) (lo' := [(0, .ref (o 1)), (1, .int x1), (2, .int x2), (3, .int z1), (4, .int v2), (5, .int v3)]) hX [1, 2, 3, 4, 5, 0] (by decide) rfl dX7_applies_20 ?_
  refine q_iload (pc := 22) hX 4 rfl dX7_applies_22 ?_
  refine q_iload (pc := 24) hX 5 rfl dX7_applies_24 ?_
  obtain ⟨p6, hp6, hE⟩ := ob_bind hE
  suffices Jp6 : WM X o hn M G 0 0 66 7 [(0, .ref (o 1)), (1, .int x1), (2, .int x2)] [.int p6] by
    refine q_icmp_ge (pc := 26) hX 42 (by decide) dX7_applies_26 (fun c => ?_) (fun c => ?_)
    · rw [if_pos c] at hp6
      refine q_iload (pc := 42) hX 4 rfl dX7_applies_42 ?_
      refine q_iload (pc := 44) hX 5 rfl dX7_applies_44 ?_
      refine q_icmp_eq (pc := 46) hX 61 (by decide) dX7_applies_46 (fun c => ?_) (fun c => ?_)
      · rw [if_pos c] at hp6
        refine q_iconst (pc := 61) hX (1) rfl dX7_applies_61 ?_
        refine q_goto (pc := 62) hX 66 (by decide) dX7_applies_62 ?_
        refine q_lo [0, 1, 2] rfl ?_
        cases hp6
        exact Jp6
      · rw [if_neg c] at hp6
        refine q_iload_n (pc := 49) hX 3 rfl rfl dX7_applies_49 ?_
        refine q_iload (pc := 50) hX 4 rfl dX7_applies_50 ?_
        refine q_icmp_ge (pc := 52) hX 61 (by decide) dX7_applies_52 (fun c => ?_) (fun c => ?_)
        · rw [if_pos c] at hp6
          refine q_iconst (pc := 61) hX (1) rfl dX7_applies_61 ?_
          refine q_goto (pc := 62) hX 66 (by decide) dX7_applies_62 ?_
          refine q_lo [0, 1, 2] rfl ?_
          cases hp6
          exact Jp6
        · rw [if_neg c] at hp6
          refine q_iload_n (pc := 55) hX 3 rfl rfl dX7_applies_55 ?_
          refine q_iload (pc := 56) hX 5 rfl dX7_applies_56 ?_
          refine q_icmp_ge (pc := 58) hX 65 (by decide) dX7_applies_58 (fun c => ?_) (fun c => ?_)
          · rw [if_pos c] at hp6
            refine q_iconst (pc := 65) hX (0) rfl dX7_applies_65 ?_
            refine q_lo [0, 1, 2] rfl ?_
            cases hp6
            exact Jp6
          · rw [if_neg c] at hp6
            refine q_iconst (pc := 61) hX (1) rfl dX7_applies_61 ?_
            refine q_goto (pc := 62) hX 66 (by decide) dX7_applies_62 ?_
            refine q_lo [0, 1, 2] rfl ?_
            cases hp6
            exact Jp6
    · rw [if_neg c] at hp6
      refine q_iload_n (pc := 29) hX 3 rfl rfl dX7_applies_29 ?_
      refine q_iload (pc := 30) hX 4 rfl dX7_applies_30 ?_
      refine q_iload (pc := 32) hX 5 rfl dX7_applies_32 ?_
      refine q_iconst (pc := 34) hX (1) rfl dX7_applies_34 ?_
      refine q_isub (pc := 35) hX dX7_applies_35 ?_
      obtain ⟨r5, hr5, hp6⟩ := ob_bind hp6
      refine q_callS (pc := 36) (As := [.int z1, .int v2, .int (v3 - 1)]) (rest := []) (rv := some (.int r5)) (st' := [.int r5]) hX (c_X7_in hr5) (sl_X7_97) pd_yX7_in rfl ⟨by decide, by decide⟩ ⟨by decide, by decide⟩ rfl (Nat.le_of_ble_eq_true rfl) rfl dX7_applies_36 ?_
      refine q_goto (pc := 39) hX 66 (by decide) dX7_applies_39 ?_
      refine q_lo [0, 1, 2] rfl ?_
      cases hp6
      exact Jp6
  refine q_istore (pc := 66) (lo' := [(0, .ref (o 1)), (1, .int x1), (2, .int x2), (6, .int p6)]) hX [1, 2, 3, 0] (by decide) rfl dX7_applies_66 ?_
  refine q_aload_n (pc := 68) hX 0 rfl rfl dX7_applies_68 ?_
  refine q_get (pc := 69) (id := 1) (ci := 7) (N := 34) (T := TX7) (C := RX7) hX 15 (lt46 (by decide)) rfl rfl in_X7 (by decide) (Or.inl kw_92) rfl dX7_applies_69 ?_
  refine q_iload_n (pc := 72) hX 1 rfl rfl dX7_applies_72 ?_
  obtain ⟨v7, hv7, hE⟩ := ob_bind hE
  refine r_iald (pc := 73) (id := 14) (n := 6) hX (lt46 (by decide)) (fun _ _ => rfl) hv7 dX7_applies_73 ?_
  refine q_iload_n (pc := 74) hX 2 rfl rfl dX7_applies_74 ?_
  refine q_sipush (pc := 75) hX (1440) (by decide) dX7_applies_75 ?_
  refine q_idiv (pc := 78) hX (by decide) dX7_applies_78 ?_
  refine q_ishr (pc := 79) hX dX7_applies_79 ?_
  refine q_iconst (pc := 80) hX (2) rfl dX7_applies_80 ?_
  refine q_irem (pc := 81) hX (by decide) dX7_applies_81 ?_
  refine q_iconst (pc := 82) hX (1) rfl dX7_applies_82 ?_
  refine q_icmp_ne (pc := 83) hX 95 (by decide) dX7_applies_83 (fun c => ?_) (fun c => ?_)
  · rw [if_neg c] at hE
    refine q_iconst (pc := 95) hX (0) rfl dX7_applies_95 ?_
    cases hE
    exact q_zret hX (Or.inl rfl) hR (by decide) (by decide) dX7_applies_96
  · rw [if_pos c] at hE
    refine q_iload (pc := 86) hX 3 rfl dX7_applies_86 ?_
    refine q_if_eq (pc := 88) hX 95 (by decide) dX7_applies_88 (fun c => ?_) (fun c => ?_)
    · rw [if_pos c] at hE
      refine q_iconst (pc := 95) hX (0) rfl dX7_applies_95 ?_
      cases hE
      exact q_zret hX (Or.inl rfl) hR (by decide) (by decide) dX7_applies_96
    · rw [if_neg c] at hE
      refine q_iconst (pc := 91) hX (1) rfl dX7_applies_91 ?_
      refine q_goto (pc := 92) hX 96 (by decide) dX7_applies_92 ?_
      cases hE
      exact q_zret hX (Or.inr rfl) hR (by decide) (by decide) dX7_applies_96

set_option maxHeartbeats 4000000 in
theorem l_X7_extra_16 {X : Cx} (hX : CxOK X RX7 cX7_extra 5 2 48 0 0 (some .int)) (hE0 : CxE X []) {o : Nat → Nat} {hn : Nat} {M : Mem} {G : Mel} {y1 : Int32} {y2 : Int32} : ∀ (f : Nat) (y3 : Int32) (y4 : Int32) (p12 : Int32 × Int32), L_X7_extra_16 M y2 f y3 y4 = some p12 → WM X o hn M G 0 0 74 5 [(0, .ref (o 1)), (1, .int y1), (2, .int y2), (3, .int p12.1), (4, .int p12.2)] [] → WM X o hn M G 0 0 16 5 [(0, .ref (o 1)), (1, .int y1), (2, .int y2), (3, .int y3), (4, .int y4)] [] := by
  intro f
  induction f with
  | zero => intro y3 y4 p12 hE; simp [L_X7_extra_16] at hE
  | succ f ih =>
    intro y3 y4 p12 hE hx
    rw [L_X7_extra_16] at hE
    refine q_iload (pc := 16) hX 4 rfl dX7_extra_16 ?_
    refine q_aload_n (pc := 18) hX 0 rfl rfl dX7_extra_18 ?_
    refine q_get (pc := 19) (id := 1) (ci := 7) (N := 34) (T := TX7) (C := RX7) hX 14 (lt46 (by decide)) rfl rfl in_X7 (by decide) (Or.inl kw_321) rfl dX7_extra_19 ?_
    refine q_icmp_ge (pc := 22) hX 74 (by decide) dX7_extra_22 (fun c => ?_) (fun c => ?_)
    · rw [if_pos c] at hE
      cases hE
      exact hx
    · rw [if_neg c] at hE
      refine q_aload_n (pc := 25) hX 0 rfl rfl dX7_extra_25 ?_
      refine q_get (pc := 26) (id := 1) (ci := 7) (N := 34) (T := TX7) (C := RX7) hX 25 (lt46 (by decide)) rfl rfl in_X7 (by decide) (Or.inl kw_100) rfl dX7_extra_26 ?_
      refine q_iload_n (pc := 29) hX 2 rfl rfl dX7_extra_29 ?_
      obtain ⟨v5, hv5, hE⟩ := ob_bind hE
      refine r_iald (pc := 30) (id := 22) (n := 10080) hX (lt46 (by decide)) (fun _ _ => rfl) hv5 dX7_extra_30 ?_
      refine q_iconst (pc := 31) hX (-1) rfl dX7_extra_31 ?_
      refine q_icmp_eq (pc := 32) hX 74 (by decide) dX7_extra_32 (fun c => ?_) (fun c => ?_)
      · rw [if_pos c] at hE
        cases hE
        exact hx
      · rw [if_neg c] at hE
        refine q_aload_n (pc := 35) hX 0 rfl rfl dX7_extra_35 ?_
        refine q_get (pc := 36) (id := 1) (ci := 7) (N := 34) (T := TX7) (C := RX7) hX 18 (lt46 (by decide)) rfl rfl in_X7 (by decide) (Or.inl kw_95) rfl dX7_extra_36 ?_
        refine q_iload (pc := 39) hX 4 rfl dX7_extra_39 ?_
        obtain ⟨v6, hv6, hE⟩ := ob_bind hE
        refine r_iald (pc := 41) (id := 17) (n := 6) hX (lt46 (by decide)) (fun _ _ => rfl) hv6 dX7_extra_41 ?_
        refine q_iload_n (pc := 42) hX 3 rfl rfl dX7_extra_42 ?_
        obtain ⟨p10, hp10, hE⟩ := ob_bind hE
        suffices Jp10 : WM X o hn M G 0 0 67 5 [(0, .ref (o 1)), (1, .int y1), (2, .int y2), (4, .int y4)] [.int p10] by
          refine q_icmp_le (pc := 43) hX 66 (by decide) dX7_extra_43 (fun c => ?_) (fun c => ?_)
          · rw [if_pos c] at hp10
            refine q_iload_n (pc := 66) hX 3 rfl rfl dX7_extra_66 ?_
            refine q_lo [0, 1, 2, 4] rfl ?_
            cases hp10
            exact Jp10
          · rw [if_neg c] at hp10
            refine q_aload_n (pc := 46) hX 0 rfl rfl dX7_extra_46 ?_
            refine q_iload (pc := 47) hX 4 rfl dX7_extra_47 ?_
            refine q_iload_n (pc := 49) hX 2 rfl rfl dX7_extra_49 ?_
            obtain ⟨r8, hr8, hp10⟩ := ob_bind hp10
            refine q_callV (pc := 50) (id := 1) (As := [.int y4, .int y2]) (rest := []) (rv := some (.int r8)) (st' := [.int r8]) hX (c_X7_applies hr8) (vl_X7_164) (lt46 (by decide)) rfl rfl rfl pd_yX7_applies rfl ⟨by decide, by decide⟩ ⟨by decide, by decide⟩ rfl (Nat.le_of_ble_eq_true rfl) rfl dX7_extra_50 ?_
            refine q_if_eq (pc := 53) hX 66 (by decide) dX7_extra_53 (fun c => ?_) (fun c => ?_)
            · rw [if_pos c] at hp10
              refine q_iload_n (pc := 66) hX 3 rfl rfl dX7_extra_66 ?_
              refine q_lo [0, 1, 2, 4] rfl ?_
              cases hp10
              exact Jp10
            · rw [if_neg c] at hp10
              refine q_aload_n (pc := 56) hX 0 rfl rfl dX7_extra_56 ?_
              refine q_get (pc := 57) (id := 1) (ci := 7) (N := 34) (T := TX7) (C := RX7) hX 18 (lt46 (by decide)) rfl rfl in_X7 (by decide) (Or.inl kw_95) rfl dX7_extra_57 ?_
              refine q_iload (pc := 60) hX 4 rfl dX7_extra_60 ?_
              obtain ⟨v9, hv9, hp10⟩ := ob_bind hp10
              refine r_iald (pc := 62) (id := 17) (n := 6) hX (lt46 (by decide)) (fun _ _ => rfl) hv9 dX7_extra_62 ?_
              refine q_goto (pc := 63) hX 67 (by decide) dX7_extra_63 ?_
              refine q_lo [0, 1, 2, 4] rfl ?_
              cases hp10
              exact Jp10
        refine q_istore_n (pc := 67) (lo' := [(0, .ref (o 1)), (1, .int y1), (2, .int y2), (3, .int p10), (4, .int y4)]) hX [1, 2, 3, 0, 4] rfl (by decide) rfl dX7_extra_67 ?_
        obtain ⟨z11, hz11⟩ : ∃ z : Int32, z = y4 + 1 := ⟨_, rfl⟩
        have hE := bnd_nm hz11 hE
        refine q_iinc (pc := 68) (lo' := [(0, .ref (o 1)), (1, .int y1), (2, .int y2), (3, .int p10), (4, .int z11)]) hX 4 z11 [1, 2, 3, 4, 0] rfl (by rw [hz11]; rfl) (by decide) rfl dX7_extra_68 ?_
        refine q_goto (pc := 71) hX 16 (by decide) dX7_extra_71 ?_
        exact ih _ _ p12 hE hx

set_option maxHeartbeats 4000000 in
theorem l_X7_extra_4 {X : Cx} (hX : CxOK X RX7 cX7_extra 5 2 48 0 0 (some .int)) (hE0 : CxE X []) {o : Nat → Nat} {hn : Nat} {M : Mem} {G : Mel} : ∀ (f : Nat) (y1 : Int32) (y2 : Int32) (p15 : Int32 × Int32), L_X7_extra_4 M f y1 y2 = some p15 → WM X o hn M G 0 0 84 5 [(0, .ref (o 1)), (1, .int p15.1), (2, .int p15.2)] [] → WM X o hn M G 0 0 4 5 [(0, .ref (o 1)), (1, .int y1), (2, .int y2)] [] := by
  intro f
  induction f with
  | zero => intro y1 y2 p15 hE; simp [L_X7_extra_4] at hE
  | succ f ih =>
    intro y1 y2 p15 hE hx
    rw [L_X7_extra_4] at hE
    refine q_iload_n (pc := 4) hX 2 rfl rfl dX7_extra_4 ?_
    refine q_sipush (pc := 5) hX (10080) (by decide) dX7_extra_5 ?_
    refine q_icmp_ge (pc := 8) hX 84 (by decide) dX7_extra_8 (fun c => ?_) (fun c => ?_)
    · rw [if_pos c] at hE
      cases hE
      exact hx
    · rw [if_neg c] at hE
      refine q_iconst (pc := 11) hX (0) rfl dX7_extra_11 ?_
      refine q_istore_n (pc := 12) (lo' := [(0, .ref (o 1)), (1, .int y1), (2, .int y2), (3, .int 0)]) hX [1, 2, 3, 0] rfl (by decide) rfl dX7_extra_12 ?_
      refine q_iconst (pc := 13) hX (0) rfl dX7_extra_13 ?_
      refine q_istore (pc := 14) (lo' := [(0, .ref (o 1)), (1, .int y1), (2, .int y2), (3, .int 0), (4, .int 0)]) hX [1, 2, 3, 4, 0] (by decide) rfl dX7_extra_14 ?_
      obtain ⟨p12, hp12, hE⟩ := ob_bind hE
      refine l_X7_extra_16 hX hE0 FU _ _ p12 hp12 ?_
      refine q_iload_n (pc := 74) hX 1 rfl rfl dX7_extra_74 ?_
      refine q_iload_n (pc := 75) hX 3 rfl rfl dX7_extra_75 ?_
      refine q_iadd (pc := 76) hX dX7_extra_76 ?_
      refine q_nm (fun z13 hz13 => ?_)
      have hE := bnd_nm hz13 hE
      refine q_istore_n (pc := 77) (lo' := [(0, .ref (o 1)), (1, .int z13), (2, .int y2), (3, .int p12.1), (4, .int p12.2)]) hX [1, 0, 2, 3, 4] rfl (by decide) rfl dX7_extra_77 ?_
      obtain ⟨z14, hz14⟩ : ∃ z : Int32, z = y2 + 1 := ⟨_, rfl⟩
      have hE := bnd_nm hz14 hE
      refine q_iinc (pc := 78) (lo' := [(0, .ref (o 1)), (1, .int z13), (2, .int z14), (3, .int p12.1), (4, .int p12.2)]) hX 2 z14 [1, 2, 0, 3, 4] rfl (by rw [hz14]; rfl) (by decide) rfl dX7_extra_78 ?_
      refine q_goto (pc := 81) hX 4 (by decide) dX7_extra_81 ?_
      refine q_lo [0, 1, 2] rfl ?_
      exact ih _ _ p15 hE hx

set_option maxHeartbeats 4000000 in
theorem c_X7_extra {Y : Lx} {o : Nat → Nat} {hn : Nat} {M : Mem} {G : Mel} {rr : Int32} (hE : s_X7_extra M = some (rr)) : MI Y yX7_extra cX7_extra 5 (some .int) 2 48 0 0 [.ref (o 1)] o hn M G (.inl (some (.int rr))) M G := by
  refine MI.of (by decide +kernel) (Nat.le_of_ble_eq_true rfl) (fun X hY hX hE0 hR => ?_)
  change CxOK X RX7 cX7_extra 5 2 48 0 0 (some .int) at hX
  show WM X o hn M G 0 0 0 5 [(0, .ref (o 1))] []
  unfold s_X7_extra at hE
  refine q_iconst (pc := 0) hX (0) rfl dX7_extra_0 ?_
  refine q_istore_n (pc := 1) (lo' := [(0, .ref (o 1)), (1, .int 0)]) hX [1, 0] rfl (by decide) rfl dX7_extra_1 ?_
  refine q_iconst (pc := 2) hX (0) rfl dX7_extra_2 ?_
  refine q_istore_n (pc := 3) (lo' := [(0, .ref (o 1)), (1, .int 0), (2, .int 0)]) hX [1, 2, 0] rfl (by decide) rfl dX7_extra_3 ?_
  obtain ⟨p15, hp15, hE⟩ := ob_bind hE
  refine l_X7_extra_4 hX hE0 FU _ _ p15 hp15 ?_
  refine q_iload_n (pc := 84) hX 1 rfl rfl dX7_extra_84 ?_
  refine q_bipush (pc := 85) hX (30) (by decide) dX7_extra_85 ?_
  refine q_iadd (pc := 87) hX dX7_extra_87 ?_
  refine q_bipush (pc := 88) hX (60) (by decide) dX7_extra_88 ?_
  refine q_idiv (pc := 90) hX (by decide) dX7_extra_90 ?_
  cases hE
  exact q_iret hX hR (by decide) (by decide) dX7_extra_91

set_option maxHeartbeats 4000000 in
theorem c_X7_payOf {Y : Lx} {o : Nat → Nat} {hn : Nat} {M : Mem} {G : Mel} {x1 : Int32} {rr : Int32} {Mr : Mem} (hE : s_X7_payOf M x1 = some (rr, Mr)) : MI Y yX7_payOf cX7_payOf 3 (some .int) 3 73 0 0 [.ref (o 1), .int x1] o hn M G (.inl (some (.int rr))) Mr G := by
  refine MI.of (by decide +kernel) (Nat.le_of_ble_eq_true rfl) (fun X hY hX hE0 hR => ?_)
  change CxOK X RX7 cX7_payOf 3 3 73 0 0 (some .int) at hX
  show WM X o hn M G 0 0 0 3 [(0, .ref (o 1)), (1, .int x1)] []
  unfold s_X7_payOf at hE
  refine q_aload_n (pc := 0) hX 0 rfl rfl dX7_payOf_0 ?_
  refine q_iload_n (pc := 1) hX 1 rfl rfl dX7_payOf_1 ?_
  obtain ⟨r1, hr1, hE⟩ := ob_bind hE
  refine q_callV (pc := 2) (id := 1) (As := [.int x1]) (rest := []) (rv := none) (st' := []) hX (c_X7_lays hr1) (vl_X7_167) (lt46 (by decide)) rfl rfl rfl pd_yX7_lays rfl ⟨by decide, by decide⟩ ⟨by decide, by decide⟩ rfl (Nat.le_of_ble_eq_true rfl) rfl dX7_payOf_2 ?_
  refine q_aload_n (pc := 5) hX 0 rfl rfl dX7_payOf_5 ?_
  refine q_get (pc := 6) (id := 1) (ci := 7) (N := 34) (T := TX7) (C := RX7) hX 2 (lt46 (by decide)) rfl rfl in_X7 (by decide) (Or.inl kw_79) rfl dX7_payOf_6 ?_
  refine q_iload_n (pc := 9) hX 1 rfl rfl dX7_payOf_9 ?_
  obtain ⟨v2, hv2, hE⟩ := ob_bind hE
  refine r_iald (pc := 10) (id := 2) (n := 6) hX (lt46 (by decide)) (fun _ _ => rfl) hv2 dX7_payOf_10 ?_
  refine q_iconst (pc := 11) hX (2) rfl dX7_payOf_11 ?_
  refine q_aload_n (pc := 12) hX 0 rfl rfl dX7_payOf_12 ?_
  refine q_get (pc := 13) (id := 1) (ci := 7) (N := 34) (T := TX7) (C := RX7) hX 30 (lt46 (by decide)) rfl rfl in_X7 (by decide) (Or.inl kw_105) rfl dX7_payOf_13 ?_
  refine q_iconst (pc := 16) hX (0) rfl dX7_payOf_16 ?_
  obtain ⟨v3, hv3, hE⟩ := ob_bind hE
  refine r_iald (pc := 17) (id := 27) (n := 3) hX (lt46 (by decide)) (fun _ _ => rfl) hv3 dX7_payOf_17 ?_
  refine q_imul (pc := 18) hX dX7_payOf_18 ?_
  refine q_iconst (pc := 19) hX (3) rfl dX7_payOf_19 ?_
  refine q_aload_n (pc := 20) hX 0 rfl rfl dX7_payOf_20 ?_
  refine q_get (pc := 21) (id := 1) (ci := 7) (N := 34) (T := TX7) (C := RX7) hX 30 (lt46 (by decide)) rfl rfl in_X7 (by decide) (Or.inl kw_105) rfl dX7_payOf_21 ?_
  refine q_iconst (pc := 24) hX (1) rfl dX7_payOf_24 ?_
  obtain ⟨v4, hv4, hE⟩ := ob_bind hE
  refine r_iald (pc := 25) (id := 27) (n := 3) hX (lt46 (by decide)) (fun _ _ => rfl) hv4 dX7_payOf_25 ?_
  refine q_imul (pc := 26) hX dX7_payOf_26 ?_
  refine q_iadd (pc := 27) hX dX7_payOf_27 ?_
  refine q_iconst (pc := 28) hX (4) rfl dX7_payOf_28 ?_
  refine q_aload_n (pc := 29) hX 0 rfl rfl dX7_payOf_29 ?_
  refine q_get (pc := 30) (id := 1) (ci := 7) (N := 34) (T := TX7) (C := RX7) hX 30 (lt46 (by decide)) rfl rfl in_X7 (by decide) (Or.inl kw_105) rfl dX7_payOf_30 ?_
  refine q_iconst (pc := 33) hX (2) rfl dX7_payOf_33 ?_
  obtain ⟨v5, hv5, hE⟩ := ob_bind hE
  refine r_iald (pc := 34) (id := 27) (n := 3) hX (lt46 (by decide)) (fun _ _ => rfl) hv5 dX7_payOf_34 ?_
  refine q_imul (pc := 35) hX dX7_payOf_35 ?_
  refine q_iadd (pc := 36) hX dX7_payOf_36 ?_
  refine q_imul (pc := 37) hX dX7_payOf_37 ?_
  refine q_nm (fun z6 hz6 => ?_)
  have hE := bnd_nm hz6 hE
  refine q_istore_n (pc := 38) (lo' := [(0, .ref (o 1)), (1, .int x1), (2, .int z6)]) hX [1, 2, 0] rfl (by decide) rfl dX7_payOf_38 ?_
  refine q_iload_n (pc := 39) hX 2 rfl rfl dX7_payOf_39 ?_
  refine q_iconst (pc := 40) hX (4) rfl dX7_payOf_40 ?_
  refine q_iadd (pc := 41) hX dX7_payOf_41 ?_
  refine q_bipush (pc := 42) hX (8) (by decide) dX7_payOf_42 ?_
  refine q_idiv (pc := 44) hX (by decide) dX7_payOf_44 ?_
  refine q_aload_n (pc := 45) hX 0 rfl rfl dX7_payOf_45 ?_
  obtain ⟨r7, hr7, hE⟩ := ob_bind hE
  refine q_callV (pc := 46) (id := 1) (As := []) (rest := [.int ((z6 + 4) / 8)]) (rv := some (.int r7)) (st' := [.int r7, .int ((z6 + 4) / 8)]) hX (c_X7_extra hr7) (vl_X7_170) (lt46 (by decide)) rfl rfl rfl pd_yX7_extra rfl ⟨by decide, by decide⟩ ⟨by decide, by decide⟩ rfl (Nat.le_of_ble_eq_true rfl) rfl dX7_payOf_46 ?_
  refine q_iadd (pc := 49) hX dX7_payOf_49 ?_
  cases hE
  exact q_iret hX hR (by decide) (by decide) dX7_payOf_50

set_option maxHeartbeats 4000000 in
theorem c_X7_closeWeek {Y : Lx} {o : Nat → Nat} {hn : Nat} {M : Mem} {G : Mel} {x1 : Int32} {rr : Int32} {Mr : Mem} {Gr : Mel} (hE : s_X7_closeWeek M G x1 = some (rr, Mr, Gr)) : MI Y yX7_closeWeek cX7_closeWeek 3 (some .int) 4 95 0 0 [.ref (o 1), .int x1] o hn M G (.inl (some (.int rr))) Mr Gr := by
  refine MI.of (by decide +kernel) (Nat.le_of_ble_eq_true rfl) (fun X hY hX hE0 hR => ?_)
  change CxOK X RX7 cX7_closeWeek 3 4 95 0 0 (some .int) at hX
  show WM X o hn M G 0 0 0 3 [(0, .ref (o 1)), (1, .int x1)] []
  unfold s_X7_closeWeek at hE
  refine q_aload_n (pc := 0) hX 0 rfl rfl dX7_closeWeek_0 ?_
  refine q_aload_n (pc := 1) hX 0 rfl rfl dX7_closeWeek_1 ?_
  refine q_iload_n (pc := 2) hX 1 rfl rfl dX7_closeWeek_2 ?_
  obtain ⟨r1, hr1, hE⟩ := ob_bind hE
  refine q_callV (pc := 3) (id := 1) (As := [.int x1]) (rest := [.ref (o 1)]) (rv := some (.int r1)) (st' := [.int r1, .ref (o 1)]) hX (c_X7_isOne hr1) (vl_X7_102) (lt46 (by decide)) rfl rfl rfl pd_yX7_isOne rfl ⟨by decide, by decide⟩ ⟨by decide, by decide⟩ rfl (Nat.le_of_ble_eq_true rfl) rfl dX7_closeWeek_3 ?_
  obtain ⟨p5, hp5, hE⟩ := ob_bind hE
  suffices Jp5 : WM X o hn M G 0 0 36 3 [(0, .ref (o 1)), (1, .int x1)] [.int p5, .ref (o 1)] by
    refine q_if_ne (pc := 6) hX 13 (by decide) dX7_closeWeek_6 (fun c => ?_) (fun c => ?_)
    · rw [if_neg c] at hp5
      refine q_aload_n (pc := 13) hX 0 rfl rfl dX7_closeWeek_13 ?_
      refine q_get (pc := 14) (id := 1) (ci := 7) (N := 34) (T := TX7) (C := RX7) hX 5 (lt46 (by decide)) rfl rfl in_X7 (by decide) (Or.inl kw_82) rfl dX7_closeWeek_14 ?_
      refine q_iload_n (pc := 17) hX 1 rfl rfl dX7_closeWeek_17 ?_
      obtain ⟨v3, hv3, hp5⟩ := ob_bind hp5
      refine r_iald (pc := 18) (id := 5) (n := 6) hX (lt46 (by decide)) (fun _ _ => rfl) hv3 dX7_closeWeek_18 ?_
      refine q_if_ne (pc := 19) hX 35 (by decide) dX7_closeWeek_19 (fun c => ?_) (fun c => ?_)
      · rw [if_neg c] at hp5
        refine q_iconst (pc := 35) hX (0) rfl dX7_closeWeek_35 ?_
        cases hp5
        exact Jp5
      · rw [if_pos c] at hp5
        refine q_aload_n (pc := 22) hX 0 rfl rfl dX7_closeWeek_22 ?_
        refine q_get (pc := 23) (id := 1) (ci := 7) (N := 34) (T := TX7) (C := RX7) hX 8 (lt46 (by decide)) rfl rfl in_X7 (by decide) (Or.inl kw_86) rfl dX7_closeWeek_23 ?_
        refine q_iload_n (pc := 26) hX 1 rfl rfl dX7_closeWeek_26 ?_
        obtain ⟨v4, hv4, hp5⟩ := ob_bind hp5
        refine r_iald (pc := 27) (id := 8) (n := 6) hX (lt46 (by decide)) (fun _ _ => rfl) hv4 dX7_closeWeek_27 ?_
        refine q_if_ne (pc := 28) hX 35 (by decide) dX7_closeWeek_28 (fun c => ?_) (fun c => ?_)
        · rw [if_neg c] at hp5
          refine q_iconst (pc := 35) hX (0) rfl dX7_closeWeek_35 ?_
          cases hp5
          exact Jp5
        · rw [if_pos c] at hp5
          refine q_iconst (pc := 31) hX (2) rfl dX7_closeWeek_31 ?_
          refine q_goto (pc := 32) hX 36 (by decide) dX7_closeWeek_32 ?_
          cases hp5
          exact Jp5
    · rw [if_pos c] at hp5
      refine q_iconst (pc := 9) hX (1) rfl dX7_closeWeek_9 ?_
      refine q_goto (pc := 10) hX 36 (by decide) dX7_closeWeek_10 ?_
      cases hp5
      exact Jp5
  obtain ⟨M6, hM6⟩ : ∃ z : Mem, z = mst M 1 0 p5 := ⟨_, rfl⟩
  have hE := bnd_nm hM6 hE
  refine pu_M_thrown (pc := 36) hX hM6 (Or.inl kw_106) dX7_closeWeek_36 ?_
  refine q_aload_n (pc := 39) hX 0 rfl rfl dX7_closeWeek_39 ?_
  refine q_get (pc := 40) (id := 1) (ci := 7) (N := 34) (T := TX7) (C := RX7) hX 0 (lt46 (by decide)) rfl rfl in_X7 (by decide) (Or.inl kw_106) rfl dX7_closeWeek_40 ?_
  refine q_if_le (pc := 43) hX 48 (by decide) dX7_closeWeek_43 (fun c => ?_) (fun c => ?_)
  · rw [if_pos c] at hE
    refine q_aload_n (pc := 48) hX 0 rfl rfl dX7_closeWeek_48 ?_
    refine q_iload_n (pc := 49) hX 1 rfl rfl dX7_closeWeek_49 ?_
    obtain ⟨r7, hr7, hE⟩ := ob_bind hE
    refine q_callV (pc := 50) (id := 1) (As := [.int x1]) (rest := []) (rv := some (.int r7.1)) (st' := [.int r7.1]) hX (c_X7_payOf hr7) (vl_X7_174) (lt46 (by decide)) rfl rfl rfl pd_yX7_payOf rfl ⟨by decide, by decide⟩ ⟨by decide, by decide⟩ rfl (Nat.le_of_ble_eq_true rfl) rfl dX7_closeWeek_50 ?_
    refine q_istore_n (pc := 53) (lo' := [(0, .ref (o 1)), (1, .int x1), (2, .int r7.1)]) hX [1, 2, 0] rfl (by decide) rfl dX7_closeWeek_53 ?_
    refine q_aload_n (pc := 54) hX 0 rfl rfl dX7_closeWeek_54 ?_
    refine q_get (pc := 55) (id := 1) (ci := 7) (N := 34) (T := TX7) (C := RX7) hX 4 (lt46 (by decide)) rfl rfl in_X7 (by decide) (Or.inl kw_81) rfl dX7_closeWeek_55 ?_
    refine q_iload_n (pc := 58) hX 1 rfl rfl dX7_closeWeek_58 ?_
    refine q_dup2 (pc := 59) hX rfl rfl dX7_closeWeek_59 ?_
    obtain ⟨v8, hv8, hE⟩ := ob_bind hE
    refine r_lald (pc := 60) (id := 4) (n := 6) hX (lt46 (by decide)) (fun _ _ => rfl) hv8 dX7_closeWeek_60 ?_
    refine q_iload_n (pc := 61) hX 2 rfl rfl dX7_closeWeek_61 ?_
    refine q_i2l (pc := 62) hX dX7_closeWeek_62 ?_
    refine q_ladd (pc := 63) hX dX7_closeWeek_63 ?_
    obtain ⟨G9, hG9, hE⟩ := ob_bind hE
    refine r_last (pc := 64) (id := 4) (n := 6) hX (lt46 (by decide)) (fun _ _ => rfl) hG9 dX7_closeWeek_64 ?_
    refine q_aload_n (pc := 65) hX 0 rfl rfl dX7_closeWeek_65 ?_
    refine q_get (pc := 66) (id := 1) (ci := 7) (N := 34) (T := TX7) (C := RX7) hX 3 (lt46 (by decide)) rfl rfl in_X7 (by decide) (Or.inl kw_80) rfl dX7_closeWeek_66 ?_
    refine q_iload_n (pc := 69) hX 1 rfl rfl dX7_closeWeek_69 ?_
    refine q_dup2 (pc := 70) hX rfl rfl dX7_closeWeek_70 ?_
    obtain ⟨v10, hv10, hE⟩ := ob_bind hE
    refine r_iald (pc := 71) (id := 3) (n := 6) hX (lt46 (by decide)) (fun _ _ => rfl) hv10 dX7_closeWeek_71 ?_
    refine q_iconst (pc := 72) hX (1) rfl dX7_closeWeek_72 ?_
    refine q_iadd (pc := 73) hX dX7_closeWeek_73 ?_
    obtain ⟨M11, hM11, hE⟩ := ob_bind hE
    refine r_iast (pc := 74) (id := 3) (n := 6) hX (lt46 (by decide)) (fun _ _ => rfl) hM11 dX7_closeWeek_74 ?_
    refine q_aload_n (pc := 75) hX 0 rfl rfl dX7_closeWeek_75 ?_
    refine q_get (pc := 76) (id := 1) (ci := 7) (N := 34) (T := TX7) (C := RX7) hX 5 (lt46 (by decide)) rfl rfl in_X7 (by decide) (Or.inl kw_82) rfl dX7_closeWeek_76 ?_
    refine q_iload_n (pc := 79) hX 1 rfl rfl dX7_closeWeek_79 ?_
    refine q_iconst (pc := 80) hX (0) rfl dX7_closeWeek_80 ?_
    obtain ⟨M12, hM12, hE⟩ := ob_bind hE
    refine r_iast (pc := 81) (id := 5) (n := 6) hX (lt46 (by decide)) (fun _ _ => rfl) hM12 dX7_closeWeek_81 ?_
    refine q_aload_n (pc := 82) hX 0 rfl rfl dX7_closeWeek_82 ?_
    refine q_get (pc := 83) (id := 1) (ci := 7) (N := 34) (T := TX7) (C := RX7) hX 8 (lt46 (by decide)) rfl rfl in_X7 (by decide) (Or.inl kw_86) rfl dX7_closeWeek_83 ?_
    refine q_iload_n (pc := 86) hX 1 rfl rfl dX7_closeWeek_86 ?_
    refine q_iconst (pc := 87) hX (0) rfl dX7_closeWeek_87 ?_
    obtain ⟨M13, hM13, hE⟩ := ob_bind hE
    refine r_iast (pc := 88) (id := 8) (n := 6) hX (lt46 (by decide)) (fun _ _ => rfl) hM13 dX7_closeWeek_88 ?_
    refine q_aload_n (pc := 89) hX 0 rfl rfl dX7_closeWeek_89 ?_
    refine q_get (pc := 90) (id := 1) (ci := 7) (N := 34) (T := TX7) (C := RX7) hX 11 (lt46 (by decide)) rfl rfl in_X7 (by decide) (Or.inl kw_89) rfl dX7_closeWeek_90 ?_
    refine q_iload_n (pc := 93) hX 1 rfl rfl dX7_closeWeek_93 ?_
    refine q_iconst (pc := 94) hX (0) rfl dX7_closeWeek_94 ?_
    obtain ⟨M14, hM14, hE⟩ := ob_bind hE
    refine r_iast (pc := 95) (id := 11) (n := 6) hX (lt46 (by decide)) (fun _ _ => rfl) hM14 dX7_closeWeek_95 ?_
    refine q_iload_n (pc := 96) hX 2 rfl rfl dX7_closeWeek_96 ?_
    cases hE
    exact q_iret hX hR (by decide) (by decide) dX7_closeWeek_97
  · rw [if_neg c] at hE
    refine q_iconst (pc := 46) hX (0) rfl dX7_closeWeek_46 ?_
    cases hE
    exact q_iret hX hR (by decide) (by decide) dX7_closeWeek_47

set_option maxHeartbeats 4000000 in
theorem c_X7_employees {Y : Lx} {o : Nat → Nat} {hn : Nat} {M : Mem} {G : Mel} {rr : Int32} {Mr : Mem} (hE : s_X7_employees M = some (rr, Mr)) : MI Y yX7_employees cX7_employees 1 (some .int) 0 0 0 0 [.ref (o 1)] o hn M G (.inl (some (.int rr))) Mr G := by
  refine MI.of (by decide +kernel) (Nat.le_of_ble_eq_true rfl) (fun X hY hX hE0 hR => ?_)
  change CxOK X RX7 cX7_employees 1 0 0 0 0 (some .int) at hX
  show WM X o hn M G 0 0 0 1 [(0, .ref (o 1))] []
  unfold s_X7_employees at hE
  refine q_aload_n (pc := 0) hX 0 rfl rfl dX7_employees_0 ?_
  refine q_iconst (pc := 1) hX (0) rfl dX7_employees_1 ?_
  obtain ⟨M1, hM1⟩ : ∃ z : Mem, z = mst M 1 0 0 := ⟨_, rfl⟩
  have hE := bnd_nm hM1 hE
  refine pu_M_thrown (pc := 2) hX hM1 (Or.inl kw_106) dX7_employees_2 ?_
  refine q_aload_n (pc := 5) hX 0 rfl rfl dX7_employees_5 ?_
  refine q_get (pc := 6) (id := 1) (ci := 7) (N := 34) (T := TX7) (C := RX7) hX 1 (lt46 (by decide)) rfl rfl in_X7 (by decide) (Or.inl kw_144) rfl dX7_employees_6 ?_
  cases hE
  exact q_iret hX hR (by decide) (by decide) dX7_employees_9

set_option maxHeartbeats 4000000 in
theorem c_X7_fails {Y : Lx} {o : Nat → Nat} {hn : Nat} {M : Mem} {G : Mel} {x1 : Int32} {rr : Int32} {Mr : Mem} (hE : s_X7_fails M x1 = some (rr, Mr)) : MI Y yX7_fails cX7_fails 2 (some .int) 0 0 0 0 [.ref (o 1), .int x1] o hn M G (.inl (some (.int rr))) Mr G := by
  refine MI.of (by decide +kernel) (Nat.le_of_ble_eq_true rfl) (fun X hY hX hE0 hR => ?_)
  change CxOK X RX7 cX7_fails 2 0 0 0 0 (some .int) at hX
  show WM X o hn M G 0 0 0 2 [(0, .ref (o 1)), (1, .int x1)] []
  unfold s_X7_fails at hE
  refine q_aload_n (pc := 0) hX 0 rfl rfl dX7_fails_0 ?_
  refine q_iload_n (pc := 1) hX 1 rfl rfl dX7_fails_1 ?_
  obtain ⟨M1, hM1⟩ : ∃ z : Mem, z = mst M 1 0 x1 := ⟨_, rfl⟩
  have hE := bnd_nm hM1 hE
  refine pu_M_thrown (pc := 2) hX hM1 (Or.inl kw_106) dX7_fails_2 ?_
  refine q_iconst (pc := 5) hX (0) rfl dX7_fails_5 ?_
  cases hE
  exact q_iret hX hR (by decide) (by decide) dX7_fails_6

set_option maxHeartbeats 4000000 in
theorem c_X7_closedWeeks {Y : Lx} {o : Nat → Nat} {hn : Nat} {M : Mem} {G : Mel} {x1 : Int32} {rr : Int32} {Mr : Mem} (hE : s_X7_closedWeeks M x1 = some (rr, Mr)) : MI Y yX7_closedWeeks cX7_closedWeeks 2 (some .int) 2 43 0 0 [.ref (o 1), .int x1] o hn M G (.inl (some (.int rr))) Mr G := by
  refine MI.of (by decide +kernel) (Nat.le_of_ble_eq_true rfl) (fun X hY hX hE0 hR => ?_)
  change CxOK X RX7 cX7_closedWeeks 2 2 43 0 0 (some .int) at hX
  show WM X o hn M G 0 0 0 2 [(0, .ref (o 1)), (1, .int x1)] []
  unfold s_X7_closedWeeks at hE
  refine q_aload_n (pc := 0) hX 0 rfl rfl dX7_closedWeeks_0 ?_
  refine q_iconst (pc := 1) hX (0) rfl dX7_closedWeeks_1 ?_
  obtain ⟨M1, hM1⟩ : ∃ z : Mem, z = mst M 1 0 0 := ⟨_, rfl⟩
  have hE := bnd_nm hM1 hE
  refine pu_M_thrown (pc := 2) hX hM1 (Or.inl kw_106) dX7_closedWeeks_2 ?_
  refine q_aload_n (pc := 5) hX 0 rfl rfl dX7_closedWeeks_5 ?_
  refine q_iload_n (pc := 6) hX 1 rfl rfl dX7_closedWeeks_6 ?_
  obtain ⟨r2, hr2, hE⟩ := ob_bind hE
  refine q_callV (pc := 7) (id := 1) (As := [.int x1]) (rest := []) (rv := some (.int r2)) (st' := [.int r2]) hX (c_X7_isOne hr2) (vl_X7_102) (lt46 (by decide)) rfl rfl rfl pd_yX7_isOne rfl ⟨by decide, by decide⟩ ⟨by decide, by decide⟩ rfl (Nat.le_of_ble_eq_true rfl) rfl dX7_closedWeeks_7 ?_
  refine q_if_eq (pc := 10) hX 22 (by decide) dX7_closedWeeks_10 (fun c => ?_) (fun c => ?_)
  · rw [if_pos c] at hE
    refine q_aload_n (pc := 22) hX 0 rfl rfl dX7_closedWeeks_22 ?_
    refine q_iconst (pc := 23) hX (1) rfl dX7_closedWeeks_23 ?_
    obtain ⟨r3, hr3, hE⟩ := ob_bind hE
    refine q_callV (pc := 24) (id := 1) (As := [.int 1]) (rest := []) (rv := some (.int r3.1)) (st' := [.int r3.1]) hX (c_X7_fails hr3) (vl_X7_178) (lt46 (by decide)) rfl rfl rfl pd_yX7_fails rfl ⟨by decide, by decide⟩ ⟨by decide, by decide⟩ rfl (Nat.le_of_ble_eq_true rfl) rfl dX7_closedWeeks_24 ?_
    cases hE
    exact q_iret hX hR (by decide) (by decide) dX7_closedWeeks_27
  · rw [if_neg c] at hE
    refine q_aload_n (pc := 13) hX 0 rfl rfl dX7_closedWeeks_13 ?_
    refine q_get (pc := 14) (id := 1) (ci := 7) (N := 34) (T := TX7) (C := RX7) hX 3 (lt46 (by decide)) rfl rfl in_X7 (by decide) (Or.inl kw_80) rfl dX7_closedWeeks_14 ?_
    refine q_iload_n (pc := 17) hX 1 rfl rfl dX7_closedWeeks_17 ?_
    obtain ⟨v4, hv4, hE⟩ := ob_bind hE
    refine r_iald (pc := 18) (id := 3) (n := 6) hX (lt46 (by decide)) (fun _ _ => rfl) hv4 dX7_closedWeeks_18 ?_
    refine q_goto (pc := 19) hX 27 (by decide) dX7_closedWeeks_19 ?_
    cases hE
    exact q_iret hX hR (by decide) (by decide) dX7_closedWeeks_27

set_option maxHeartbeats 4000000 in
theorem c_X7_earned {Y : Lx} {o : Nat → Nat} {hn : Nat} {M : Mem} {G : Mel} {x1 : Int32} {rr : Int64} {Mr : Mem} (hE : s_X7_earned M G x1 = some (rr, Mr)) : MI Y yX7_earned cX7_earned 2 (some .long) 2 43 0 0 [.ref (o 1), .int x1] o hn M G (.inl (some (.long rr))) Mr G := by
  refine MI.of (by decide +kernel) (Nat.le_of_ble_eq_true rfl) (fun X hY hX hE0 hR => ?_)
  change CxOK X RX7 cX7_earned 2 2 43 0 0 (some .long) at hX
  show WM X o hn M G 0 0 0 2 [(0, .ref (o 1)), (1, .int x1)] []
  unfold s_X7_earned at hE
  refine q_aload_n (pc := 0) hX 0 rfl rfl dX7_earned_0 ?_
  refine q_aload_n (pc := 1) hX 0 rfl rfl dX7_earned_1 ?_
  refine q_iload_n (pc := 2) hX 1 rfl rfl dX7_earned_2 ?_
  obtain ⟨r1, hr1, hE⟩ := ob_bind hE
  refine q_callV (pc := 3) (id := 1) (As := [.int x1]) (rest := [.ref (o 1)]) (rv := some (.int r1)) (st' := [.int r1, .ref (o 1)]) hX (c_X7_isOne hr1) (vl_X7_102) (lt46 (by decide)) rfl rfl rfl pd_yX7_isOne rfl ⟨by decide, by decide⟩ ⟨by decide, by decide⟩ rfl (Nat.le_of_ble_eq_true rfl) rfl dX7_earned_3 ?_
  obtain ⟨p3, hp3, hE⟩ := bnd_ob hE
  suffices Jp3 : WM X o hn M G 0 0 14 2 [(0, .ref (o 1)), (1, .int x1)] [.int p3, .ref (o 1)] by
    refine q_if_eq (pc := 6) hX 13 (by decide) dX7_earned_6 (fun c => ?_) (fun c => ?_)
    · rw [if_pos c] at hp3
      refine q_iconst (pc := 13) hX (1) rfl dX7_earned_13 ?_
      cases hp3
      exact Jp3
    · rw [if_neg c] at hp3
      refine q_iconst (pc := 9) hX (0) rfl dX7_earned_9 ?_
      refine q_goto (pc := 10) hX 14 (by decide) dX7_earned_10 ?_
      cases hp3
      exact Jp3
  obtain ⟨M4, hM4⟩ : ∃ z : Mem, z = mst M 1 0 p3 := ⟨_, rfl⟩
  have hE := bnd_nm hM4 hE
  refine pu_M_thrown (pc := 14) hX hM4 (Or.inl kw_106) dX7_earned_14 ?_
  refine q_aload_n (pc := 17) hX 0 rfl rfl dX7_earned_17 ?_
  refine q_get (pc := 18) (id := 1) (ci := 7) (N := 34) (T := TX7) (C := RX7) hX 0 (lt46 (by decide)) rfl rfl in_X7 (by decide) (Or.inl kw_106) rfl dX7_earned_18 ?_
  obtain ⟨p7, hp7, hE⟩ := ob_bind hE
  suffices Jp7 : WM X o hn M4 G 0 0 34 2 [] [.long p7] by
    refine q_if_le (pc := 21) hX 28 (by decide) dX7_earned_21 (fun c => ?_) (fun c => ?_)
    · rw [if_pos c] at hp7
      refine q_aload_n (pc := 28) hX 0 rfl rfl dX7_earned_28 ?_
      refine q_get (pc := 29) (id := 1) (ci := 7) (N := 34) (T := TX7) (C := RX7) hX 4 (lt46 (by decide)) rfl rfl in_X7 (by decide) (Or.inl kw_81) rfl dX7_earned_29 ?_
      refine q_iload_n (pc := 32) hX 1 rfl rfl dX7_earned_32 ?_
      obtain ⟨v6, hv6, hp7⟩ := ob_bind hp7
      refine r_lald (pc := 33) (id := 4) (n := 6) hX (lt46 (by decide)) (fun _ _ => rfl) hv6 dX7_earned_33 ?_
      refine q_lo [] rfl ?_
      cases hp7
      exact Jp7
    · rw [if_neg c] at hp7
      refine q_lconst (pc := 24) hX 0 rfl dX7_earned_24 ?_
      refine q_goto (pc := 25) hX 34 (by decide) dX7_earned_25 ?_
      refine q_lo [] rfl ?_
      cases hp7
      exact Jp7
  cases hE
  exact q_lret hX hR (by decide) (by decide) dX7_earned_34

set_option maxHeartbeats 4000000 in
theorem c_X7_looks {Y : Lx} {o : Nat → Nat} {hn : Nat} {M : Mem} {G : Mel} {x1 : Int32} {rr : Int32} {Mr : Mem} (hE : s_X7_looks M x1 = some (rr, Mr)) : MI Y yX7_looks cX7_looks 2 (some .boolean) 3 73 0 0 [.ref (o 1), .int x1] o hn M G (.inl (some (.int rr))) Mr G := by
  refine MI.of (by decide +kernel) (Nat.le_of_ble_eq_true rfl) (fun X hY hX hE0 hR => ?_)
  change CxOK X RX7 cX7_looks 2 3 73 0 0 (some .boolean) at hX
  show WM X o hn M G 0 0 0 2 [(0, .ref (o 1)), (1, .int x1)] []
  unfold s_X7_looks at hE
  refine q_aload_n (pc := 0) hX 0 rfl rfl dX7_looks_0 ?_
  refine q_aload_n (pc := 1) hX 0 rfl rfl dX7_looks_1 ?_
  refine q_iload_n (pc := 2) hX 1 rfl rfl dX7_looks_2 ?_
  obtain ⟨r1, hr1, hE⟩ := ob_bind hE
  refine q_callV (pc := 3) (id := 1) (As := [.int x1]) (rest := [.ref (o 1)]) (rv := some (.int r1)) (st' := [.int r1, .ref (o 1)]) hX (c_X7_isOne hr1) (vl_X7_102) (lt46 (by decide)) rfl rfl rfl pd_yX7_isOne rfl ⟨by decide, by decide⟩ ⟨by decide, by decide⟩ rfl (Nat.le_of_ble_eq_true rfl) rfl dX7_looks_3 ?_
  obtain ⟨p3, hp3, hE⟩ := bnd_ob hE
  suffices Jp3 : WM X o hn M G 0 0 14 2 [(0, .ref (o 1)), (1, .int x1)] [.int p3, .ref (o 1)] by
    refine q_if_eq (pc := 6) hX 13 (by decide) dX7_looks_6 (fun c => ?_) (fun c => ?_)
    · rw [if_pos c] at hp3
      refine q_iconst (pc := 13) hX (1) rfl dX7_looks_13 ?_
      cases hp3
      exact Jp3
    · rw [if_neg c] at hp3
      refine q_iconst (pc := 9) hX (0) rfl dX7_looks_9 ?_
      refine q_goto (pc := 10) hX 14 (by decide) dX7_looks_10 ?_
      cases hp3
      exact Jp3
  obtain ⟨M4, hM4⟩ : ∃ z : Mem, z = mst M 1 0 p3 := ⟨_, rfl⟩
  have hE := bnd_nm hM4 hE
  refine pu_M_thrown (pc := 14) hX hM4 (Or.inl kw_106) dX7_looks_14 ?_
  refine q_aload_n (pc := 17) hX 0 rfl rfl dX7_looks_17 ?_
  refine q_get (pc := 18) (id := 1) (ci := 7) (N := 34) (T := TX7) (C := RX7) hX 0 (lt46 (by decide)) rfl rfl in_X7 (by decide) (Or.inl kw_106) rfl dX7_looks_18 ?_
  obtain ⟨p7, hp7, hE⟩ := ob_bind hE
  suffices Jp7 : WM X o hn p7 G 0 0 29 2 [(0, .ref (o 1))] [] by
    refine q_if_ne (pc := 21) hX 29 (by decide) dX7_looks_21 (fun c => ?_) (fun c => ?_)
    · rw [if_neg c] at hp7
      refine q_lo [0] rfl ?_
      cases hp7
      exact Jp7
    · rw [if_pos c] at hp7
      refine q_aload_n (pc := 24) hX 0 rfl rfl dX7_looks_24 ?_
      refine q_iload_n (pc := 25) hX 1 rfl rfl dX7_looks_25 ?_
      obtain ⟨r6, hr6, hp7⟩ := ob_bind hp7
      refine q_callV (pc := 26) (id := 1) (As := [.int x1]) (rest := []) (rv := none) (st' := []) hX (c_X7_lays hr6) (vl_X7_167) (lt46 (by decide)) rfl rfl rfl pd_yX7_lays rfl ⟨by decide, by decide⟩ ⟨by decide, by decide⟩ rfl (Nat.le_of_ble_eq_true rfl) rfl dX7_looks_26 ?_
      refine q_lo [0] rfl ?_
      cases hp7
      exact Jp7
  refine q_aload_n (pc := 29) hX 0 rfl rfl dX7_looks_29 ?_
  refine q_get (pc := 30) (id := 1) (ci := 7) (N := 34) (T := TX7) (C := RX7) hX 0 (lt46 (by decide)) rfl rfl in_X7 (by decide) (Or.inl kw_106) rfl dX7_looks_30 ?_
  refine q_if_ne (pc := 33) hX 40 (by decide) dX7_looks_33 (fun c => ?_) (fun c => ?_)
  · rw [if_neg c] at hE
    refine q_iconst (pc := 40) hX (0) rfl dX7_looks_40 ?_
    cases hE
    exact q_zret hX (Or.inl rfl) hR (by decide) (by decide) dX7_looks_41
  · rw [if_pos c] at hE
    refine q_iconst (pc := 36) hX (1) rfl dX7_looks_36 ?_
    refine q_goto (pc := 37) hX 41 (by decide) dX7_looks_37 ?_
    cases hE
    exact q_zret hX (Or.inr rfl) hR (by decide) (by decide) dX7_looks_41

set_option maxHeartbeats 4000000 in
theorem c_X7_shifts {Y : Lx} {o : Nat → Nat} {hn : Nat} {M : Mem} {G : Mel} {x1 : Int32} {rr : Int32} {Mr : Mem} (hE : s_X7_shifts M x1 = some (rr, Mr)) : MI Y yX7_shifts cX7_shifts 2 (some .int) 4 94 0 0 [.ref (o 1), .int x1] o hn M G (.inl (some (.int rr))) Mr G := by
  refine MI.of (by decide +kernel) (Nat.le_of_ble_eq_true rfl) (fun X hY hX hE0 hR => ?_)
  change CxOK X RX7 cX7_shifts 2 4 94 0 0 (some .int) at hX
  show WM X o hn M G 0 0 0 2 [(0, .ref (o 1)), (1, .int x1)] []
  unfold s_X7_shifts at hE
  refine q_aload_n (pc := 0) hX 0 rfl rfl dX7_shifts_0 ?_
  refine q_iload_n (pc := 1) hX 1 rfl rfl dX7_shifts_1 ?_
  obtain ⟨r1, hr1, hE⟩ := ob_bind hE
  refine q_callV (pc := 2) (id := 1) (As := [.int x1]) (rest := []) (rv := some (.int r1.1)) (st' := [.int r1.1]) hX (c_X7_looks hr1) (vl_X7_181) (lt46 (by decide)) rfl rfl rfl pd_yX7_looks rfl ⟨by decide, by decide⟩ ⟨by decide, by decide⟩ rfl (Nat.le_of_ble_eq_true rfl) rfl dX7_shifts_2 ?_
  refine q_if_eq (pc := 5) hX 15 (by decide) dX7_shifts_5 (fun c => ?_) (fun c => ?_)
  · rw [if_pos c] at hE
    refine q_iconst (pc := 15) hX (0) rfl dX7_shifts_15 ?_
    cases hE
    exact q_iret hX hR (by decide) (by decide) dX7_shifts_16
  · rw [if_neg c] at hE
    refine q_aload_n (pc := 8) hX 0 rfl rfl dX7_shifts_8 ?_
    refine q_get (pc := 9) (id := 1) (ci := 7) (N := 34) (T := TX7) (C := RX7) hX 19 (lt46 (by decide)) rfl rfl in_X7 (by decide) (Or.inl kw_483) rfl dX7_shifts_9 ?_
    refine q_goto (pc := 12) hX 16 (by decide) dX7_shifts_12 ?_
    cases hE
    exact q_iret hX hR (by decide) (by decide) dX7_shifts_16

set_option maxHeartbeats 4000000 in
theorem c_X7_shiftBegin {Y : Lx} {o : Nat → Nat} {hn : Nat} {M : Mem} {G : Mel} {x1 : Int32} {x2 : Int32} {rr : Int32} {Mr : Mem} (hE : s_X7_shiftBegin M x1 x2 = some (rr, Mr)) : MI Y yX7_shiftBegin cX7_shiftBegin 4 (some .int) 4 94 0 0 [.ref (o 1), .int x1, .int x2] o hn M G (.inl (some (.int rr))) Mr G := by
  refine MI.of (by decide +kernel) (Nat.le_of_ble_eq_true rfl) (fun X hY hX hE0 hR => ?_)
  change CxOK X RX7 cX7_shiftBegin 4 4 94 0 0 (some .int) at hX
  show WM X o hn M G 0 0 0 4 [(0, .ref (o 1)), (1, .int x1), (2, .int x2)] []
  unfold s_X7_shiftBegin at hE
  refine q_aload_n (pc := 0) hX 0 rfl rfl dX7_shiftBegin_0 ?_
  refine q_iload_n (pc := 1) hX 1 rfl rfl dX7_shiftBegin_1 ?_
  obtain ⟨r1, hr1, hE⟩ := ob_bind hE
  refine q_callV (pc := 2) (id := 1) (As := [.int x1]) (rest := []) (rv := some (.int r1.1)) (st' := [.int r1.1]) hX (c_X7_looks hr1) (vl_X7_181) (lt46 (by decide)) rfl rfl rfl pd_yX7_looks rfl ⟨by decide, by decide⟩ ⟨by decide, by decide⟩ rfl (Nat.le_of_ble_eq_true rfl) rfl dX7_shiftBegin_2 ?_
  obtain ⟨p4, hp4, hE⟩ := ob_bind hE
  suffices Jp4 : WM X o hn r1.2 G 0 0 27 4 [(0, .ref (o 1)), (2, .int x2)] [.int p4] by
    refine q_if_eq (pc := 5) hX 26 (by decide) dX7_shiftBegin_5 (fun c => ?_) (fun c => ?_)
    · rw [if_pos c] at hp4
      refine q_iconst (pc := 26) hX (0) rfl dX7_shiftBegin_26 ?_
      refine q_lo [0, 2] rfl ?_
      cases hp4
      exact Jp4
    · rw [if_neg c] at hp4
      refine q_iload_n (pc := 8) hX 2 rfl rfl dX7_shiftBegin_8 ?_
      refine q_iconst (pc := 9) hX (0) rfl dX7_shiftBegin_9 ?_
      refine q_aload_n (pc := 10) hX 0 rfl rfl dX7_shiftBegin_10 ?_
      refine q_get (pc := 11) (id := 1) (ci := 7) (N := 34) (T := TX7) (C := RX7) hX 19 (lt46 (by decide)) rfl rfl in_X7 (by decide) (Or.inl kw_483) rfl dX7_shiftBegin_11 ?_
      refine q_iconst (pc := 14) hX (1) rfl dX7_shiftBegin_14 ?_
      refine q_isub (pc := 15) hX dX7_shiftBegin_15 ?_
      obtain ⟨r3, hr3, hp4⟩ := ob_bind hp4
      refine q_callS (pc := 16) (As := [.int x2, .int 0, .int ((r1.2 1 19) - 1)]) (rest := []) (rv := some (.int r3)) (st' := [.int r3]) hX (c_X7_in hr3) (sl_X7_97) pd_yX7_in rfl ⟨by decide, by decide⟩ ⟨by decide, by decide⟩ rfl (Nat.le_of_ble_eq_true rfl) rfl dX7_shiftBegin_16 ?_
      refine q_if_eq (pc := 19) hX 26 (by decide) dX7_shiftBegin_19 (fun c => ?_) (fun c => ?_)
      · rw [if_pos c] at hp4
        refine q_iconst (pc := 26) hX (0) rfl dX7_shiftBegin_26 ?_
        refine q_lo [0, 2] rfl ?_
        cases hp4
        exact Jp4
      · rw [if_neg c] at hp4
        refine q_iconst (pc := 22) hX (1) rfl dX7_shiftBegin_22 ?_
        refine q_goto (pc := 23) hX 27 (by decide) dX7_shiftBegin_23 ?_
        refine q_lo [0, 2] rfl ?_
        cases hp4
        exact Jp4
  refine q_istore_n (pc := 27) (lo' := [(0, .ref (o 1)), (2, .int x2), (3, .int p4)]) hX [1, 2, 0] rfl (by decide) rfl dX7_shiftBegin_27 ?_
  refine q_iload_n (pc := 28) hX 2 rfl rfl dX7_shiftBegin_28 ?_
  refine q_if_eq (pc := 29) hX 41 (by decide) dX7_shiftBegin_29 (fun c => ?_) (fun c => ?_)
  · rw [if_pos c] at hE
    refine q_aload_n (pc := 41) hX 0 rfl rfl dX7_shiftBegin_41 ?_
    refine q_iconst (pc := 42) hX (1) rfl dX7_shiftBegin_42 ?_
    obtain ⟨r5, hr5, hE⟩ := ob_bind hE
    refine q_callV (pc := 43) (id := 1) (As := [.int 1]) (rest := []) (rv := some (.int r5.1)) (st' := [.int r5.1]) hX (c_X7_fails hr5) (vl_X7_178) (lt46 (by decide)) rfl rfl rfl pd_yX7_fails rfl ⟨by decide, by decide⟩ ⟨by decide, by decide⟩ rfl (Nat.le_of_ble_eq_true rfl) rfl dX7_shiftBegin_43 ?_
    cases hE
    exact q_iret hX hR (by decide) (by decide) dX7_shiftBegin_46
  · rw [if_neg c] at hE
    refine q_aload_n (pc := 32) hX 0 rfl rfl dX7_shiftBegin_32 ?_
    refine q_get (pc := 33) (id := 1) (ci := 7) (N := 34) (T := TX7) (C := RX7) hX 21 (lt46 (by decide)) rfl rfl in_X7 (by decide) (Or.inl kw_96) rfl dX7_shiftBegin_33 ?_
    refine q_iload_n (pc := 36) hX 1 rfl rfl dX7_shiftBegin_36 ?_
    obtain ⟨v6, hv6, hE⟩ := ob_bind hE
    refine r_iald (pc := 37) (id := 18) (n := 41) hX (lt46 (by decide)) (fun _ _ => rfl) hv6 dX7_shiftBegin_37 ?_
    refine q_goto (pc := 38) hX 46 (by decide) dX7_shiftBegin_38 ?_
    cases hE
    exact q_iret hX hR (by decide) (by decide) dX7_shiftBegin_46

set_option maxHeartbeats 4000000 in
theorem c_X7_shiftEnd {Y : Lx} {o : Nat → Nat} {hn : Nat} {M : Mem} {G : Mel} {x1 : Int32} {x2 : Int32} {rr : Int32} {Mr : Mem} (hE : s_X7_shiftEnd M x1 x2 = some (rr, Mr)) : MI Y yX7_shiftEnd cX7_shiftEnd 4 (some .int) 4 94 0 0 [.ref (o 1), .int x1, .int x2] o hn M G (.inl (some (.int rr))) Mr G := by
  refine MI.of (by decide +kernel) (Nat.le_of_ble_eq_true rfl) (fun X hY hX hE0 hR => ?_)
  change CxOK X RX7 cX7_shiftEnd 4 4 94 0 0 (some .int) at hX
  show WM X o hn M G 0 0 0 4 [(0, .ref (o 1)), (1, .int x1), (2, .int x2)] []
  unfold s_X7_shiftEnd at hE
  refine q_aload_n (pc := 0) hX 0 rfl rfl dX7_shiftEnd_0 ?_
  refine q_iload_n (pc := 1) hX 1 rfl rfl dX7_shiftEnd_1 ?_
  obtain ⟨r1, hr1, hE⟩ := ob_bind hE
  refine q_callV (pc := 2) (id := 1) (As := [.int x1]) (rest := []) (rv := some (.int r1.1)) (st' := [.int r1.1]) hX (c_X7_looks hr1) (vl_X7_181) (lt46 (by decide)) rfl rfl rfl pd_yX7_looks rfl ⟨by decide, by decide⟩ ⟨by decide, by decide⟩ rfl (Nat.le_of_ble_eq_true rfl) rfl dX7_shiftEnd_2 ?_
  obtain ⟨p4, hp4, hE⟩ := ob_bind hE
  suffices Jp4 : WM X o hn r1.2 G 0 0 27 4 [(0, .ref (o 1)), (2, .int x2)] [.int p4] by
    refine q_if_eq (pc := 5) hX 26 (by decide) dX7_shiftEnd_5 (fun c => ?_) (fun c => ?_)
    · rw [if_pos c] at hp4
      refine q_iconst (pc := 26) hX (0) rfl dX7_shiftEnd_26 ?_
      refine q_lo [0, 2] rfl ?_
      cases hp4
      exact Jp4
    · rw [if_neg c] at hp4
      refine q_iload_n (pc := 8) hX 2 rfl rfl dX7_shiftEnd_8 ?_
      refine q_iconst (pc := 9) hX (0) rfl dX7_shiftEnd_9 ?_
      refine q_aload_n (pc := 10) hX 0 rfl rfl dX7_shiftEnd_10 ?_
      refine q_get (pc := 11) (id := 1) (ci := 7) (N := 34) (T := TX7) (C := RX7) hX 19 (lt46 (by decide)) rfl rfl in_X7 (by decide) (Or.inl kw_483) rfl dX7_shiftEnd_11 ?_
      refine q_iconst (pc := 14) hX (1) rfl dX7_shiftEnd_14 ?_
      refine q_isub (pc := 15) hX dX7_shiftEnd_15 ?_
      obtain ⟨r3, hr3, hp4⟩ := ob_bind hp4
      refine q_callS (pc := 16) (As := [.int x2, .int 0, .int ((r1.2 1 19) - 1)]) (rest := []) (rv := some (.int r3)) (st' := [.int r3]) hX (c_X7_in hr3) (sl_X7_97) pd_yX7_in rfl ⟨by decide, by decide⟩ ⟨by decide, by decide⟩ rfl (Nat.le_of_ble_eq_true rfl) rfl dX7_shiftEnd_16 ?_
      refine q_if_eq (pc := 19) hX 26 (by decide) dX7_shiftEnd_19 (fun c => ?_) (fun c => ?_)
      · rw [if_pos c] at hp4
        refine q_iconst (pc := 26) hX (0) rfl dX7_shiftEnd_26 ?_
        refine q_lo [0, 2] rfl ?_
        cases hp4
        exact Jp4
      · rw [if_neg c] at hp4
        refine q_iconst (pc := 22) hX (1) rfl dX7_shiftEnd_22 ?_
        refine q_goto (pc := 23) hX 27 (by decide) dX7_shiftEnd_23 ?_
        refine q_lo [0, 2] rfl ?_
        cases hp4
        exact Jp4
  refine q_istore_n (pc := 27) (lo' := [(0, .ref (o 1)), (2, .int x2), (3, .int p4)]) hX [1, 2, 0] rfl (by decide) rfl dX7_shiftEnd_27 ?_
  refine q_iload_n (pc := 28) hX 2 rfl rfl dX7_shiftEnd_28 ?_
  refine q_if_eq (pc := 29) hX 41 (by decide) dX7_shiftEnd_29 (fun c => ?_) (fun c => ?_)
  · rw [if_pos c] at hE
    refine q_aload_n (pc := 41) hX 0 rfl rfl dX7_shiftEnd_41 ?_
    refine q_iconst (pc := 42) hX (1) rfl dX7_shiftEnd_42 ?_
    obtain ⟨r5, hr5, hE⟩ := ob_bind hE
    refine q_callV (pc := 43) (id := 1) (As := [.int 1]) (rest := []) (rv := some (.int r5.1)) (st' := [.int r5.1]) hX (c_X7_fails hr5) (vl_X7_178) (lt46 (by decide)) rfl rfl rfl pd_yX7_fails rfl ⟨by decide, by decide⟩ ⟨by decide, by decide⟩ rfl (Nat.le_of_ble_eq_true rfl) rfl dX7_shiftEnd_43 ?_
    cases hE
    exact q_iret hX hR (by decide) (by decide) dX7_shiftEnd_46
  · rw [if_neg c] at hE
    refine q_aload_n (pc := 32) hX 0 rfl rfl dX7_shiftEnd_32 ?_
    refine q_get (pc := 33) (id := 1) (ci := 7) (N := 34) (T := TX7) (C := RX7) hX 22 (lt46 (by decide)) rfl rfl in_X7 (by decide) (Or.inl kw_97) rfl dX7_shiftEnd_33 ?_
    refine q_iload_n (pc := 36) hX 1 rfl rfl dX7_shiftEnd_36 ?_
    obtain ⟨v6, hv6, hE⟩ := ob_bind hE
    refine r_iald (pc := 37) (id := 19) (n := 41) hX (lt46 (by decide)) (fun _ _ => rfl) hv6 dX7_shiftEnd_37 ?_
    refine q_goto (pc := 38) hX 46 (by decide) dX7_shiftEnd_38 ?_
    cases hE
    exact q_iret hX hR (by decide) (by decide) dX7_shiftEnd_46

set_option maxHeartbeats 4000000 in
theorem c_X7_repairedShifts {Y : Lx} {o : Nat → Nat} {hn : Nat} {M : Mem} {G : Mel} {x1 : Int32} {rr : Int32} {Mr : Mem} (hE : s_X7_repairedShifts M x1 = some (rr, Mr)) : MI Y yX7_repairedShifts cX7_repairedShifts 2 (some .int) 4 94 0 0 [.ref (o 1), .int x1] o hn M G (.inl (some (.int rr))) Mr G := by
  refine MI.of (by decide +kernel) (Nat.le_of_ble_eq_true rfl) (fun X hY hX hE0 hR => ?_)
  change CxOK X RX7 cX7_repairedShifts 2 4 94 0 0 (some .int) at hX
  show WM X o hn M G 0 0 0 2 [(0, .ref (o 1)), (1, .int x1)] []
  unfold s_X7_repairedShifts at hE
  refine q_aload_n (pc := 0) hX 0 rfl rfl dX7_repairedShifts_0 ?_
  refine q_iload_n (pc := 1) hX 1 rfl rfl dX7_repairedShifts_1 ?_
  obtain ⟨r1, hr1, hE⟩ := ob_bind hE
  refine q_callV (pc := 2) (id := 1) (As := [.int x1]) (rest := []) (rv := some (.int r1.1)) (st' := [.int r1.1]) hX (c_X7_looks hr1) (vl_X7_181) (lt46 (by decide)) rfl rfl rfl pd_yX7_looks rfl ⟨by decide, by decide⟩ ⟨by decide, by decide⟩ rfl (Nat.le_of_ble_eq_true rfl) rfl dX7_repairedShifts_2 ?_
  refine q_if_eq (pc := 5) hX 15 (by decide) dX7_repairedShifts_5 (fun c => ?_) (fun c => ?_)
  · rw [if_pos c] at hE
    refine q_iconst (pc := 15) hX (0) rfl dX7_repairedShifts_15 ?_
    cases hE
    exact q_iret hX hR (by decide) (by decide) dX7_repairedShifts_16
  · rw [if_neg c] at hE
    refine q_aload_n (pc := 8) hX 0 rfl rfl dX7_repairedShifts_8 ?_
    refine q_get (pc := 9) (id := 1) (ci := 7) (N := 34) (T := TX7) (C := RX7) hX 20 (lt46 (by decide)) rfl rfl in_X7 (by decide) (Or.inl kw_488) rfl dX7_repairedShifts_9 ?_
    refine q_goto (pc := 12) hX 16 (by decide) dX7_repairedShifts_12 ?_
    cases hE
    exact q_iret hX hR (by decide) (by decide) dX7_repairedShifts_16

set_option maxHeartbeats 4000000 in
theorem c_X7_coverage {Y : Lx} {o : Nat → Nat} {hn : Nat} {M : Mem} {G : Mel} {x1 : Int32} {x2 : Int32} {rr : Int32} {Mr : Mem} (hE : s_X7_coverage M x1 x2 = some (rr, Mr)) : MI Y yX7_coverage cX7_coverage 4 (some .int) 4 94 0 0 [.ref (o 1), .int x1, .int x2] o hn M G (.inl (some (.int rr))) Mr G := by
  refine MI.of (by decide +kernel) (Nat.le_of_ble_eq_true rfl) (fun X hY hX hE0 hR => ?_)
  change CxOK X RX7 cX7_coverage 4 4 94 0 0 (some .int) at hX
  show WM X o hn M G 0 0 0 4 [(0, .ref (o 1)), (1, .int x1), (2, .int x2)] []
  unfold s_X7_coverage at hE
  refine q_aload_n (pc := 0) hX 0 rfl rfl dX7_coverage_0 ?_
  refine q_iload_n (pc := 1) hX 1 rfl rfl dX7_coverage_1 ?_
  obtain ⟨r1, hr1, hE⟩ := ob_bind hE
  refine q_callV (pc := 2) (id := 1) (As := [.int x1]) (rest := []) (rv := some (.int r1.1)) (st' := [.int r1.1]) hX (c_X7_looks hr1) (vl_X7_181) (lt46 (by decide)) rfl rfl rfl pd_yX7_looks rfl ⟨by decide, by decide⟩ ⟨by decide, by decide⟩ rfl (Nat.le_of_ble_eq_true rfl) rfl dX7_coverage_2 ?_
  refine q_istore_n (pc := 5) (lo' := [(0, .ref (o 1)), (1, .int x1), (2, .int x2), (3, .int r1.1)]) hX [1, 2, 3, 0] rfl (by decide) rfl dX7_coverage_5 ?_
  refine q_aload_n (pc := 6) hX 0 rfl rfl dX7_coverage_6 ?_
  refine q_iload_n (pc := 7) hX 3 rfl rfl dX7_coverage_7 ?_
  obtain ⟨p4, hp4, hE⟩ := ob_bind hE
  suffices Jp4 : WM X o hn r1.2 G 0 0 30 4 [(0, .ref (o 1)), (2, .int x2)] [.int p4, .ref (o 1)] by
    refine q_if_eq (pc := 8) hX 26 (by decide) dX7_coverage_8 (fun c => ?_) (fun c => ?_)
    · rw [if_pos c] at hp4
      refine q_aload_n (pc := 26) hX 0 rfl rfl dX7_coverage_26 ?_
      refine q_get (pc := 27) (id := 1) (ci := 7) (N := 34) (T := TX7) (C := RX7) hX 0 (lt46 (by decide)) rfl rfl in_X7 (by decide) (Or.inl kw_106) rfl dX7_coverage_27 ?_
      refine q_lo [0, 2] rfl ?_
      cases hp4
      exact Jp4
    · rw [if_neg c] at hp4
      refine q_iload_n (pc := 11) hX 2 rfl rfl dX7_coverage_11 ?_
      refine q_iconst (pc := 12) hX (0) rfl dX7_coverage_12 ?_
      refine q_sipush (pc := 13) hX (10079) (by decide) dX7_coverage_13 ?_
      obtain ⟨r3, hr3, hp4⟩ := ob_bind hp4
      refine q_callS (pc := 16) (As := [.int x2, .int 0, .int 10079]) (rest := [.ref (o 1)]) (rv := some (.int r3)) (st' := [.int r3, .ref (o 1)]) hX (c_X7_in hr3) (sl_X7_97) pd_yX7_in rfl ⟨by decide, by decide⟩ ⟨by decide, by decide⟩ rfl (Nat.le_of_ble_eq_true rfl) rfl dX7_coverage_16 ?_
      refine q_if_ne (pc := 19) hX 26 (by decide) dX7_coverage_19 (fun c => ?_) (fun c => ?_)
      · rw [if_neg c] at hp4
        refine q_aload_n (pc := 26) hX 0 rfl rfl dX7_coverage_26 ?_
        refine q_get (pc := 27) (id := 1) (ci := 7) (N := 34) (T := TX7) (C := RX7) hX 0 (lt46 (by decide)) rfl rfl in_X7 (by decide) (Or.inl kw_106) rfl dX7_coverage_27 ?_
        refine q_lo [0, 2] rfl ?_
        cases hp4
        exact Jp4
      · rw [if_pos c] at hp4
        refine q_iconst (pc := 22) hX (2) rfl dX7_coverage_22 ?_
        refine q_goto (pc := 23) hX 30 (by decide) dX7_coverage_23 ?_
        refine q_lo [0, 2] rfl ?_
        cases hp4
        exact Jp4
  obtain ⟨M5, hM5⟩ : ∃ z : Mem, z = mst r1.2 1 0 p4 := ⟨_, rfl⟩
  have hE := bnd_nm hM5 hE
  refine pu_M_thrown (pc := 30) hX hM5 (Or.inl kw_106) dX7_coverage_30 ?_
  refine q_aload_n (pc := 33) hX 0 rfl rfl dX7_coverage_33 ?_
  refine q_get (pc := 34) (id := 1) (ci := 7) (N := 34) (T := TX7) (C := RX7) hX 0 (lt46 (by decide)) rfl rfl in_X7 (by decide) (Or.inl kw_106) rfl dX7_coverage_34 ?_
  refine q_if_le (pc := 37) hX 44 (by decide) dX7_coverage_37 (fun c => ?_) (fun c => ?_)
  · rw [if_pos c] at hE
    refine q_aload_n (pc := 44) hX 0 rfl rfl dX7_coverage_44 ?_
    refine q_get (pc := 45) (id := 1) (ci := 7) (N := 34) (T := TX7) (C := RX7) hX 23 (lt46 (by decide)) rfl rfl in_X7 (by decide) (Or.inl kw_98) rfl dX7_coverage_45 ?_
    refine q_iload_n (pc := 48) hX 1 rfl rfl dX7_coverage_48 ?_
    obtain ⟨v6, hv6, hE⟩ := ob_bind hE
    refine r_iald (pc := 49) (id := 20) (n := 10081) hX (lt46 (by decide)) (fun _ _ => rfl) hv6 dX7_coverage_49 ?_
    cases hE
    exact q_iret hX hR (by decide) (by decide) dX7_coverage_50
  · rw [if_neg c] at hE
    refine q_iconst (pc := 40) hX (0) rfl dX7_coverage_40 ?_
    refine q_goto (pc := 41) hX 50 (by decide) dX7_coverage_41 ?_
    cases hE
    exact q_iret hX hR (by decide) (by decide) dX7_coverage_50

set_option maxHeartbeats 4000000 in
theorem c_X7_overlap {Y : Lx} {o : Nat → Nat} {hn : Nat} {M : Mem} {G : Mel} {x1 : Int32} {rr : Int32} {Mr : Mem} (hE : s_X7_overlap M x1 = some (rr, Mr)) : MI Y yX7_overlap cX7_overlap 2 (some .int) 4 94 0 0 [.ref (o 1), .int x1] o hn M G (.inl (some (.int rr))) Mr G := by
  refine MI.of (by decide +kernel) (Nat.le_of_ble_eq_true rfl) (fun X hY hX hE0 hR => ?_)
  change CxOK X RX7 cX7_overlap 2 4 94 0 0 (some .int) at hX
  show WM X o hn M G 0 0 0 2 [(0, .ref (o 1)), (1, .int x1)] []
  unfold s_X7_overlap at hE
  refine q_aload_n (pc := 0) hX 0 rfl rfl dX7_overlap_0 ?_
  refine q_iload_n (pc := 1) hX 1 rfl rfl dX7_overlap_1 ?_
  obtain ⟨r1, hr1, hE⟩ := ob_bind hE
  refine q_callV (pc := 2) (id := 1) (As := [.int x1]) (rest := []) (rv := some (.int r1.1)) (st' := [.int r1.1]) hX (c_X7_looks hr1) (vl_X7_181) (lt46 (by decide)) rfl rfl rfl pd_yX7_looks rfl ⟨by decide, by decide⟩ ⟨by decide, by decide⟩ rfl (Nat.le_of_ble_eq_true rfl) rfl dX7_overlap_2 ?_
  refine q_if_eq (pc := 5) hX 15 (by decide) dX7_overlap_5 (fun c => ?_) (fun c => ?_)
  · rw [if_pos c] at hE
    refine q_iconst (pc := 15) hX (0) rfl dX7_overlap_15 ?_
    cases hE
    exact q_iret hX hR (by decide) (by decide) dX7_overlap_16
  · rw [if_neg c] at hE
    refine q_aload_n (pc := 8) hX 0 rfl rfl dX7_overlap_8 ?_
    refine q_get (pc := 9) (id := 1) (ci := 7) (N := 34) (T := TX7) (C := RX7) hX 31 (lt46 (by decide)) rfl rfl in_X7 (by decide) (Or.inl kw_501) rfl dX7_overlap_9 ?_
    refine q_goto (pc := 12) hX 16 (by decide) dX7_overlap_12 ?_
    cases hE
    exact q_iret hX hR (by decide) (by decide) dX7_overlap_16

set_option maxHeartbeats 4000000 in
theorem c_X7_workedOn {Y : Lx} {o : Nat → Nat} {hn : Nat} {M : Mem} {G : Mel} {x1 : Int32} {x2 : Int32} {rr : Int32} {Mr : Mem} (hE : s_X7_workedOn M x1 x2 = some (rr, Mr)) : MI Y yX7_workedOn cX7_workedOn 4 (some .int) 4 94 0 0 [.ref (o 1), .int x1, .int x2] o hn M G (.inl (some (.int rr))) Mr G := by
  refine MI.of (by decide +kernel) (Nat.le_of_ble_eq_true rfl) (fun X hY hX hE0 hR => ?_)
  change CxOK X RX7 cX7_workedOn 4 4 94 0 0 (some .int) at hX
  show WM X o hn M G 0 0 0 4 [(0, .ref (o 1)), (1, .int x1), (2, .int x2)] []
  unfold s_X7_workedOn at hE
  refine q_aload_n (pc := 0) hX 0 rfl rfl dX7_workedOn_0 ?_
  refine q_iload_n (pc := 1) hX 1 rfl rfl dX7_workedOn_1 ?_
  obtain ⟨r1, hr1, hE⟩ := ob_bind hE
  refine q_callV (pc := 2) (id := 1) (As := [.int x1]) (rest := []) (rv := some (.int r1.1)) (st' := [.int r1.1]) hX (c_X7_looks hr1) (vl_X7_181) (lt46 (by decide)) rfl rfl rfl pd_yX7_looks rfl ⟨by decide, by decide⟩ ⟨by decide, by decide⟩ rfl (Nat.le_of_ble_eq_true rfl) rfl dX7_workedOn_2 ?_
  refine q_istore_n (pc := 5) (lo' := [(0, .ref (o 1)), (1, .int x1), (2, .int x2), (3, .int r1.1)]) hX [1, 2, 3, 0] rfl (by decide) rfl dX7_workedOn_5 ?_
  refine q_aload_n (pc := 6) hX 0 rfl rfl dX7_workedOn_6 ?_
  refine q_iload_n (pc := 7) hX 3 rfl rfl dX7_workedOn_7 ?_
  obtain ⟨p4, hp4, hE⟩ := ob_bind hE
  suffices Jp4 : WM X o hn r1.2 G 0 0 29 4 [(0, .ref (o 1)), (2, .int x2)] [.int p4, .ref (o 1)] by
    refine q_if_eq (pc := 8) hX 25 (by decide) dX7_workedOn_8 (fun c => ?_) (fun c => ?_)
    · rw [if_pos c] at hp4
      refine q_aload_n (pc := 25) hX 0 rfl rfl dX7_workedOn_25 ?_
      refine q_get (pc := 26) (id := 1) (ci := 7) (N := 34) (T := TX7) (C := RX7) hX 0 (lt46 (by decide)) rfl rfl in_X7 (by decide) (Or.inl kw_106) rfl dX7_workedOn_26 ?_
      refine q_lo [0, 2] rfl ?_
      cases hp4
      exact Jp4
    · rw [if_neg c] at hp4
      refine q_iload_n (pc := 11) hX 2 rfl rfl dX7_workedOn_11 ?_
      refine q_iconst (pc := 12) hX (0) rfl dX7_workedOn_12 ?_
      refine q_bipush (pc := 13) hX (6) (by decide) dX7_workedOn_13 ?_
      obtain ⟨r3, hr3, hp4⟩ := ob_bind hp4
      refine q_callS (pc := 15) (As := [.int x2, .int 0, .int 6]) (rest := [.ref (o 1)]) (rv := some (.int r3)) (st' := [.int r3, .ref (o 1)]) hX (c_X7_in hr3) (sl_X7_97) pd_yX7_in rfl ⟨by decide, by decide⟩ ⟨by decide, by decide⟩ rfl (Nat.le_of_ble_eq_true rfl) rfl dX7_workedOn_15 ?_
      refine q_if_ne (pc := 18) hX 25 (by decide) dX7_workedOn_18 (fun c => ?_) (fun c => ?_)
      · rw [if_neg c] at hp4
        refine q_aload_n (pc := 25) hX 0 rfl rfl dX7_workedOn_25 ?_
        refine q_get (pc := 26) (id := 1) (ci := 7) (N := 34) (T := TX7) (C := RX7) hX 0 (lt46 (by decide)) rfl rfl in_X7 (by decide) (Or.inl kw_106) rfl dX7_workedOn_26 ?_
        refine q_lo [0, 2] rfl ?_
        cases hp4
        exact Jp4
      · rw [if_pos c] at hp4
        refine q_iconst (pc := 21) hX (2) rfl dX7_workedOn_21 ?_
        refine q_goto (pc := 22) hX 29 (by decide) dX7_workedOn_22 ?_
        refine q_lo [0, 2] rfl ?_
        cases hp4
        exact Jp4
  obtain ⟨M5, hM5⟩ : ∃ z : Mem, z = mst r1.2 1 0 p4 := ⟨_, rfl⟩
  have hE := bnd_nm hM5 hE
  refine pu_M_thrown (pc := 29) hX hM5 (Or.inl kw_106) dX7_workedOn_29 ?_
  refine q_aload_n (pc := 32) hX 0 rfl rfl dX7_workedOn_32 ?_
  refine q_get (pc := 33) (id := 1) (ci := 7) (N := 34) (T := TX7) (C := RX7) hX 0 (lt46 (by decide)) rfl rfl in_X7 (by decide) (Or.inl kw_106) rfl dX7_workedOn_33 ?_
  refine q_if_le (pc := 36) hX 43 (by decide) dX7_workedOn_36 (fun c => ?_) (fun c => ?_)
  · rw [if_pos c] at hE
    refine q_aload_n (pc := 43) hX 0 rfl rfl dX7_workedOn_43 ?_
    refine q_get (pc := 44) (id := 1) (ci := 7) (N := 34) (T := TX7) (C := RX7) hX 26 (lt46 (by decide)) rfl rfl in_X7 (by decide) (Or.inl kw_101) rfl dX7_workedOn_44 ?_
    refine q_iload_n (pc := 47) hX 1 rfl rfl dX7_workedOn_47 ?_
    obtain ⟨v6, hv6, hE⟩ := ob_bind hE
    refine r_iald (pc := 48) (id := 23) (n := 7) hX (lt46 (by decide)) (fun _ _ => rfl) hv6 dX7_workedOn_48 ?_
    cases hE
    exact q_iret hX hR (by decide) (by decide) dX7_workedOn_49
  · rw [if_neg c] at hE
    refine q_iconst (pc := 39) hX (0) rfl dX7_workedOn_39 ?_
    refine q_goto (pc := 40) hX 49 (by decide) dX7_workedOn_40 ?_
    cases hE
    exact q_iret hX hR (by decide) (by decide) dX7_workedOn_49

set_option maxHeartbeats 4000000 in
theorem c_X7_stretches {Y : Lx} {o : Nat → Nat} {hn : Nat} {M : Mem} {G : Mel} {x1 : Int32} {rr : Int32} {Mr : Mem} (hE : s_X7_stretches M x1 = some (rr, Mr)) : MI Y yX7_stretches cX7_stretches 2 (some .int) 4 94 0 0 [.ref (o 1), .int x1] o hn M G (.inl (some (.int rr))) Mr G := by
  refine MI.of (by decide +kernel) (Nat.le_of_ble_eq_true rfl) (fun X hY hX hE0 hR => ?_)
  change CxOK X RX7 cX7_stretches 2 4 94 0 0 (some .int) at hX
  show WM X o hn M G 0 0 0 2 [(0, .ref (o 1)), (1, .int x1)] []
  unfold s_X7_stretches at hE
  refine q_aload_n (pc := 0) hX 0 rfl rfl dX7_stretches_0 ?_
  refine q_iload_n (pc := 1) hX 1 rfl rfl dX7_stretches_1 ?_
  obtain ⟨r1, hr1, hE⟩ := ob_bind hE
  refine q_callV (pc := 2) (id := 1) (As := [.int x1]) (rest := []) (rv := some (.int r1.1)) (st' := [.int r1.1]) hX (c_X7_looks hr1) (vl_X7_181) (lt46 (by decide)) rfl rfl rfl pd_yX7_looks rfl ⟨by decide, by decide⟩ ⟨by decide, by decide⟩ rfl (Nat.le_of_ble_eq_true rfl) rfl dX7_stretches_2 ?_
  refine q_if_eq (pc := 5) hX 15 (by decide) dX7_stretches_5 (fun c => ?_) (fun c => ?_)
  · rw [if_pos c] at hE
    refine q_iconst (pc := 15) hX (0) rfl dX7_stretches_15 ?_
    cases hE
    exact q_iret hX hR (by decide) (by decide) dX7_stretches_16
  · rw [if_neg c] at hE
    refine q_aload_n (pc := 8) hX 0 rfl rfl dX7_stretches_8 ?_
    refine q_get (pc := 9) (id := 1) (ci := 7) (N := 34) (T := TX7) (C := RX7) hX 32 (lt46 (by decide)) rfl rfl in_X7 (by decide) (Or.inl kw_502) rfl dX7_stretches_9 ?_
    refine q_goto (pc := 12) hX 16 (by decide) dX7_stretches_12 ?_
    cases hE
    exact q_iret hX hR (by decide) (by decide) dX7_stretches_16

set_option maxHeartbeats 4000000 in
theorem c_X7_longestStretch {Y : Lx} {o : Nat → Nat} {hn : Nat} {M : Mem} {G : Mel} {x1 : Int32} {rr : Int32} {Mr : Mem} (hE : s_X7_longestStretch M x1 = some (rr, Mr)) : MI Y yX7_longestStretch cX7_longestStretch 2 (some .int) 4 94 0 0 [.ref (o 1), .int x1] o hn M G (.inl (some (.int rr))) Mr G := by
  refine MI.of (by decide +kernel) (Nat.le_of_ble_eq_true rfl) (fun X hY hX hE0 hR => ?_)
  change CxOK X RX7 cX7_longestStretch 2 4 94 0 0 (some .int) at hX
  show WM X o hn M G 0 0 0 2 [(0, .ref (o 1)), (1, .int x1)] []
  unfold s_X7_longestStretch at hE
  refine q_aload_n (pc := 0) hX 0 rfl rfl dX7_longestStretch_0 ?_
  refine q_iload_n (pc := 1) hX 1 rfl rfl dX7_longestStretch_1 ?_
  obtain ⟨r1, hr1, hE⟩ := ob_bind hE
  refine q_callV (pc := 2) (id := 1) (As := [.int x1]) (rest := []) (rv := some (.int r1.1)) (st' := [.int r1.1]) hX (c_X7_looks hr1) (vl_X7_181) (lt46 (by decide)) rfl rfl rfl pd_yX7_looks rfl ⟨by decide, by decide⟩ ⟨by decide, by decide⟩ rfl (Nat.le_of_ble_eq_true rfl) rfl dX7_longestStretch_2 ?_
  refine q_if_eq (pc := 5) hX 15 (by decide) dX7_longestStretch_5 (fun c => ?_) (fun c => ?_)
  · rw [if_pos c] at hE
    refine q_iconst (pc := 15) hX (0) rfl dX7_longestStretch_15 ?_
    cases hE
    exact q_iret hX hR (by decide) (by decide) dX7_longestStretch_16
  · rw [if_neg c] at hE
    refine q_aload_n (pc := 8) hX 0 rfl rfl dX7_longestStretch_8 ?_
    refine q_get (pc := 9) (id := 1) (ci := 7) (N := 34) (T := TX7) (C := RX7) hX 33 (lt46 (by decide)) rfl rfl in_X7 (by decide) (Or.inl kw_503) rfl dX7_longestStretch_9 ?_
    refine q_goto (pc := 12) hX 16 (by decide) dX7_longestStretch_12 ?_
    cases hE
    exact q_iret hX hR (by decide) (by decide) dX7_longestStretch_16

set_option maxHeartbeats 4000000 in
theorem c_X7_category {Y : Lx} {o : Nat → Nat} {hn : Nat} {M : Mem} {G : Mel} {x1 : Int32} {x2 : Int32} {rr : Int32} {Mr : Mem} (hE : s_X7_category M x1 x2 = some (rr, Mr)) : MI Y yX7_category cX7_category 4 (some .int) 4 94 0 0 [.ref (o 1), .int x1, .int x2] o hn M G (.inl (some (.int rr))) Mr G := by
  refine MI.of (by decide +kernel) (Nat.le_of_ble_eq_true rfl) (fun X hY hX hE0 hR => ?_)
  change CxOK X RX7 cX7_category 4 4 94 0 0 (some .int) at hX
  show WM X o hn M G 0 0 0 4 [(0, .ref (o 1)), (1, .int x1), (2, .int x2)] []
  unfold s_X7_category at hE
  refine q_aload_n (pc := 0) hX 0 rfl rfl dX7_category_0 ?_
  refine q_iload_n (pc := 1) hX 1 rfl rfl dX7_category_1 ?_
  obtain ⟨r1, hr1, hE⟩ := ob_bind hE
  refine q_callV (pc := 2) (id := 1) (As := [.int x1]) (rest := []) (rv := some (.int r1.1)) (st' := [.int r1.1]) hX (c_X7_looks hr1) (vl_X7_181) (lt46 (by decide)) rfl rfl rfl pd_yX7_looks rfl ⟨by decide, by decide⟩ ⟨by decide, by decide⟩ rfl (Nat.le_of_ble_eq_true rfl) rfl dX7_category_2 ?_
  refine q_istore_n (pc := 5) (lo' := [(0, .ref (o 1)), (1, .int x1), (2, .int x2), (3, .int r1.1)]) hX [1, 2, 3, 0] rfl (by decide) rfl dX7_category_5 ?_
  refine q_aload_n (pc := 6) hX 0 rfl rfl dX7_category_6 ?_
  refine q_iload_n (pc := 7) hX 3 rfl rfl dX7_category_7 ?_
  obtain ⟨p4, hp4, hE⟩ := ob_bind hE
  suffices Jp4 : WM X o hn r1.2 G 0 0 30 4 [(0, .ref (o 1)), (2, .int x2)] [.int p4, .ref (o 1)] by
    refine q_if_eq (pc := 8) hX 26 (by decide) dX7_category_8 (fun c => ?_) (fun c => ?_)
    · rw [if_pos c] at hp4
      refine q_aload_n (pc := 26) hX 0 rfl rfl dX7_category_26 ?_
      refine q_get (pc := 27) (id := 1) (ci := 7) (N := 34) (T := TX7) (C := RX7) hX 0 (lt46 (by decide)) rfl rfl in_X7 (by decide) (Or.inl kw_106) rfl dX7_category_27 ?_
      refine q_lo [0, 2] rfl ?_
      cases hp4
      exact Jp4
    · rw [if_neg c] at hp4
      refine q_iload_n (pc := 11) hX 2 rfl rfl dX7_category_11 ?_
      refine q_iconst (pc := 12) hX (0) rfl dX7_category_12 ?_
      refine q_sipush (pc := 13) hX (10079) (by decide) dX7_category_13 ?_
      obtain ⟨r3, hr3, hp4⟩ := ob_bind hp4
      refine q_callS (pc := 16) (As := [.int x2, .int 0, .int 10079]) (rest := [.ref (o 1)]) (rv := some (.int r3)) (st' := [.int r3, .ref (o 1)]) hX (c_X7_in hr3) (sl_X7_97) pd_yX7_in rfl ⟨by decide, by decide⟩ ⟨by decide, by decide⟩ rfl (Nat.le_of_ble_eq_true rfl) rfl dX7_category_16 ?_
      refine q_if_ne (pc := 19) hX 26 (by decide) dX7_category_19 (fun c => ?_) (fun c => ?_)
      · rw [if_neg c] at hp4
        refine q_aload_n (pc := 26) hX 0 rfl rfl dX7_category_26 ?_
        refine q_get (pc := 27) (id := 1) (ci := 7) (N := 34) (T := TX7) (C := RX7) hX 0 (lt46 (by decide)) rfl rfl in_X7 (by decide) (Or.inl kw_106) rfl dX7_category_27 ?_
        refine q_lo [0, 2] rfl ?_
        cases hp4
        exact Jp4
      · rw [if_pos c] at hp4
        refine q_iconst (pc := 22) hX (2) rfl dX7_category_22 ?_
        refine q_goto (pc := 23) hX 30 (by decide) dX7_category_23 ?_
        refine q_lo [0, 2] rfl ?_
        cases hp4
        exact Jp4
  obtain ⟨M5, hM5⟩ : ∃ z : Mem, z = mst r1.2 1 0 p4 := ⟨_, rfl⟩
  have hE := bnd_nm hM5 hE
  refine pu_M_thrown (pc := 30) hX hM5 (Or.inl kw_106) dX7_category_30 ?_
  refine q_aload_n (pc := 33) hX 0 rfl rfl dX7_category_33 ?_
  refine q_get (pc := 34) (id := 1) (ci := 7) (N := 34) (T := TX7) (C := RX7) hX 0 (lt46 (by decide)) rfl rfl in_X7 (by decide) (Or.inl kw_106) rfl dX7_category_34 ?_
  refine q_if_le (pc := 37) hX 44 (by decide) dX7_category_37 (fun c => ?_) (fun c => ?_)
  · rw [if_pos c] at hE
    refine q_aload_n (pc := 44) hX 0 rfl rfl dX7_category_44 ?_
    refine q_get (pc := 45) (id := 1) (ci := 7) (N := 34) (T := TX7) (C := RX7) hX 25 (lt46 (by decide)) rfl rfl in_X7 (by decide) (Or.inl kw_100) rfl dX7_category_45 ?_
    refine q_iload_n (pc := 48) hX 1 rfl rfl dX7_category_48 ?_
    obtain ⟨v6, hv6, hE⟩ := ob_bind hE
    refine r_iald (pc := 49) (id := 22) (n := 10080) hX (lt46 (by decide)) (fun _ _ => rfl) hv6 dX7_category_49 ?_
    cases hE
    exact q_iret hX hR (by decide) (by decide) dX7_category_50
  · rw [if_neg c] at hE
    refine q_iconst (pc := 40) hX (0) rfl dX7_category_40 ?_
    refine q_goto (pc := 41) hX 50 (by decide) dX7_category_41 ?_
    cases hE
    exact q_iret hX hR (by decide) (by decide) dX7_category_50

set_option maxHeartbeats 4000000 in
theorem c_X7_told {Y : Lx} {o : Nat → Nat} {hn : Nat} {M : Mem} {G : Mel} {x1 : Int32} {x2 : Int32} {x3 : Int32} {q4 : Nat} {rr : Int32} {Mr : Mem} (hq4 : arr q4 21) (hE : s_X7_told M x1 x2 x3 q4 = some (rr, Mr)) : MI Y yX7_told cX7_told 6 (some .int) 4 94 0 0 [.ref (o 1), .int x1, .int x2, .int x3, .ref (o q4)] o hn M G (.inl (some (.int rr))) Mr G := by
  refine MI.of (by decide +kernel) (Nat.le_of_ble_eq_true rfl) (fun X hY hX hE0 hR => ?_)
  change CxOK X RX7 cX7_told 6 4 94 0 0 (some .int) at hX
  show WM X o hn M G 0 0 0 6 [(0, .ref (o 1)), (1, .int x1), (2, .int x2), (3, .int x3), (4, .ref (o q4))] []
  unfold s_X7_told at hE
  refine q_aload_n (pc := 0) hX 0 rfl rfl dX7_told_0 ?_
  refine q_iload_n (pc := 1) hX 1 rfl rfl dX7_told_1 ?_
  obtain ⟨r1, hr1, hE⟩ := ob_bind hE
  refine q_callV (pc := 2) (id := 1) (As := [.int x1]) (rest := []) (rv := some (.int r1.1)) (st' := [.int r1.1]) hX (c_X7_looks hr1) (vl_X7_181) (lt46 (by decide)) rfl rfl rfl pd_yX7_looks rfl ⟨by decide, by decide⟩ ⟨by decide, by decide⟩ rfl (Nat.le_of_ble_eq_true rfl) rfl dX7_told_2 ?_
  refine q_istore (pc := 5) (lo' := [(0, .ref (o 1)), (1, .int x1), (2, .int x2), (3, .int x3), (4, .ref (o q4)), (5, .int r1.1)]) hX [1, 2, 3, 4, 5, 0] (by decide) rfl dX7_told_5 ?_
  refine q_aload_n (pc := 7) hX 0 rfl rfl dX7_told_7 ?_
  refine q_iload (pc := 8) hX 5 rfl dX7_told_8 ?_
  obtain ⟨p5, hp5, hE⟩ := ob_bind hE
  suffices Jp5 : WM X o hn r1.2 G 0 0 40 6 [(0, .ref (o 1)), (2, .int x2), (3, .int x3), (4, .ref (o q4))] [.int p5, .ref (o 1)] by
    refine q_if_eq (pc := 10) hX 36 (by decide) dX7_told_10 (fun c => ?_) (fun c => ?_)
    · rw [if_pos c] at hp5
      refine q_aload_n (pc := 36) hX 0 rfl rfl dX7_told_36 ?_
      refine q_get (pc := 37) (id := 1) (ci := 7) (N := 34) (T := TX7) (C := RX7) hX 0 (lt46 (by decide)) rfl rfl in_X7 (by decide) (Or.inl kw_106) rfl dX7_told_37 ?_
      refine q_lo [0, 2, 3, 4] rfl ?_
      cases hp5
      exact Jp5
    · rw [if_neg c] at hp5
      refine q_iload_n (pc := 13) hX 2 rfl rfl dX7_told_13 ?_
      refine q_iconst (pc := 14) hX (0) rfl dX7_told_14 ?_
      refine q_bipush (pc := 15) hX (6) (by decide) dX7_told_15 ?_
      obtain ⟨r3, hr3, hp5⟩ := ob_bind hp5
      refine q_callS (pc := 17) (As := [.int x2, .int 0, .int 6]) (rest := [.ref (o 1)]) (rv := some (.int r3)) (st' := [.int r3, .ref (o 1)]) hX (c_X7_in hr3) (sl_X7_97) pd_yX7_in rfl ⟨by decide, by decide⟩ ⟨by decide, by decide⟩ rfl (Nat.le_of_ble_eq_true rfl) rfl dX7_told_17 ?_
      refine q_if_eq (pc := 20) hX 32 (by decide) dX7_told_20 (fun c => ?_) (fun c => ?_)
      · rw [if_pos c] at hp5
        refine q_iconst (pc := 32) hX (2) rfl dX7_told_32 ?_
        refine q_goto (pc := 33) hX 40 (by decide) dX7_told_33 ?_
        refine q_lo [0, 2, 3, 4] rfl ?_
        cases hp5
        exact Jp5
      · rw [if_neg c] at hp5
        refine q_iload_n (pc := 23) hX 3 rfl rfl dX7_told_23 ?_
        refine q_iconst (pc := 24) hX (0) rfl dX7_told_24 ?_
        refine q_iconst (pc := 25) hX (2) rfl dX7_told_25 ?_
        obtain ⟨r4, hr4, hp5⟩ := ob_bind hp5
        refine q_callS (pc := 26) (As := [.int x3, .int 0, .int 2]) (rest := [.ref (o 1)]) (rv := some (.int r4)) (st' := [.int r4, .ref (o 1)]) hX (c_X7_in hr4) (sl_X7_97) pd_yX7_in rfl ⟨by decide, by decide⟩ ⟨by decide, by decide⟩ rfl (Nat.le_of_ble_eq_true rfl) rfl dX7_told_26 ?_
        refine q_if_ne (pc := 29) hX 36 (by decide) dX7_told_29 (fun c => ?_) (fun c => ?_)
        · rw [if_neg c] at hp5
          refine q_aload_n (pc := 36) hX 0 rfl rfl dX7_told_36 ?_
          refine q_get (pc := 37) (id := 1) (ci := 7) (N := 34) (T := TX7) (C := RX7) hX 0 (lt46 (by decide)) rfl rfl in_X7 (by decide) (Or.inl kw_106) rfl dX7_told_37 ?_
          refine q_lo [0, 2, 3, 4] rfl ?_
          cases hp5
          exact Jp5
        · rw [if_pos c] at hp5
          refine q_iconst (pc := 32) hX (2) rfl dX7_told_32 ?_
          refine q_goto (pc := 33) hX 40 (by decide) dX7_told_33 ?_
          refine q_lo [0, 2, 3, 4] rfl ?_
          cases hp5
          exact Jp5
  obtain ⟨M6, hM6⟩ : ∃ z : Mem, z = mst r1.2 1 0 p5 := ⟨_, rfl⟩
  have hE := bnd_nm hM6 hE
  refine pu_M_thrown (pc := 40) hX hM6 (Or.inl kw_106) dX7_told_40 ?_
  refine q_aload_n (pc := 43) hX 0 rfl rfl dX7_told_43 ?_
  refine q_get (pc := 44) (id := 1) (ci := 7) (N := 34) (T := TX7) (C := RX7) hX 0 (lt46 (by decide)) rfl rfl in_X7 (by decide) (Or.inl kw_106) rfl dX7_told_44 ?_
  refine q_if_le (pc := 47) hX 54 (by decide) dX7_told_47 (fun c => ?_) (fun c => ?_)
  · rw [if_pos c] at hE
    refine q_aload (pc := 54) hX 3 rfl dX7_told_54 ?_
    refine q_iconst (pc := 56) hX (3) rfl dX7_told_56 ?_
    refine q_iload_n (pc := 57) hX 1 rfl rfl dX7_told_57 ?_
    refine q_imul (pc := 58) hX dX7_told_58 ?_
    refine q_iload_n (pc := 59) hX 2 rfl rfl dX7_told_59 ?_
    refine q_iadd (pc := 60) hX dX7_told_60 ?_
    obtain ⟨v7, hv7, hE⟩ := ob_bind hE
    refine r_iald (pc := 61) (id := q4) (n := 21) hX (lt46 hq4.1) (fun f g => hq4.2 _ _ _ f g) hv7 dX7_told_61 ?_
    cases hE
    exact q_iret hX hR (by decide) (by decide) dX7_told_62
  · rw [if_neg c] at hE
    refine q_iconst (pc := 50) hX (0) rfl dX7_told_50 ?_
    refine q_goto (pc := 51) hX 62 (by decide) dX7_told_51 ?_
    cases hE
    exact q_iret hX hR (by decide) (by decide) dX7_told_62

set_option maxHeartbeats 4000000 in
theorem c_X7_minutes {Y : Lx} {o : Nat → Nat} {hn : Nat} {M : Mem} {G : Mel} {x1 : Int32} {x2 : Int32} {x3 : Int32} {rr : Int32} {Mr : Mem} (hE : s_X7_minutes M x1 x2 x3 = some (rr, Mr)) : MI Y yX7_minutes cX7_minutes 4 (some .int) 5 119 0 0 [.ref (o 1), .int x1, .int x2, .int x3] o hn M G (.inl (some (.int rr))) Mr G := by
  refine MI.of (by decide +kernel) (Nat.le_of_ble_eq_true rfl) (fun X hY hX hE0 hR => ?_)
  change CxOK X RX7 cX7_minutes 4 5 119 0 0 (some .int) at hX
  show WM X o hn M G 0 0 0 4 [(0, .ref (o 1)), (1, .int x1), (2, .int x2), (3, .int x3)] []
  unfold s_X7_minutes at hE
  refine q_aload_n (pc := 0) hX 0 rfl rfl dX7_minutes_0 ?_
  refine q_iload_n (pc := 1) hX 1 rfl rfl dX7_minutes_1 ?_
  refine q_iload_n (pc := 2) hX 2 rfl rfl dX7_minutes_2 ?_
  refine q_iload_n (pc := 3) hX 3 rfl rfl dX7_minutes_3 ?_
  refine q_aload_n (pc := 4) hX 0 rfl rfl dX7_minutes_4 ?_
  refine q_get (pc := 5) (id := 1) (ci := 7) (N := 34) (T := TX7) (C := RX7) hX 28 (lt46 (by decide)) rfl rfl in_X7 (by decide) (Or.inl kw_103) rfl dX7_minutes_5 ?_
  obtain ⟨r1, hr1, hE⟩ := ob_bind hE
  refine q_callV (pc := 8) (id := 1) (As := [.int x1, .int x2, .int x3, .ref (o 25)]) (rest := []) (rv := some (.int r1.1)) (st' := [.int r1.1]) hX (c_X7_told (arr_25) hr1) (vl_X7_184) (lt46 (by decide)) rfl rfl rfl pd_yX7_told rfl ⟨by decide, by decide⟩ ⟨by decide, by decide⟩ rfl (Nat.le_of_ble_eq_true rfl) rfl dX7_minutes_8 ?_
  cases hE
  exact q_iret hX hR (by decide) (by decide) dX7_minutes_11

set_option maxHeartbeats 4000000 in
theorem c_X7_quarters {Y : Lx} {o : Nat → Nat} {hn : Nat} {M : Mem} {G : Mel} {x1 : Int32} {x2 : Int32} {x3 : Int32} {rr : Int32} {Mr : Mem} (hE : s_X7_quarters M x1 x2 x3 = some (rr, Mr)) : MI Y yX7_quarters cX7_quarters 4 (some .int) 5 119 0 0 [.ref (o 1), .int x1, .int x2, .int x3] o hn M G (.inl (some (.int rr))) Mr G := by
  refine MI.of (by decide +kernel) (Nat.le_of_ble_eq_true rfl) (fun X hY hX hE0 hR => ?_)
  change CxOK X RX7 cX7_quarters 4 5 119 0 0 (some .int) at hX
  show WM X o hn M G 0 0 0 4 [(0, .ref (o 1)), (1, .int x1), (2, .int x2), (3, .int x3)] []
  unfold s_X7_quarters at hE
  refine q_aload_n (pc := 0) hX 0 rfl rfl dX7_quarters_0 ?_
  refine q_iload_n (pc := 1) hX 1 rfl rfl dX7_quarters_1 ?_
  refine q_iload_n (pc := 2) hX 2 rfl rfl dX7_quarters_2 ?_
  refine q_iload_n (pc := 3) hX 3 rfl rfl dX7_quarters_3 ?_
  refine q_aload_n (pc := 4) hX 0 rfl rfl dX7_quarters_4 ?_
  refine q_get (pc := 5) (id := 1) (ci := 7) (N := 34) (T := TX7) (C := RX7) hX 29 (lt46 (by decide)) rfl rfl in_X7 (by decide) (Or.inl kw_104) rfl dX7_quarters_5 ?_
  obtain ⟨r1, hr1, hE⟩ := ob_bind hE
  refine q_callV (pc := 8) (id := 1) (As := [.int x1, .int x2, .int x3, .ref (o 26)]) (rest := []) (rv := some (.int r1.1)) (st' := [.int r1.1]) hX (c_X7_told (arr_26) hr1) (vl_X7_184) (lt46 (by decide)) rfl rfl rfl pd_yX7_told rfl ⟨by decide, by decide⟩ ⟨by decide, by decide⟩ rfl (Nat.le_of_ble_eq_true rfl) rfl dX7_quarters_8 ?_
  cases hE
  exact q_iret hX hR (by decide) (by decide) dX7_quarters_11

set_option maxHeartbeats 4000000 in
theorem c_X7_premiumPay {Y : Lx} {o : Nat → Nat} {hn : Nat} {M : Mem} {G : Mel} {x1 : Int32} {rr : Int32} {Mr : Mem} (hE : s_X7_premiumPay M x1 = some (rr, Mr)) : MI Y yX7_premiumPay cX7_premiumPay 2 (some .int) 4 94 0 0 [.ref (o 1), .int x1] o hn M G (.inl (some (.int rr))) Mr G := by
  refine MI.of (by decide +kernel) (Nat.le_of_ble_eq_true rfl) (fun X hY hX hE0 hR => ?_)
  change CxOK X RX7 cX7_premiumPay 2 4 94 0 0 (some .int) at hX
  show WM X o hn M G 0 0 0 2 [(0, .ref (o 1)), (1, .int x1)] []
  unfold s_X7_premiumPay at hE
  refine q_aload_n (pc := 0) hX 0 rfl rfl dX7_premiumPay_0 ?_
  refine q_iload_n (pc := 1) hX 1 rfl rfl dX7_premiumPay_1 ?_
  obtain ⟨r1, hr1, hE⟩ := ob_bind hE
  refine q_callV (pc := 2) (id := 1) (As := [.int x1]) (rest := []) (rv := some (.int r1.1)) (st' := [.int r1.1]) hX (c_X7_looks hr1) (vl_X7_181) (lt46 (by decide)) rfl rfl rfl pd_yX7_looks rfl ⟨by decide, by decide⟩ ⟨by decide, by decide⟩ rfl (Nat.le_of_ble_eq_true rfl) rfl dX7_premiumPay_2 ?_
  refine q_if_eq (pc := 5) hX 15 (by decide) dX7_premiumPay_5 (fun c => ?_) (fun c => ?_)
  · rw [if_pos c] at hE
    refine q_iconst (pc := 15) hX (0) rfl dX7_premiumPay_15 ?_
    cases hE
    exact q_iret hX hR (by decide) (by decide) dX7_premiumPay_16
  · rw [if_neg c] at hE
    refine q_aload_n (pc := 8) hX 0 rfl rfl dX7_premiumPay_8 ?_
    obtain ⟨r2, hr2, hE⟩ := ob_bind hE
    refine q_callV (pc := 9) (id := 1) (As := []) (rest := []) (rv := some (.int r2)) (st' := [.int r2]) hX (c_X7_extra hr2) (vl_X7_170) (lt46 (by decide)) rfl rfl rfl pd_yX7_extra rfl ⟨by decide, by decide⟩ ⟨by decide, by decide⟩ rfl (Nat.le_of_ble_eq_true rfl) rfl dX7_premiumPay_9 ?_
    refine q_goto (pc := 12) hX 16 (by decide) dX7_premiumPay_12 ?_
    cases hE
    exact q_iret hX hR (by decide) (by decide) dX7_premiumPay_16

set_option maxHeartbeats 4000000 in
theorem c_X7_pay {Y : Lx} {o : Nat → Nat} {hn : Nat} {M : Mem} {G : Mel} {x1 : Int32} {rr : Int32} {Mr : Mem} (hE : s_X7_pay M x1 = some (rr, Mr)) : MI Y yX7_pay cX7_pay 2 (some .int) 4 95 0 0 [.ref (o 1), .int x1] o hn M G (.inl (some (.int rr))) Mr G := by
  refine MI.of (by decide +kernel) (Nat.le_of_ble_eq_true rfl) (fun X hY hX hE0 hR => ?_)
  change CxOK X RX7 cX7_pay 2 4 95 0 0 (some .int) at hX
  show WM X o hn M G 0 0 0 2 [(0, .ref (o 1)), (1, .int x1)] []
  unfold s_X7_pay at hE
  refine q_aload_n (pc := 0) hX 0 rfl rfl dX7_pay_0 ?_
  refine q_aload_n (pc := 1) hX 0 rfl rfl dX7_pay_1 ?_
  refine q_iload_n (pc := 2) hX 1 rfl rfl dX7_pay_2 ?_
  obtain ⟨r1, hr1, hE⟩ := ob_bind hE
  refine q_callV (pc := 3) (id := 1) (As := [.int x1]) (rest := [.ref (o 1)]) (rv := some (.int r1)) (st' := [.int r1, .ref (o 1)]) hX (c_X7_isOne hr1) (vl_X7_102) (lt46 (by decide)) rfl rfl rfl pd_yX7_isOne rfl ⟨by decide, by decide⟩ ⟨by decide, by decide⟩ rfl (Nat.le_of_ble_eq_true rfl) rfl dX7_pay_3 ?_
  obtain ⟨p3, hp3, hE⟩ := bnd_ob hE
  suffices Jp3 : WM X o hn M G 0 0 14 2 [(0, .ref (o 1)), (1, .int x1)] [.int p3, .ref (o 1)] by
    refine q_if_eq (pc := 6) hX 13 (by decide) dX7_pay_6 (fun c => ?_) (fun c => ?_)
    · rw [if_pos c] at hp3
      refine q_iconst (pc := 13) hX (1) rfl dX7_pay_13 ?_
      cases hp3
      exact Jp3
    · rw [if_neg c] at hp3
      refine q_iconst (pc := 9) hX (0) rfl dX7_pay_9 ?_
      refine q_goto (pc := 10) hX 14 (by decide) dX7_pay_10 ?_
      cases hp3
      exact Jp3
  obtain ⟨M4, hM4⟩ : ∃ z : Mem, z = mst M 1 0 p3 := ⟨_, rfl⟩
  have hE := bnd_nm hM4 hE
  refine pu_M_thrown (pc := 14) hX hM4 (Or.inl kw_106) dX7_pay_14 ?_
  refine q_aload_n (pc := 17) hX 0 rfl rfl dX7_pay_17 ?_
  refine q_get (pc := 18) (id := 1) (ci := 7) (N := 34) (T := TX7) (C := RX7) hX 0 (lt46 (by decide)) rfl rfl in_X7 (by decide) (Or.inl kw_106) rfl dX7_pay_18 ?_
  refine q_if_le (pc := 21) hX 28 (by decide) dX7_pay_21 (fun c => ?_) (fun c => ?_)
  · rw [if_pos c] at hE
    refine q_aload_n (pc := 28) hX 0 rfl rfl dX7_pay_28 ?_
    refine q_iload_n (pc := 29) hX 1 rfl rfl dX7_pay_29 ?_
    obtain ⟨r5, hr5, hE⟩ := ob_bind hE
    refine q_callV (pc := 30) (id := 1) (As := [.int x1]) (rest := []) (rv := some (.int r5.1)) (st' := [.int r5.1]) hX (c_X7_payOf hr5) (vl_X7_174) (lt46 (by decide)) rfl rfl rfl pd_yX7_payOf rfl ⟨by decide, by decide⟩ ⟨by decide, by decide⟩ rfl (Nat.le_of_ble_eq_true rfl) rfl dX7_pay_30 ?_
    cases hE
    exact q_iret hX hR (by decide) (by decide) dX7_pay_33
  · rw [if_neg c] at hE
    refine q_iconst (pc := 24) hX (0) rfl dX7_pay_24 ?_
    refine q_goto (pc := 25) hX 33 (by decide) dX7_pay_25 ?_
    cases hE
    exact q_iret hX hR (by decide) (by decide) dX7_pay_33
